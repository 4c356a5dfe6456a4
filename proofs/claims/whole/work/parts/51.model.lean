/-! ===== the reference: its cells; heaps of which the ints alone change ===== -/
def upI (h : AH) (F : Nat → Nat → Int32) : AH := (h.1, h.2.1, h.2.2.1, h.2.2.2.1, F, h.2.2.2.2.2.1, h.2.2.2.2.2.2)
section UPI
variable {h : AH} {F : Nat → Nat → Int32}
theorem hN_u : hN (upI h F) = hN h := rfl
theorem hU_u : hU (upI h F) = hU h := rfl
theorem hT_u : hT (upI h F) = hT h := rfl
theorem hL_u : hL (upI h F) = hL h := rfl
theorem hI_u : hI (upI h F) = F := rfl
theorem hJ_u : hJ (upI h F) = hJ h := rfl
theorem hR_u : hR (upI h F) = hR h := rfl
theorem sI_u {a k : Nat} {v : Int32} : sI (upI h F) a k v = upI h (up2 F a k v) := rfl
theorem upI_self : upI h (hI h) = h := rfl
end UPI
theorem sa_20 : sA 20 = some .int := rfl
theorem sa_21 : sA 21 = some .long := rfl
theorem sa_22 : sA 22 = some .long := rfl
theorem sa_23 : sA 23 = some (.object "TwoLevels$State") := rfl
theorem sa_24 : sA 24 = some (.object "TwoLevels$Shelf") := rfl
theorem sa_25 : sA 25 = some .int := rfl
theorem sa_26 : sA 26 = some .int := rfl
theorem sa_27 : sA 27 = some (.object "TwoLevels$Rule") := rfl
theorem sa_28 : sA 28 = some (.object "TwoLevels$Rule") := rfl
theorem sa_29 : sA 29 = some .int := rfl
theorem sa_30 : sA 30 = some .int := rfl
theorem sa_31 : sA 31 = some (.array .int) := rfl
theorem sa_32 : sA 32 = some .int := rfl
theorem sa_33 : sA 33 = some (.object "TwoLevels$Firsts") := rfl
theorem sa_34 : sA 34 = some .int := rfl
theorem sa_35 : sA 35 = some (.object "TwoLevels$Firsts") := rfl
theorem sa_36 : sA 36 = some .int := rfl
theorem sa_37 : sA 37 = some (.array .int) := rfl
theorem sa_38 : sA 38 = some .int := rfl
theorem sa_39 : sA 39 = some .int := rfl
theorem sa_40 : sA 40 = some .int := rfl
theorem sa_41 : sA 41 = some .int := rfl
theorem sa_42 : sA 42 = some (.object "TwoLevels$Choice") := rfl
theorem sa_43 : sA 43 = some .int := rfl
theorem sa_44 : sA 44 = some .int := rfl
theorem sa_45 : sA 45 = some .int := rfl
theorem sa_46 : sA 46 = some .int := rfl
theorem sa_47 : sA 47 = some .long := rfl
theorem sa_48 : sA 48 = some .int := rfl
theorem sa_49 : sA 49 = some .long := rfl
theorem sa_50 : sA 50 = some .long := rfl
theorem sa_51 : sA 51 = some (.object "TwoLevels$Node") := rfl
theorem sa_52 : sA 52 = some (.object "TwoLevels$Fit") := rfl
theorem sa_70 : sA 70 = some .int := rfl
theorem sa_71 : sA 71 = some .int := rfl
theorem sa_72 : sA 72 = some .int := rfl
theorem sa_73 : sA 73 = some .int := rfl
theorem sa_74 : sA 74 = some .boolean := rfl
theorem sa_75 : sA 75 = some .byte := rfl
theorem sa_76 : sA 76 = some .int := rfl
theorem sa_77 : sA 77 = some .int := rfl
theorem sa_78 : sA 78 = some .int := rfl
theorem sa_79 : sA 79 = some .int := rfl
theorem sa_80 : sA 80 = some .int := rfl
theorem sa_81 : sA 81 = some .int := rfl
theorem sa_82 : sA 82 = some .int := rfl
theorem sa_83 : sA 83 = some .int := rfl
theorem sa_84 : sA 84 = some .int := rfl
theorem sa_85 : sA 85 = some .boolean := rfl
theorem sa_86 : sA 86 = some .boolean := rfl
theorem sa_87 : sA 87 = some .int := rfl
theorem sa_88 : sA 88 = some .int := rfl
theorem sa_89 : sA 89 = some .int := rfl
theorem sa_90 : sA 90 = some .int := rfl
theorem sa_91 : sA 91 = some .int := rfl
theorem sa_92 : sA 92 = some .int := rfl
theorem sa_93 : sA 93 = some .int := rfl
theorem sa_94 : sA 94 = some .int := rfl
theorem sa_95 : sA 95 = some .int := rfl
theorem sa_96 : sA 96 = some .int := rfl
theorem sa_97 : sA 97 = some .int := rfl
theorem sa_98 : sA 98 = some .boolean := rfl
theorem sa_99 : sA 99 = some .int := rfl
theorem sa_100 : sA 100 = some .int := rfl
theorem sa_101 : sA 101 = some .int := rfl
def MT : List (Nat × Nat × Nat × Nat) := [(0, 1, 70, 1684), (1, 2, 71, 1584), (2, 3, 72, 15840), (3, 4, 73, 3368), (4, 5, 74, 2), (6, 6, 75, 500), (12, 7, 76, 2), (13, 8, 77, 7), (14, 9, 78, 100), (15, 10, 79, 140), (16, 11, 80, 14), (17, 12, 81, 924), (19, 13, 82, 6), (20, 14, 83, 120), (21, 15, 84, 360), (22, 16, 85, 26), (23, 17, 86, 6), (24, 18, 87, 2), (26, 19, 88, 84), (27, 20, 89, 84), (30, 21, 90, 6), (31, 22, 91, 6), (38, 23, 92, 13), (39, 24, 93, 13), (40, 25, 94, 13), (41, 26, 95, 13), (42, 27, 96, 13), (43, 28, 97, 78), (44, 29, 98, 13), (45, 30, 99, 6012), (46, 31, 100, 5010), (48, 32, 101, 60)]
def MOK (h : AH) (M : Nat) : Prop := hT h M = 13 ∧ ∀ q ∈ MT, hR h M q.1 = some (M + q.2.1) ∧ hT h (M + q.2.1) = q.2.2.1 ∧ hL h (M + q.2.1) = q.2.2.2
theorem mr_now {h : AH} {M : Nat} (H : MOK h M) : hR h M 0 = some (M + 1) := (H.2 _ (by decide : ((0, 1, 70, 1684) : Nat × Nat × Nat × Nat) ∈ MT)).1
theorem mt_now {h : AH} {M : Nat} (H : MOK h M) : hT h (M + 1) = 70 := (H.2 _ (by decide : ((0, 1, 70, 1684) : Nat × Nat × Nat × Nat) ∈ MT)).2.1
theorem ml_now {h : AH} {M : Nat} (H : MOK h M) : hL h (M + 1) = 1684 := (H.2 _ (by decide : ((0, 1, 70, 1684) : Nat × Nat × Nat × Nat) ∈ MT)).2.2
theorem mr_heard {h : AH} {M : Nat} (H : MOK h M) : hR h M 1 = some (M + 2) := (H.2 _ (by decide : ((1, 2, 71, 1584) : Nat × Nat × Nat × Nat) ∈ MT)).1
theorem mt_heard {h : AH} {M : Nat} (H : MOK h M) : hT h (M + 2) = 71 := (H.2 _ (by decide : ((1, 2, 71, 1584) : Nat × Nat × Nat × Nat) ∈ MT)).2.1
theorem ml_heard {h : AH} {M : Nat} (H : MOK h M) : hL h (M + 2) = 1584 := (H.2 _ (by decide : ((1, 2, 71, 1584) : Nat × Nat × Nat × Nat) ∈ MT)).2.2
theorem mr_past {h : AH} {M : Nat} (H : MOK h M) : hR h M 2 = some (M + 3) := (H.2 _ (by decide : ((2, 3, 72, 15840) : Nat × Nat × Nat × Nat) ∈ MT)).1
theorem mt_past {h : AH} {M : Nat} (H : MOK h M) : hT h (M + 3) = 72 := (H.2 _ (by decide : ((2, 3, 72, 15840) : Nat × Nat × Nat × Nat) ∈ MT)).2.1
theorem ml_past {h : AH} {M : Nat} (H : MOK h M) : hL h (M + 3) = 15840 := (H.2 _ (by decide : ((2, 3, 72, 15840) : Nat × Nat × Nat × Nat) ∈ MT)).2.2
theorem mr_shelf {h : AH} {M : Nat} (H : MOK h M) : hR h M 3 = some (M + 4) := (H.2 _ (by decide : ((3, 4, 73, 3368) : Nat × Nat × Nat × Nat) ∈ MT)).1
theorem mt_shelf {h : AH} {M : Nat} (H : MOK h M) : hT h (M + 4) = 73 := (H.2 _ (by decide : ((3, 4, 73, 3368) : Nat × Nat × Nat × Nat) ∈ MT)).2.1
theorem ml_shelf {h : AH} {M : Nat} (H : MOK h M) : hL h (M + 4) = 3368 := (H.2 _ (by decide : ((3, 4, 73, 3368) : Nat × Nat × Nat × Nat) ∈ MT)).2.2
theorem mr_isKept {h : AH} {M : Nat} (H : MOK h M) : hR h M 4 = some (M + 5) := (H.2 _ (by decide : ((4, 5, 74, 2) : Nat × Nat × Nat × Nat) ∈ MT)).1
theorem mt_isKept {h : AH} {M : Nat} (H : MOK h M) : hT h (M + 5) = 74 := (H.2 _ (by decide : ((4, 5, 74, 2) : Nat × Nat × Nat × Nat) ∈ MT)).2.1
theorem ml_isKept {h : AH} {M : Nat} (H : MOK h M) : hL h (M + 5) = 2 := (H.2 _ (by decide : ((4, 5, 74, 2) : Nat × Nat × Nat × Nat) ∈ MT)).2.2
theorem mr_tape {h : AH} {M : Nat} (H : MOK h M) : hR h M 6 = some (M + 6) := (H.2 _ (by decide : ((6, 6, 75, 500) : Nat × Nat × Nat × Nat) ∈ MT)).1
theorem mt_tape {h : AH} {M : Nat} (H : MOK h M) : hT h (M + 6) = 75 := (H.2 _ (by decide : ((6, 6, 75, 500) : Nat × Nat × Nat × Nat) ∈ MT)).2.1
theorem ml_tape {h : AH} {M : Nat} (H : MOK h M) : hL h (M + 6) = 500 := (H.2 _ (by decide : ((6, 6, 75, 500) : Nat × Nat × Nat × Nat) ∈ MT)).2.2
theorem mr_freeTold {h : AH} {M : Nat} (H : MOK h M) : hR h M 12 = some (M + 7) := (H.2 _ (by decide : ((12, 7, 76, 2) : Nat × Nat × Nat × Nat) ∈ MT)).1
theorem mt_freeTold {h : AH} {M : Nat} (H : MOK h M) : hT h (M + 7) = 76 := (H.2 _ (by decide : ((12, 7, 76, 2) : Nat × Nat × Nat × Nat) ∈ MT)).2.1
theorem ml_freeTold {h : AH} {M : Nat} (H : MOK h M) : hL h (M + 7) = 2 := (H.2 _ (by decide : ((12, 7, 76, 2) : Nat × Nat × Nat × Nat) ∈ MT)).2.2
theorem mr_front {h : AH} {M : Nat} (H : MOK h M) : hR h M 13 = some (M + 8) := (H.2 _ (by decide : ((13, 8, 77, 7) : Nat × Nat × Nat × Nat) ∈ MT)).1
theorem mt_front {h : AH} {M : Nat} (H : MOK h M) : hT h (M + 8) = 77 := (H.2 _ (by decide : ((13, 8, 77, 7) : Nat × Nat × Nat × Nat) ∈ MT)).2.1
theorem ml_front {h : AH} {M : Nat} (H : MOK h M) : hL h (M + 8) = 7 := (H.2 _ (by decide : ((13, 8, 77, 7) : Nat × Nat × Nat × Nat) ∈ MT)).2.2
theorem mr_letters {h : AH} {M : Nat} (H : MOK h M) : hR h M 14 = some (M + 9) := (H.2 _ (by decide : ((14, 9, 78, 100) : Nat × Nat × Nat × Nat) ∈ MT)).1
theorem mt_letters {h : AH} {M : Nat} (H : MOK h M) : hT h (M + 9) = 78 := (H.2 _ (by decide : ((14, 9, 78, 100) : Nat × Nat × Nat × Nat) ∈ MT)).2.1
theorem ml_letters {h : AH} {M : Nat} (H : MOK h M) : hL h (M + 9) = 100 := (H.2 _ (by decide : ((14, 9, 78, 100) : Nat × Nat × Nat × Nat) ∈ MT)).2.2
theorem mr_spelled {h : AH} {M : Nat} (H : MOK h M) : hR h M 15 = some (M + 10) := (H.2 _ (by decide : ((15, 10, 79, 140) : Nat × Nat × Nat × Nat) ∈ MT)).1
theorem mt_spelled {h : AH} {M : Nat} (H : MOK h M) : hT h (M + 10) = 79 := (H.2 _ (by decide : ((15, 10, 79, 140) : Nat × Nat × Nat × Nat) ∈ MT)).2.1
theorem ml_spelled {h : AH} {M : Nat} (H : MOK h M) : hL h (M + 10) = 140 := (H.2 _ (by decide : ((15, 10, 79, 140) : Nat × Nat × Nat × Nat) ∈ MT)).2.2
theorem mr_length {h : AH} {M : Nat} (H : MOK h M) : hR h M 16 = some (M + 11) := (H.2 _ (by decide : ((16, 11, 80, 14) : Nat × Nat × Nat × Nat) ∈ MT)).1
theorem mt_length {h : AH} {M : Nat} (H : MOK h M) : hT h (M + 11) = 80 := (H.2 _ (by decide : ((16, 11, 80, 14) : Nat × Nat × Nat × Nat) ∈ MT)).2.1
theorem ml_length {h : AH} {M : Nat} (H : MOK h M) : hL h (M + 11) = 14 := (H.2 _ (by decide : ((16, 11, 80, 14) : Nat × Nat × Nat × Nat) ∈ MT)).2.2
theorem mr_spans {h : AH} {M : Nat} (H : MOK h M) : hR h M 17 = some (M + 12) := (H.2 _ (by decide : ((17, 12, 81, 924) : Nat × Nat × Nat × Nat) ∈ MT)).1
theorem mt_spans {h : AH} {M : Nat} (H : MOK h M) : hT h (M + 12) = 81 := (H.2 _ (by decide : ((17, 12, 81, 924) : Nat × Nat × Nat × Nat) ∈ MT)).2.1
theorem ml_spans {h : AH} {M : Nat} (H : MOK h M) : hL h (M + 12) = 924 := (H.2 _ (by decide : ((17, 12, 81, 924) : Nat × Nat × Nat × Nat) ∈ MT)).2.2
theorem mr_hasMany {h : AH} {M : Nat} (H : MOK h M) : hR h M 19 = some (M + 13) := (H.2 _ (by decide : ((19, 13, 82, 6) : Nat × Nat × Nat × Nat) ∈ MT)).1
theorem mt_hasMany {h : AH} {M : Nat} (H : MOK h M) : hT h (M + 13) = 82 := (H.2 _ (by decide : ((19, 13, 82, 6) : Nat × Nat × Nat × Nat) ∈ MT)).2.1
theorem ml_hasMany {h : AH} {M : Nat} (H : MOK h M) : hL h (M + 13) = 6 := (H.2 _ (by decide : ((19, 13, 82, 6) : Nat × Nat × Nat × Nat) ∈ MT)).2.2
theorem mr_hasLong {h : AH} {M : Nat} (H : MOK h M) : hR h M 20 = some (M + 14) := (H.2 _ (by decide : ((20, 14, 83, 120) : Nat × Nat × Nat × Nat) ∈ MT)).1
theorem mt_hasLong {h : AH} {M : Nat} (H : MOK h M) : hT h (M + 14) = 83 := (H.2 _ (by decide : ((20, 14, 83, 120) : Nat × Nat × Nat × Nat) ∈ MT)).2.1
theorem ml_hasLong {h : AH} {M : Nat} (H : MOK h M) : hL h (M + 14) = 120 := (H.2 _ (by decide : ((20, 14, 83, 120) : Nat × Nat × Nat × Nat) ∈ MT)).2.2
theorem mr_hasWord {h : AH} {M : Nat} (H : MOK h M) : hR h M 21 = some (M + 15) := (H.2 _ (by decide : ((21, 15, 84, 360) : Nat × Nat × Nat × Nat) ∈ MT)).1
theorem mt_hasWord {h : AH} {M : Nat} (H : MOK h M) : hT h (M + 15) = 84 := (H.2 _ (by decide : ((21, 15, 84, 360) : Nat × Nat × Nat × Nat) ∈ MT)).2.1
theorem ml_hasWord {h : AH} {M : Nat} (H : MOK h M) : hL h (M + 15) = 360 := (H.2 _ (by decide : ((21, 15, 84, 360) : Nat × Nat × Nat × Nat) ∈ MT)).2.2
theorem mr_stands {h : AH} {M : Nat} (H : MOK h M) : hR h M 22 = some (M + 16) := (H.2 _ (by decide : ((22, 16, 85, 26) : Nat × Nat × Nat × Nat) ∈ MT)).1
theorem mt_stands {h : AH} {M : Nat} (H : MOK h M) : hT h (M + 16) = 85 := (H.2 _ (by decide : ((22, 16, 85, 26) : Nat × Nat × Nat × Nat) ∈ MT)).2.1
theorem ml_stands {h : AH} {M : Nat} (H : MOK h M) : hL h (M + 16) = 26 := (H.2 _ (by decide : ((22, 16, 85, 26) : Nat × Nat × Nat × Nat) ∈ MT)).2.2
theorem mr_comesOut {h : AH} {M : Nat} (H : MOK h M) : hR h M 23 = some (M + 17) := (H.2 _ (by decide : ((23, 17, 86, 6) : Nat × Nat × Nat × Nat) ∈ MT)).1
theorem mt_comesOut {h : AH} {M : Nat} (H : MOK h M) : hT h (M + 17) = 86 := (H.2 _ (by decide : ((23, 17, 86, 6) : Nat × Nat × Nat × Nat) ∈ MT)).2.1
theorem ml_comesOut {h : AH} {M : Nat} (H : MOK h M) : hL h (M + 17) = 6 := (H.2 _ (by decide : ((23, 17, 86, 6) : Nat × Nat × Nat × Nat) ∈ MT)).2.2
theorem mr_freeOf {h : AH} {M : Nat} (H : MOK h M) : hR h M 24 = some (M + 18) := (H.2 _ (by decide : ((24, 18, 87, 2) : Nat × Nat × Nat × Nat) ∈ MT)).1
theorem mt_freeOf {h : AH} {M : Nat} (H : MOK h M) : hT h (M + 18) = 87 := (H.2 _ (by decide : ((24, 18, 87, 2) : Nat × Nat × Nat × Nat) ∈ MT)).2.1
theorem ml_freeOf {h : AH} {M : Nat} (H : MOK h M) : hL h (M + 18) = 2 := (H.2 _ (by decide : ((24, 18, 87, 2) : Nat × Nat × Nat × Nat) ∈ MT)).2.2
theorem mr_begins {h : AH} {M : Nat} (H : MOK h M) : hR h M 26 = some (M + 19) := (H.2 _ (by decide : ((26, 19, 88, 84) : Nat × Nat × Nat × Nat) ∈ MT)).1
theorem mt_begins {h : AH} {M : Nat} (H : MOK h M) : hT h (M + 19) = 88 := (H.2 _ (by decide : ((26, 19, 88, 84) : Nat × Nat × Nat × Nat) ∈ MT)).2.1
theorem ml_begins {h : AH} {M : Nat} (H : MOK h M) : hL h (M + 19) = 84 := (H.2 _ (by decide : ((26, 19, 88, 84) : Nat × Nat × Nat × Nat) ∈ MT)).2.2
theorem mr_wide {h : AH} {M : Nat} (H : MOK h M) : hR h M 27 = some (M + 20) := (H.2 _ (by decide : ((27, 20, 89, 84) : Nat × Nat × Nat × Nat) ∈ MT)).1
theorem mt_wide {h : AH} {M : Nat} (H : MOK h M) : hT h (M + 20) = 89 := (H.2 _ (by decide : ((27, 20, 89, 84) : Nat × Nat × Nat × Nat) ∈ MT)).2.1
theorem ml_wide {h : AH} {M : Nat} (H : MOK h M) : hL h (M + 20) = 84 := (H.2 _ (by decide : ((27, 20, 89, 84) : Nat × Nat × Nat × Nat) ∈ MT)).2.2
theorem mr_keptBegin {h : AH} {M : Nat} (H : MOK h M) : hR h M 30 = some (M + 21) := (H.2 _ (by decide : ((30, 21, 90, 6) : Nat × Nat × Nat × Nat) ∈ MT)).1
theorem mt_keptBegin {h : AH} {M : Nat} (H : MOK h M) : hT h (M + 21) = 90 := (H.2 _ (by decide : ((30, 21, 90, 6) : Nat × Nat × Nat × Nat) ∈ MT)).2.1
theorem ml_keptBegin {h : AH} {M : Nat} (H : MOK h M) : hL h (M + 21) = 6 := (H.2 _ (by decide : ((30, 21, 90, 6) : Nat × Nat × Nat × Nat) ∈ MT)).2.2
theorem mr_keptWide {h : AH} {M : Nat} (H : MOK h M) : hR h M 31 = some (M + 22) := (H.2 _ (by decide : ((31, 22, 91, 6) : Nat × Nat × Nat × Nat) ∈ MT)).1
theorem mt_keptWide {h : AH} {M : Nat} (H : MOK h M) : hT h (M + 22) = 91 := (H.2 _ (by decide : ((31, 22, 91, 6) : Nat × Nat × Nat × Nat) ∈ MT)).2.1
theorem ml_keptWide {h : AH} {M : Nat} (H : MOK h M) : hL h (M + 22) = 6 := (H.2 _ (by decide : ((31, 22, 91, 6) : Nat × Nat × Nat × Nat) ∈ MT)).2.2
theorem mr_fromOf {h : AH} {M : Nat} (H : MOK h M) : hR h M 38 = some (M + 23) := (H.2 _ (by decide : ((38, 23, 92, 13) : Nat × Nat × Nat × Nat) ∈ MT)).1
theorem mt_fromOf {h : AH} {M : Nat} (H : MOK h M) : hT h (M + 23) = 92 := (H.2 _ (by decide : ((38, 23, 92, 13) : Nat × Nat × Nat × Nat) ∈ MT)).2.1
theorem ml_fromOf {h : AH} {M : Nat} (H : MOK h M) : hL h (M + 23) = 13 := (H.2 _ (by decide : ((38, 23, 92, 13) : Nat × Nat × Nat × Nat) ∈ MT)).2.2
theorem mr_toOf {h : AH} {M : Nat} (H : MOK h M) : hR h M 39 = some (M + 24) := (H.2 _ (by decide : ((39, 24, 93, 13) : Nat × Nat × Nat × Nat) ∈ MT)).1
theorem mt_toOf {h : AH} {M : Nat} (H : MOK h M) : hT h (M + 24) = 93 := (H.2 _ (by decide : ((39, 24, 93, 13) : Nat × Nat × Nat × Nat) ∈ MT)).2.1
theorem ml_toOf {h : AH} {M : Nat} (H : MOK h M) : hL h (M + 24) = 13 := (H.2 _ (by decide : ((39, 24, 93, 13) : Nat × Nat × Nat × Nat) ∈ MT)).2.2
theorem mr_ruleOf {h : AH} {M : Nat} (H : MOK h M) : hR h M 40 = some (M + 25) := (H.2 _ (by decide : ((40, 25, 94, 13) : Nat × Nat × Nat × Nat) ∈ MT)).1
theorem mt_ruleOf {h : AH} {M : Nat} (H : MOK h M) : hT h (M + 25) = 94 := (H.2 _ (by decide : ((40, 25, 94, 13) : Nat × Nat × Nat × Nat) ∈ MT)).2.1
theorem ml_ruleOf {h : AH} {M : Nat} (H : MOK h M) : hL h (M + 25) = 13 := (H.2 _ (by decide : ((40, 25, 94, 13) : Nat × Nat × Nat × Nat) ∈ MT)).2.2
theorem mr_numberOf {h : AH} {M : Nat} (H : MOK h M) : hR h M 41 = some (M + 26) := (H.2 _ (by decide : ((41, 26, 95, 13) : Nat × Nat × Nat × Nat) ∈ MT)).1
theorem mt_numberOf {h : AH} {M : Nat} (H : MOK h M) : hT h (M + 26) = 95 := (H.2 _ (by decide : ((41, 26, 95, 13) : Nat × Nat × Nat × Nat) ∈ MT)).2.1
theorem ml_numberOf {h : AH} {M : Nat} (H : MOK h M) : hL h (M + 26) = 13 := (H.2 _ (by decide : ((41, 26, 95, 13) : Nat × Nat × Nat × Nat) ∈ MT)).2.2
theorem mr_nodeOf {h : AH} {M : Nat} (H : MOK h M) : hR h M 42 = some (M + 27) := (H.2 _ (by decide : ((42, 27, 96, 13) : Nat × Nat × Nat × Nat) ∈ MT)).1
theorem mt_nodeOf {h : AH} {M : Nat} (H : MOK h M) : hT h (M + 27) = 96 := (H.2 _ (by decide : ((42, 27, 96, 13) : Nat × Nat × Nat × Nat) ∈ MT)).2.1
theorem ml_nodeOf {h : AH} {M : Nat} (H : MOK h M) : hL h (M + 27) = 13 := (H.2 _ (by decide : ((42, 27, 96, 13) : Nat × Nat × Nat × Nat) ∈ MT)).2.2
theorem mr_freeWord {h : AH} {M : Nat} (H : MOK h M) : hR h M 43 = some (M + 28) := (H.2 _ (by decide : ((43, 28, 97, 78) : Nat × Nat × Nat × Nat) ∈ MT)).1
theorem mt_freeWord {h : AH} {M : Nat} (H : MOK h M) : hT h (M + 28) = 97 := (H.2 _ (by decide : ((43, 28, 97, 78) : Nat × Nat × Nat × Nat) ∈ MT)).2.1
theorem ml_freeWord {h : AH} {M : Nat} (H : MOK h M) : hL h (M + 28) = 78 := (H.2 _ (by decide : ((43, 28, 97, 78) : Nat × Nat × Nat × Nat) ∈ MT)).2.2
theorem mr_isSeen {h : AH} {M : Nat} (H : MOK h M) : hR h M 44 = some (M + 29) := (H.2 _ (by decide : ((44, 29, 98, 13) : Nat × Nat × Nat × Nat) ∈ MT)).1
theorem mt_isSeen {h : AH} {M : Nat} (H : MOK h M) : hT h (M + 29) = 98 := (H.2 _ (by decide : ((44, 29, 98, 13) : Nat × Nat × Nat × Nat) ∈ MT)).2.1
theorem ml_isSeen {h : AH} {M : Nat} (H : MOK h M) : hL h (M + 29) = 13 := (H.2 _ (by decide : ((44, 29, 98, 13) : Nat × Nat × Nat × Nat) ∈ MT)).2.2
theorem mr_node {h : AH} {M : Nat} (H : MOK h M) : hR h M 45 = some (M + 30) := (H.2 _ (by decide : ((45, 30, 99, 6012) : Nat × Nat × Nat × Nat) ∈ MT)).1
theorem mt_node {h : AH} {M : Nat} (H : MOK h M) : hT h (M + 30) = 99 := (H.2 _ (by decide : ((45, 30, 99, 6012) : Nat × Nat × Nat × Nat) ∈ MT)).2.1
theorem ml_node {h : AH} {M : Nat} (H : MOK h M) : hL h (M + 30) = 6012 := (H.2 _ (by decide : ((45, 30, 99, 6012) : Nat × Nat × Nat × Nat) ∈ MT)).2.2
theorem mr_nodeLetters {h : AH} {M : Nat} (H : MOK h M) : hR h M 46 = some (M + 31) := (H.2 _ (by decide : ((46, 31, 100, 5010) : Nat × Nat × Nat × Nat) ∈ MT)).1
theorem mt_nodeLetters {h : AH} {M : Nat} (H : MOK h M) : hT h (M + 31) = 100 := (H.2 _ (by decide : ((46, 31, 100, 5010) : Nat × Nat × Nat × Nat) ∈ MT)).2.1
theorem ml_nodeLetters {h : AH} {M : Nat} (H : MOK h M) : hL h (M + 31) = 5010 := (H.2 _ (by decide : ((46, 31, 100, 5010) : Nat × Nat × Nat × Nat) ∈ MT)).2.2
theorem mr_made {h : AH} {M : Nat} (H : MOK h M) : hR h M 48 = some (M + 32) := (H.2 _ (by decide : ((48, 32, 101, 60) : Nat × Nat × Nat × Nat) ∈ MT)).1
theorem mt_made {h : AH} {M : Nat} (H : MOK h M) : hT h (M + 32) = 101 := (H.2 _ (by decide : ((48, 32, 101, 60) : Nat × Nat × Nat × Nat) ∈ MT)).2.1
theorem ml_made {h : AH} {M : Nat} (H : MOK h M) : hL h (M + 32) = 60 := (H.2 _ (by decide : ((48, 32, 101, 60) : Nat × Nat × Nat × Nat) ∈ MT)).2.2
theorem MOK_u {h : AH} {M : Nat} {F : Nat → Nat → Int32} (H : MOK h M) : MOK (upI h F) M := H
theorem q_in {h : AH} {x a b : Int32} : d_M_in [.int x, .int a, .int b] h = some (if a ≤ x ∧ x ≤ b then nI 1 else nI 0, h) := by
  obtain ⟨r, h', e, p⟩ := wpm_intro (d := d_M_in) (av := [.int x, .int a, .int b]) (h := h) (P := fun r h' => r = (if a ≤ x ∧ x ≤ b then nI 1 else nI 0) ∧ h' = h) (by
    unfold d_M_in
    simp only [m_mth, s_sk, s_brk, s_cnt, s_sq, s_if, s_rtn, s_rtnU, s_E, s_I1, s_R1, s_J1, s_Inc, s_h2, s_h3, s_u2, s_u3, e_C, e_h1, e_h2, e_lI, e_lJ, e_lR, e_if, e_and, e_or, e_not, a_nil, a_I, a_J, a_R, e_kS, e_kV, e_kN, e_nA, ok_some, ok_none, ok_bind, ok_guard, ok_guardN, asI_int, asJ_long, asR_ref, asR_rf, asR_null, entL, ent, sto, sto2, ok1, Value.category, va_rf, List.length_cons, List.length_nil, List.length_append, List.length_replicate, List.nil_append, List.cons_append, List.append_nil, List.replicate_succ, List.replicate_zero, List.getElem?_cons_zero, List.getElem?_cons_succ, List.set_cons_zero, List.set_cons_succ, gI, gJ, gR, pI, pJ, pR, aI, aJ, aR, aL, stI, stB, stZ, stJ, uF, uA, Option.bind_some, iaddF, isubF, imulF, iandF, iorF, ixorF, ishlF, ishrF, iushrF, inegF, i2bF, i2lF, l2iF, c_eq, c_ne, c_lt, c_le, c_gt, c_ge, z_eq, z_ne, z_lt, z_le, z_gt, z_ge, j_eq, j_ne, j_gt, n_nul, n_non, tt, zz, hN_u, hU_u, hT_u, hL_u, hI_u, hJ_u, hR_u, sI_u, decide_eq_true_eq, true_and, and_true, if_true, reduceIte, beq_self_eq_true, Bool.true_or, Bool.and_self, Nat.reduceAdd, Nat.reduceSub, Nat.reduceLT, Nat.reduceLeDiff, Nat.reduceBEq, Nat.reduceEqDiff, Bool.or_true, Bool.false_or, List.mem_cons, List.mem_singleton, true_or, or_true, sa_20, sa_21, sa_22, sa_23, sa_24, sa_25, sa_26, sa_27, sa_28, sa_29, sa_30, sa_31, sa_32, sa_33, sa_34, sa_35, sa_36, sa_37, sa_38, sa_39, sa_40, sa_41, sa_42, sa_43, sa_44, sa_45, sa_46, sa_47, sa_48, sa_49, sa_50, sa_51, sa_52, sa_70, sa_71, sa_72, sa_73, sa_74, sa_75, sa_76, sa_77, sa_78, sa_79, sa_80, sa_81, sa_82, sa_83, sa_84, sa_85, sa_86, sa_87, sa_88, sa_89, sa_90, sa_91, sa_92, sa_93, sa_94, sa_95, sa_96, sa_97, sa_98, sa_99, sa_100, sa_101]
    by_cases h1 : a ≤ x <;> by_cases h2 : x ≤ b <;> simp [h1, h2, nI])
  rw [e, p.1, p.2]
theorem q_isSmall {h : AH} {x : Int32} : d_M_isSmall [.int x] h = some (if nI 97 ≤ x ∧ x ≤ nI 122 then nI 1 else nI 0, h) := by
  obtain ⟨r, h', e, p⟩ := wpm_intro (d := d_M_isSmall) (av := [.int x]) (h := h) (P := fun r h' => r = (if nI 97 ≤ x ∧ x ≤ nI 122 then nI 1 else nI 0) ∧ h' = h) (by
    unfold d_M_isSmall
    simp only [m_mth, s_sk, s_brk, s_cnt, s_sq, s_if, s_rtn, s_rtnU, s_E, s_I1, s_R1, s_J1, s_Inc, s_h2, s_h3, s_u2, s_u3, e_C, e_h1, e_h2, e_lI, e_lJ, e_lR, e_if, e_and, e_or, e_not, a_nil, a_I, a_J, a_R, e_kS, e_kV, e_kN, e_nA, ok_some, ok_none, ok_bind, ok_guard, ok_guardN, asI_int, asJ_long, asR_ref, asR_rf, asR_null, entL, ent, sto, sto2, ok1, Value.category, va_rf, List.length_cons, List.length_nil, List.length_append, List.length_replicate, List.nil_append, List.cons_append, List.append_nil, List.replicate_succ, List.replicate_zero, List.getElem?_cons_zero, List.getElem?_cons_succ, List.set_cons_zero, List.set_cons_succ, gI, gJ, gR, pI, pJ, pR, aI, aJ, aR, aL, stI, stB, stZ, stJ, uF, uA, Option.bind_some, iaddF, isubF, imulF, iandF, iorF, ixorF, ishlF, ishrF, iushrF, inegF, i2bF, i2lF, l2iF, c_eq, c_ne, c_lt, c_le, c_gt, c_ge, z_eq, z_ne, z_lt, z_le, z_gt, z_ge, j_eq, j_ne, j_gt, n_nul, n_non, tt, zz, hN_u, hU_u, hT_u, hL_u, hI_u, hJ_u, hR_u, sI_u, decide_eq_true_eq, true_and, and_true, if_true, reduceIte, beq_self_eq_true, Bool.true_or, Bool.and_self, Nat.reduceAdd, Nat.reduceSub, Nat.reduceLT, Nat.reduceLeDiff, Nat.reduceBEq, Nat.reduceEqDiff, Bool.or_true, Bool.false_or, List.mem_cons, List.mem_singleton, true_or, or_true, sa_20, sa_21, sa_22, sa_23, sa_24, sa_25, sa_26, sa_27, sa_28, sa_29, sa_30, sa_31, sa_32, sa_33, sa_34, sa_35, sa_36, sa_37, sa_38, sa_39, sa_40, sa_41, sa_42, sa_43, sa_44, sa_45, sa_46, sa_47, sa_48, sa_49, sa_50, sa_51, sa_52, sa_70, sa_71, sa_72, sa_73, sa_74, sa_75, sa_76, sa_77, sa_78, sa_79, sa_80, sa_81, sa_82, sa_83, sa_84, sa_85, sa_86, sa_87, sa_88, sa_89, sa_90, sa_91, sa_92, sa_93, sa_94, sa_95, sa_96, sa_97, sa_98, sa_99, sa_100, sa_101, wpm_eq q_in]
    split <;> simp [nI])
  rw [e, p.1, p.2]
