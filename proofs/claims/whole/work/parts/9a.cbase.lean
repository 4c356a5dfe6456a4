/-! ===== the class: heaps, blocks, long numbers ===== -/
theorem sa_53 : sA 53 = some .int := rfl
theorem sa_54 : sA 54 = some .int := rfl
section CW
variable {ρ : Type} {σ : List Value} {h : AH} {N B C : List Value → AH → Prop} {R : ρ → AH → Prop}
theorem s_obj : wps (sObj : ST ρ) σ h N B C R ↔ wpe (lR 0) σ h (fun x h1 => ok x (fun _ => N σ h1)) := by
  simp only [wps, wpe, sObj, ok_bind, ok_some, exQ]
theorem s_ar {f : List Value → AH → Option AH} {as : List (EX Value)} : wps (sAr f as : ST ρ) σ h N B C R ↔ wpa as σ h (fun vs h1 => ok (f vs h1) (fun z => N σ z)) := by
  simp only [wps, wpa, sAr, ok_bind, ok_some, exQ]
theorem e_cl {ty : FieldType} {t : Nat} {a : EX (Option Nat)} {Q : Option Nat → AH → Prop} : wpe (eCl ty t a) σ h Q ↔ wpe a σ h (fun x h1 => ok x (fun b => sA (hT h1 b) = some ty ∧ Q (some (hN h1)) (nwC h1 t (hL h1 b) (hL h1 b) (hI h1 b) (hJ h1 b) (hR h1 b)))) := by
  simp only [wpe, eCl, ok_bind, ok_guard, ok_some]
theorem e_st {ws : List Nat} {C : String} {tv : Nat} {b e : EX (Option Nat)} {i : Int32} {Q : Option Nat → AH → Prop} : wpe (eSt ws C tv b i e) σ h Q ↔ wpe b σ h (fun x h1 => wpe e σ h1 (fun y h2 => ok (stO ws C tv x i y h2) (fun z => Q x z))) := by
  simp only [wpe, eSt, ok_bind, ok_some]
end CW
/-! what is written, and what is read then -/
section CH
variable {h : AH} {a k t n u : Nat}
theorem hN_sI {v : Int32} : hN (sI h a k v) = hN h := rfl
theorem hU_sI {v : Int32} : hU (sI h a k v) = hU h := rfl
theorem hT_sI {v : Int32} : hT (sI h a k v) = hT h := rfl
theorem hL_sI {v : Int32} : hL (sI h a k v) = hL h := rfl
theorem hI_sI {v : Int32} : hI (sI h a k v) = up2 (hI h) a k v := rfl
theorem hJ_sI {v : Int32} : hJ (sI h a k v) = hJ h := rfl
theorem hR_sI {v : Int32} : hR (sI h a k v) = hR h := rfl
theorem hN_sJ {v : Int64} : hN (sJ h a k v) = hN h := rfl
theorem hU_sJ {v : Int64} : hU (sJ h a k v) = hU h := rfl
theorem hT_sJ {v : Int64} : hT (sJ h a k v) = hT h := rfl
theorem hL_sJ {v : Int64} : hL (sJ h a k v) = hL h := rfl
theorem hI_sJ {v : Int64} : hI (sJ h a k v) = hI h := rfl
theorem hJ_sJ {v : Int64} : hJ (sJ h a k v) = up2 (hJ h) a k v := rfl
theorem hR_sJ {v : Int64} : hR (sJ h a k v) = hR h := rfl
theorem hN_sR {v : Option Nat} : hN (sR h a k v) = hN h := rfl
theorem hU_sR {v : Option Nat} : hU (sR h a k v) = hU h := rfl
theorem hT_sR {v : Option Nat} : hT (sR h a k v) = hT h := rfl
theorem hL_sR {v : Option Nat} : hL (sR h a k v) = hL h := rfl
theorem hI_sR {v : Option Nat} : hI (sR h a k v) = hI h := rfl
theorem hJ_sR {v : Option Nat} : hJ (sR h a k v) = hJ h := rfl
theorem hR_sR {v : Option Nat} : hR (sR h a k v) = up2 (hR h) a k v := rfl
theorem hN_nw : hN (nw h t n u) = hN h + 1 := rfl
theorem hU_nw : hU (nw h t n u) = hU h + u := rfl
theorem hT_nw : hT (nw h t n u) = va_up (hT h) (hN h) t := rfl
theorem hL_nw : hL (nw h t n u) = va_up (hL h) (hN h) n := rfl
theorem hI_nw : hI (nw h t n u) = va_up (hI h) (hN h) (fun _ => 0) := rfl
theorem hJ_nw : hJ (nw h t n u) = va_up (hJ h) (hN h) (fun _ => 0) := rfl
theorem hR_nw : hR (nw h t n u) = va_up (hR h) (hN h) (fun _ => none) := rfl
theorem vu_s {α : Type} {f : Nat → α} {x : Nat} {v : α} : va_up f x v x = v := if_pos rfl
theorem vu_n {α : Type} {f : Nat → α} {x y : Nat} {v : α} (e : y ≠ x) : va_up f x v y = f y := if_neg e
theorem u2_s {α : Type} {f : Nat → Nat → α} {x y : Nat} {v : α} : up2 f x y v x y = v := if_pos ⟨rfl, rfl⟩
theorem u2_n {α : Type} {f : Nat → Nat → α} {x y x' y' : Nat} {v : α} (e : x' ≠ x ∨ y' ≠ y) : up2 f x y v x' y' = f x' y' := if_neg (fun z => e.elim (fun q => q z.1) (fun q => q z.2))
theorem u2_o {α : Type} {f : Nat → Nat → α} {x y x' : Nat} {v : α} (e : x' ≠ x) : up2 f x y v x' = f x' := funext fun _ => u2_n (Or.inl e)
theorem u2_r {α : Type} {f : Nat → Nat → α} {x y : Nat} {v : α} : up2 f x y v x = uc (f x) y v := by
  funext j
  unfold up2 uc
  by_cases z : j = y
  · rw [if_pos ⟨rfl, z⟩, if_pos z]
  · rw [if_neg (fun q => z q.2), if_neg z]
theorem u2_uc {α : Type} {f : Nat → Nat → α} {c j : Nat} {v : α} : up2 f c j v = uc f c (uc (f c) j v) := by
  funext x y
  unfold up2 uc
  by_cases z : x = c
  · rw [if_pos z]
    by_cases w : y = j
    · rw [if_pos ⟨z, w⟩, if_pos w]
    · rw [if_neg (fun q => w q.2), if_neg w, z]
  · rw [if_neg (fun q => z q.1), if_neg z]
end CH
/-! a block of cells, with what it keeps -/
def ovF {α : Type} (g : Nat → Nat → α) (B n : Nat) (f : Nat → Nat → α) : Nat → Nat → α := fun a => if B ≤ a ∧ a < B + n then f (a - B) else g a
def ov (h : AH) (B n : Nat) (fi : Nat → Nat → Int32) (fj : Nat → Nat → Int64) (fr : Nat → Nat → Option Nat) : AH := (h.1, h.2.1, h.2.2.1, h.2.2.2.1, ovF h.2.2.2.2.1 B n fi, ovF h.2.2.2.2.2.1 B n fj, ovF h.2.2.2.2.2.2 B n fr)
theorem ovF_i {α : Type} {g f : Nat → Nat → α} {B n c : Nat} (hc : c < n) : ovF g B n f (B + c) = f c := by
  unfold ovF
  rw [if_pos (by omega), Nat.add_sub_cancel_left]
theorem ovF_o {α : Type} {g f : Nat → Nat → α} {B n a : Nat} (ha : a < B ∨ B + n ≤ a) : ovF g B n f a = g a := by
  unfold ovF
  rw [if_neg (by omega)]
theorem ovF_s {α : Type} {g f : Nat → Nat → α} {B n c k : Nat} {v : α} (hc : c < n) : up2 (ovF g B n f) (B + c) k v = ovF g B n (up2 f c k v) := by
  funext a j
  unfold up2 ovF
  by_cases z : B ≤ a ∧ a < B + n
  · rw [if_pos z, if_pos z]
    dsimp only
    by_cases y : a = B + c ∧ j = k
    · rw [if_pos y, if_pos ⟨by omega, y.2⟩]
    · rw [if_neg y, if_neg (fun q => y ⟨by omega, q.2⟩)]
  · rw [if_neg z, if_neg z, if_neg (fun q => z (by omega))]
section OV
variable {h : AH} {B n c k : Nat} {fi : Nat → Nat → Int32} {fj : Nat → Nat → Int64} {fr : Nat → Nat → Option Nat}
theorem ov_N : hN (ov h B n fi fj fr) = hN h := rfl
theorem ov_U : hU (ov h B n fi fj fr) = hU h := rfl
theorem ov_T : hT (ov h B n fi fj fr) = hT h := rfl
theorem ov_L : hL (ov h B n fi fj fr) = hL h := rfl
theorem ov_I (hc : c < n) : hI (ov h B n fi fj fr) (B + c) = fi c := ovF_i hc
theorem ov_I0 (hc : 0 < n) : hI (ov h B n fi fj fr) B = fi 0 := ovF_i (c := 0) hc
theorem ov_Io {a : Nat} (ha : a < B ∨ B + n ≤ a) : hI (ov h B n fi fj fr) a = hI h a := ovF_o ha
theorem ov_J (hc : c < n) : hJ (ov h B n fi fj fr) (B + c) = fj c := ovF_i hc
theorem ov_J0 (hc : 0 < n) : hJ (ov h B n fi fj fr) B = fj 0 := ovF_i (c := 0) hc
theorem ov_Jo {a : Nat} (ha : a < B ∨ B + n ≤ a) : hJ (ov h B n fi fj fr) a = hJ h a := ovF_o ha
theorem ov_R (hc : c < n) : hR (ov h B n fi fj fr) (B + c) = fr c := ovF_i hc
theorem ov_R0 (hc : 0 < n) : hR (ov h B n fi fj fr) B = fr 0 := ovF_i (c := 0) hc
theorem ov_Ro {a : Nat} (ha : a < B ∨ B + n ≤ a) : hR (ov h B n fi fj fr) a = hR h a := ovF_o ha
theorem ov_sI {v : Int32} (hc : c < n) : sI (ov h B n fi fj fr) (B + c) k v = ov h B n (up2 fi c k v) fj fr := by
  unfold sI ov; rw [ovF_s hc]
theorem ov_sI0 {v : Int32} (hc : 0 < n) : sI (ov h B n fi fj fr) B k v = ov h B n (up2 fi 0 k v) fj fr := ov_sI (c := 0) hc
theorem ov_sJ {v : Int64} (hc : c < n) : sJ (ov h B n fi fj fr) (B + c) k v = ov h B n fi (up2 fj c k v) fr := by
  unfold sJ ov; rw [ovF_s hc]
theorem ov_sJ0 {v : Int64} (hc : 0 < n) : sJ (ov h B n fi fj fr) B k v = ov h B n fi (up2 fj 0 k v) fr := ov_sJ (c := 0) hc
theorem ov_sR {v : Option Nat} (hc : c < n) : sR (ov h B n fi fj fr) (B + c) k v = ov h B n fi fj (up2 fr c k v) := by
  unfold sR ov; rw [ovF_s hc]
theorem ov_sR0 {v : Option Nat} (hc : 0 < n) : sR (ov h B n fi fj fr) B k v = ov h B n fi fj (up2 fr 0 k v) := ov_sR (c := 0) hc
theorem ov_self : ov h B n (fun c => hI h (B + c)) (fun c => hJ h (B + c)) (fun c => hR h (B + c)) = h := by
  have e : ∀ {α : Type} (g : Nat → Nat → α), ovF g B n (fun c => g (B + c)) = g := fun g => by
    funext a
    unfold ovF
    by_cases z : B ≤ a ∧ a < B + n
    · rw [if_pos z]; dsimp only; rw [show B + (a - B) = a by omega]
    · rw [if_neg z]
  unfold ov
  rw [show (fun c => hI h (B + c)) = fun c => h.2.2.2.2.1 (B + c) from rfl, show (fun c => hJ h (B + c)) = fun c => h.2.2.2.2.2.1 (B + c) from rfl, show (fun c => hR h (B + c)) = fun c => h.2.2.2.2.2.2 (B + c) from rfl, e, e, e]
end OV
/-! what stays as it was; at most n cells and u slots are made -/
def Sm (h h' : AH) (a : Nat) : Prop := hI h' a = hI h a ∧ hJ h' a = hJ h a ∧ hR h' a = hR h a
def Fx (A : Nat → Prop) (n u : Nat) (h h' : AH) : Prop := (hN h ≤ hN h' ∧ hN h' ≤ hN h + n) ∧ (hU h ≤ hU h' ∧ hU h' ≤ hU h + u) ∧ ∀ a, a < hN h → hT h' a = hT h a ∧ hL h' a = hL h a ∧ (¬ A a → Sm h h' a)
theorem Fx.rf {A : Nat → Prop} {n u : Nat} {h : AH} : Fx A n u h h := ⟨⟨Nat.le_refl _, Nat.le_add_right _ _⟩, ⟨Nat.le_refl _, Nat.le_add_right _ _⟩, fun _ _ => ⟨rfl, rfl, fun _ => ⟨rfl, rfl, rfl⟩⟩⟩
theorem Fx.tr {A : Nat → Prop} {n u n' u' : Nat} {h h1 h2 : AH} (a : Fx A n u h h1) (b : Fx A n' u' h1 h2) : Fx A (n + n') (u + u') h h2 := by
  obtain ⟨⟨a1, a2⟩, ⟨a3, a4⟩, a5⟩ := a
  obtain ⟨⟨b1, b2⟩, ⟨b3, b4⟩, b5⟩ := b
  refine ⟨⟨by omega, by omega⟩, ⟨by omega, by omega⟩, fun x hx => ?_⟩
  obtain ⟨c1, c2, c3⟩ := a5 x hx
  obtain ⟨d1, d2, d3⟩ := b5 x (by omega)
  refine ⟨d1.trans c1, d2.trans c2, fun z => ?_⟩
  obtain ⟨p1, p2, p3⟩ := c3 z
  obtain ⟨q1, q2, q3⟩ := d3 z
  exact ⟨q1.trans p1, q2.trans p2, q3.trans p3⟩
theorem Fx.w {A A' : Nat → Prop} {n u n' u' : Nat} {h h1 : AH} (a : Fx A n u h h1) (hA : ∀ x, x < hN h → A x → A' x) (hn : n ≤ n') (hu : u ≤ u') : Fx A' n' u' h h1 := ⟨⟨a.1.1, Nat.le_trans a.1.2 (by omega)⟩, ⟨a.2.1.1, Nat.le_trans a.2.1.2 (by omega)⟩, fun x hx => ⟨(a.2.2 x hx).1, (a.2.2 x hx).2.1, fun z => (a.2.2 x hx).2.2 (fun y => z (hA x hx y))⟩⟩
/-- no cell lies behind the last -/
def WF (h : AH) : Prop := ∀ a, hT h a ≠ 0 → a < hN h
theorem WF_Le {w : List Nat} {h h' : AH} (l : Le w h h') (q : WF h) : WF h' := l.2.2.2 q
def UpO (h : AH) (U : Nat) : Prop := hT h U = 11 ∧ (hR h U 0 = some (U + 1) ∧ hT h (U + 1) = 29 ∧ hL h (U + 1) = 26) ∧ (hR h U 1 = some (U + 2) ∧ hT h (U + 2) = 30 ∧ hL h (U + 2) = 26) ∧ (hR h U 2 = some (U + 3) ∧ hT h (U + 3) = 31 ∧ hL h (U + 3) = 24) ∧ (hR h U 3 = some (U + 4) ∧ hT h (U + 4) = 32 ∧ hL h (U + 4) = 6)
theorem Upr_slots {h : AH} {U : Nat} (H : UpO h U) : hR h U 0 = some (U + 1) := H.2.1.1
theorem Upt_slots {h : AH} {U : Nat} (H : UpO h U) : hT h (U + 1) = 29 := H.2.1.2.1
theorem Upl_slots {h : AH} {U : Nat} (H : UpO h U) : hL h (U + 1) = 26 := H.2.1.2.2
theorem Upr_names {h : AH} {U : Nat} (H : UpO h U) : hR h U 1 = some (U + 2) := H.2.2.1.1
theorem Upt_names {h : AH} {U : Nat} (H : UpO h U) : hT h (U + 2) = 30 := H.2.2.1.2.1
theorem Upl_names {h : AH} {U : Nat} (H : UpO h U) : hL h (U + 2) = 26 := H.2.2.1.2.2
theorem Upr_rows {h : AH} {U : Nat} (H : UpO h U) : hR h U 2 = some (U + 3) := H.2.2.2.1.1
theorem Upt_rows {h : AH} {U : Nat} (H : UpO h U) : hT h (U + 3) = 31 := H.2.2.2.1.2.1
theorem Upl_rows {h : AH} {U : Nat} (H : UpO h U) : hL h (U + 3) = 24 := H.2.2.2.1.2.2
theorem Upr_many {h : AH} {U : Nat} (H : UpO h U) : hR h U 3 = some (U + 4) := H.2.2.2.2.1
theorem Upt_many {h : AH} {U : Nat} (H : UpO h U) : hT h (U + 4) = 32 := H.2.2.2.2.2.1
theorem Upl_many {h : AH} {U : Nat} (H : UpO h U) : hL h (U + 4) = 6 := H.2.2.2.2.2.2
def FtO (h : AH) (U : Nat) : Prop := hT h U = 3 ∧ (hR h U 3 = some (U + 1) ∧ hT h (U + 1) = 43 ∧ hL h (U + 1) = 32) ∧ (hR h U 4 = some (U + 2) ∧ hT h (U + 2) = 44 ∧ hL h (U + 2) = 66) ∧ (hR h U 8 = some (U + 3) ∧ hT h (U + 3) = 45 ∧ hL h (U + 3) = 7) ∧ (hR h U 9 = some (U + 4) ∧ hT h (U + 4) = 46 ∧ hL h (U + 4) = 6) ∧ (hR h U 10 = some (U + 5) ∧ hT h (U + 5) = 47 ∧ hL h (U + 5) = 6) ∧ (hR h U 11 = some (U + 6) ∧ hT h (U + 6) = 48 ∧ hL h (U + 6) = 6)
theorem Ftr_where {h : AH} {U : Nat} (H : FtO h U) : hR h U 3 = some (U + 1) := H.2.1.1
theorem Ftt_where {h : AH} {U : Nat} (H : FtO h U) : hT h (U + 1) = 43 := H.2.1.2.1
theorem Ftl_where {h : AH} {U : Nat} (H : FtO h U) : hL h (U + 1) = 32 := H.2.1.2.2
theorem Ftr_ends {h : AH} {U : Nat} (H : FtO h U) : hR h U 4 = some (U + 2) := H.2.2.1.1
theorem Ftt_ends {h : AH} {U : Nat} (H : FtO h U) : hT h (U + 2) = 44 := H.2.2.1.2.1
theorem Ftl_ends {h : AH} {U : Nat} (H : FtO h U) : hL h (U + 2) = 66 := H.2.2.1.2.2
theorem Ftr_at {h : AH} {U : Nat} (H : FtO h U) : hR h U 8 = some (U + 3) := H.2.2.2.1.1
theorem Ftt_at {h : AH} {U : Nat} (H : FtO h U) : hT h (U + 3) = 45 := H.2.2.2.1.2.1
theorem Ftl_at {h : AH} {U : Nat} (H : FtO h U) : hL h (U + 3) = 7 := H.2.2.2.1.2.2
theorem Ftr_left {h : AH} {U : Nat} (H : FtO h U) : hR h U 9 = some (U + 4) := H.2.2.2.2.1.1
theorem Ftt_left {h : AH} {U : Nat} (H : FtO h U) : hT h (U + 4) = 46 := H.2.2.2.2.1.2.1
theorem Ftl_left {h : AH} {U : Nat} (H : FtO h U) : hL h (U + 4) = 6 := H.2.2.2.2.1.2.2
theorem Ftr_values {h : AH} {U : Nat} (H : FtO h U) : hR h U 10 = some (U + 5) := H.2.2.2.2.2.1.1
theorem Ftt_values {h : AH} {U : Nat} (H : FtO h U) : hT h (U + 5) = 47 := H.2.2.2.2.2.1.2.1
theorem Ftl_values {h : AH} {U : Nat} (H : FtO h U) : hL h (U + 5) = 6 := H.2.2.2.2.2.1.2.2
theorem Ftr_sizes {h : AH} {U : Nat} (H : FtO h U) : hR h U 11 = some (U + 6) := H.2.2.2.2.2.2.1
theorem Ftt_sizes {h : AH} {U : Nat} (H : FtO h U) : hT h (U + 6) = 48 := H.2.2.2.2.2.2.2.1
theorem Ftl_sizes {h : AH} {U : Nat} (H : FtO h U) : hL h (U + 6) = 6 := H.2.2.2.2.2.2.2.2
def ChO (h : AH) (U : Nat) : Prop := hT h U = 1 ∧ (hR h U 1 = some (U + 1) ∧ hT h (U + 1) = 37 ∧ hL h (U + 1) = 4) ∧ (hR h U 5 = some (U + 2) ∧ hT h (U + 2) = 38 ∧ hL h (U + 2) = 2) ∧ (hR h U 8 = some (U + 3) ∧ hT h (U + 3) = 53 ∧ hL h (U + 3) = 2) ∧ (hR h U 9 = some (U + 4) ∧ hT h (U + 4) = 54 ∧ hL h (U + 4) = 2)
theorem Chr_members {h : AH} {U : Nat} (H : ChO h U) : hR h U 1 = some (U + 1) := H.2.1.1
theorem Cht_members {h : AH} {U : Nat} (H : ChO h U) : hT h (U + 1) = 37 := H.2.1.2.1
theorem Chl_members {h : AH} {U : Nat} (H : ChO h U) : hL h (U + 1) = 4 := H.2.1.2.2
theorem Chr_frees {h : AH} {U : Nat} (H : ChO h U) : hR h U 5 = some (U + 2) := H.2.2.1.1
theorem Cht_frees {h : AH} {U : Nat} (H : ChO h U) : hT h (U + 2) = 38 := H.2.2.1.2.1
theorem Chl_frees {h : AH} {U : Nat} (H : ChO h U) : hL h (U + 2) = 2 := H.2.2.1.2.2
theorem Chr_freeMembers {h : AH} {U : Nat} (H : ChO h U) : hR h U 8 = some (U + 3) := H.2.2.2.1.1
theorem Cht_freeMembers {h : AH} {U : Nat} (H : ChO h U) : hT h (U + 3) = 53 := H.2.2.2.1.2.1
theorem Chl_freeMembers {h : AH} {U : Nat} (H : ChO h U) : hL h (U + 3) = 2 := H.2.2.2.1.2.2
theorem Chr_freeSigns {h : AH} {U : Nat} (H : ChO h U) : hR h U 9 = some (U + 4) := H.2.2.2.2.1
theorem Cht_freeSigns {h : AH} {U : Nat} (H : ChO h U) : hT h (U + 4) = 54 := H.2.2.2.2.2.1
theorem Chl_freeSigns {h : AH} {U : Nat} (H : ChO h U) : hL h (U + 4) = 2 := H.2.2.2.2.2.2
def FsO (h : AH) (U : Nat) : Prop := hT h U = 2 ∧ (hR h U 0 = some (U + 1) ∧ hT h (U + 1) = 36 ∧ hL h (U + 1) = 20)
theorem Fsr_rows {h : AH} {U : Nat} (H : FsO h U) : hR h U 0 = some (U + 1) := H.2.1
theorem Fst_rows {h : AH} {U : Nat} (H : FsO h U) : hT h (U + 1) = 36 := H.2.2.1
theorem Fsl_rows {h : AH} {U : Nat} (H : FsO h U) : hL h (U + 1) = 20 := H.2.2.2
def NdO (h : AH) (U : Nat) : Prop := hT h U = 4 ∧ (hR h U 10 = some (U + 1) ∧ hT h (U + 1) = 49 ∧ hL h (U + 1) = 2)
theorem Ndr_stands {h : AH} {U : Nat} (H : NdO h U) : hR h U 10 = some (U + 1) := H.2.1
theorem Ndt_stands {h : AH} {U : Nat} (H : NdO h U) : hT h (U + 1) = 49 := H.2.2.1
theorem Ndl_stands {h : AH} {U : Nat} (H : NdO h U) : hL h (U + 1) = 2 := H.2.2.2
def RdO (h : AH) (U : Nat) : Prop := hT h U = 5 ∧ (hR h U 4 = some (U + 2) ∧ hT h (U + 2) = 26 ∧ hL h (U + 2) = 6) ∧ (hR h U 5 = some (U + 3) ∧ hT h (U + 3) = 27 ∧ hL h (U + 3) = 10)
theorem Rdr_signs {h : AH} {U : Nat} (H : RdO h U) : hR h U 4 = some (U + 2) := H.2.1.1
theorem Rdt_signs {h : AH} {U : Nat} (H : RdO h U) : hT h (U + 2) = 26 := H.2.1.2.1
theorem Rdl_signs {h : AH} {U : Nat} (H : RdO h U) : hL h (U + 2) = 6 := H.2.1.2.2
theorem Rdr_rules {h : AH} {U : Nat} (H : RdO h U) : hR h U 5 = some (U + 3) := H.2.2.1
theorem Rdt_rules {h : AH} {U : Nat} (H : RdO h U) : hT h (U + 3) = 27 := H.2.2.2.1
theorem Rdl_rules {h : AH} {U : Nat} (H : RdO h U) : hL h (U + 3) = 10 := H.2.2.2.2
def RuO (h : AH) (U : Nat) : Prop := hT h U = 7 ∧ (hR h U 3 = some (U + 1) ∧ hT h (U + 1) = 42 ∧ hL h (U + 1) = 4)
theorem Rur_choices {h : AH} {U : Nat} (H : RuO h U) : hR h U 3 = some (U + 1) := H.2.1
theorem Rut_choices {h : AH} {U : Nat} (H : RuO h U) : hT h (U + 1) = 42 := H.2.2.1
theorem Rul_choices {h : AH} {U : Nat} (H : RuO h U) : hL h (U + 1) = 4 := H.2.2.2
/-! long numbers -/
theorem j_sc : ∀ k, k < 64 → ((nI k).toInt64 &&& 63) = lN k := by decide +kernel
theorem j_sm : ∀ k, k < 64 → ((BitVec.ofNat 64 k).smod 64).toNat = k := by decide +kernel
theorem j_tn {n : Nat} (h : n < 2 ^ 64) : (lN n).toBitVec.toNat = n := by
  rw [show (lN n).toBitVec = BitVec.ofNat 64 n from rfl, BitVec.toNat_ofNat, Nat.mod_eq_of_lt h]
theorem j_shl {n k : Nat} (hk : k < 64) (h : n * 2 ^ k < 2 ^ 64) : lN n <<< ((nI k).toInt64 &&& 63) = lN (n * 2 ^ k) := by
  rw [j_sc k hk]
  apply Int64.toBitVec_inj.mp
  show (lN n).toBitVec <<< (((lN k).toBitVec).smod 64).toNat = _
  rw [show ((lN k).toBitVec.smod 64).toNat = k from j_sm k hk]
  apply BitVec.eq_of_toNat_eq
  rw [BitVec.toNat_shiftLeft, j_tn h, show (lN n).toBitVec = BitVec.ofNat 64 n from rfl, BitVec.toNat_ofNat, Nat.shiftLeft_eq, Nat.mod_mul_mod, Nat.mod_eq_of_lt h]
theorem j_shr {n k : Nat} (hk : k < 64) (h : n < 2 ^ 63) : lN n >>> ((nI k).toInt64 &&& 63) = lN (n / 2 ^ k) := by
  rw [j_sc k hk]
  apply Int64.toInt_inj.mp
  have h2 : n / 2 ^ k ≤ n := Nat.div_le_self _ _
  have e : (lN n >>> lN k).toInt = (lN n).toInt >>> k := by
    show ((lN n).toBitVec.sshiftRight ((lN k).toBitVec.smod 64).toNat).toInt = _
    rw [show ((lN k).toBitVec.smod 64).toNat = k from j_sm k hk, BitVec.toInt_sshiftRight]
    rfl
  rw [e, pk_lT h, pk_lT (by omega), Int.shiftRight_eq_div_pow]
  rfl
theorem j_or {a b : Nat} : lN a ||| lN b = lN (a ||| b) := by
  apply Int64.toBitVec_inj.mp
  show BitVec.ofNat 64 a ||| BitVec.ofNat 64 b = BitVec.ofNat 64 (a ||| b)
  exact (BitVec.ofNat_or ..).symm
theorem j_and {a b : Nat} : lN a &&& lN b = lN (a &&& b) := by
  apply Int64.toBitVec_inj.mp
  show BitVec.ofNat 64 a &&& BitVec.ofNat 64 b = BitVec.ofNat 64 (a &&& b)
  exact (BitVec.ofNat_and ..).symm
