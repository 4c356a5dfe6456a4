/-! the program: part 17 -/
theorem D_M_readsChoice_0 : decode cX12_readsChoice 0 = .ok (.aload_n 0, 1) := by decide +kernel
theorem D_M_readsChoice_1 : decode cX12_readsChoice 1 = .ok (.getfield 13, 3) := by decide +kernel
theorem D_M_readsChoice_4 : decode cX12_readsChoice 4 = .ok (.iload_n 1, 1) := by decide +kernel
theorem D_M_readsChoice_5 : decode cX12_readsChoice 5 = .ok (.iconst (0), 1) := by decide +kernel
theorem D_M_readsChoice_6 : decode cX12_readsChoice 6 = .ok (.iastore, 1) := by decide +kernel
theorem D_M_readsChoice_7 : decode cX12_readsChoice 7 = .ok (.aload_n 0, 1) := by decide +kernel
theorem D_M_readsChoice_8 : decode cX12_readsChoice 8 = .ok (.iconst (0), 1) := by decide +kernel
theorem D_M_readsChoice_9 : decode cX12_readsChoice 9 = .ok (.putfield 151, 3) := by decide +kernel
theorem D_M_readsChoice_12 : decode cX12_readsChoice 12 = .ok (.aload_n 0, 1) := by decide +kernel
theorem D_M_readsChoice_13 : decode cX12_readsChoice 13 = .ok (.invokevirtual 158, 3) := by decide +kernel
theorem D_M_readsChoice_16 : decode cX12_readsChoice 16 = .ok (.ifCond .ne (12), 3) := by decide +kernel
theorem D_M_readsChoice_19 : decode cX12_readsChoice 19 = .ok (.aload_n 0, 1) := by decide +kernel
theorem D_M_readsChoice_20 : decode cX12_readsChoice 20 = .ok (.invokevirtual 123, 3) := by decide +kernel
theorem D_M_readsChoice_23 : decode cX12_readsChoice 23 = .ok (.bipush (34), 2) := by decide +kernel
theorem D_M_readsChoice_25 : decode cX12_readsChoice 25 = .ok (.if_icmp .ne (7), 3) := by decide +kernel
theorem D_M_readsChoice_28 : decode cX12_readsChoice 28 = .ok (.iconst (1), 1) := by decide +kernel
theorem D_M_readsChoice_29 : decode cX12_readsChoice 29 = .ok (.goto (4), 3) := by decide +kernel
theorem D_M_readsChoice_32 : decode cX12_readsChoice 32 = .ok (.iconst (0), 1) := by decide +kernel
theorem D_M_readsChoice_33 : decode cX12_readsChoice 33 = .ok (.istore_n 2, 1) := by decide +kernel
theorem D_M_readsChoice_34 : decode cX12_readsChoice 34 = .ok (.iload_n 2, 1) := by decide +kernel
theorem D_M_readsChoice_35 : decode cX12_readsChoice 35 = .ok (.ifCond .eq (93), 3) := by decide +kernel
theorem D_M_readsChoice_38 : decode cX12_readsChoice 38 = .ok (.aload_n 0, 1) := by decide +kernel
theorem D_M_readsChoice_39 : decode cX12_readsChoice 39 = .ok (.iload_n 1, 1) := by decide +kernel
theorem D_M_readsChoice_40 : decode cX12_readsChoice 40 = .ok (.iconst (1), 1) := by decide +kernel
theorem D_M_readsChoice_41 : decode cX12_readsChoice 41 = .ok (.iadd, 1) := by decide +kernel
theorem D_M_readsChoice_42 : decode cX12_readsChoice 42 = .ok (.bipush (8), 2) := by decide +kernel
theorem D_M_readsChoice_44 : decode cX12_readsChoice 44 = .ok (.aload_n 0, 1) := by decide +kernel
theorem D_M_readsChoice_45 : decode cX12_readsChoice 45 = .ok (.getfield 13, 3) := by decide +kernel
theorem D_M_readsChoice_48 : decode cX12_readsChoice 48 = .ok (.iload_n 1, 1) := by decide +kernel
theorem D_M_readsChoice_49 : decode cX12_readsChoice 49 = .ok (.iaload, 1) := by decide +kernel
theorem D_M_readsChoice_50 : decode cX12_readsChoice 50 = .ok (.imul, 1) := by decide +kernel
theorem D_M_readsChoice_51 : decode cX12_readsChoice 51 = .ok (.iadd, 1) := by decide +kernel
theorem D_M_readsChoice_52 : decode cX12_readsChoice 52 = .ok (.invokevirtual 176, 3) := by decide +kernel
theorem D_M_readsChoice_55 : decode cX12_readsChoice 55 = .ok (.aload_n 0, 1) := by decide +kernel
theorem D_M_readsChoice_56 : decode cX12_readsChoice 56 = .ok (.getfield 13, 3) := by decide +kernel
theorem D_M_readsChoice_59 : decode cX12_readsChoice 59 = .ok (.iload_n 1, 1) := by decide +kernel
theorem D_M_readsChoice_60 : decode cX12_readsChoice 60 = .ok (.dup2, 1) := by decide +kernel
theorem D_M_readsChoice_61 : decode cX12_readsChoice 61 = .ok (.iaload, 1) := by decide +kernel
theorem D_M_readsChoice_62 : decode cX12_readsChoice 62 = .ok (.iconst (1), 1) := by decide +kernel
theorem D_M_readsChoice_63 : decode cX12_readsChoice 63 = .ok (.iadd, 1) := by decide +kernel
theorem D_M_readsChoice_64 : decode cX12_readsChoice 64 = .ok (.iastore, 1) := by decide +kernel
theorem D_M_readsChoice_65 : decode cX12_readsChoice 65 = .ok (.aload_n 0, 1) := by decide +kernel
theorem D_M_readsChoice_66 : decode cX12_readsChoice 66 = .ok (.invokevirtual 130, 3) := by decide +kernel
theorem D_M_readsChoice_69 : decode cX12_readsChoice 69 = .ok (.ifCond .eq (16), 3) := by decide +kernel
theorem D_M_readsChoice_72 : decode cX12_readsChoice 72 = .ok (.aload_n 0, 1) := by decide +kernel
theorem D_M_readsChoice_73 : decode cX12_readsChoice 73 = .ok (.invokevirtual 134, 3) := by decide +kernel
theorem D_M_readsChoice_76 : decode cX12_readsChoice 76 = .ok (.bipush (44), 2) := by decide +kernel
theorem D_M_readsChoice_78 : decode cX12_readsChoice 78 = .ok (.if_icmp .ne (7), 3) := by decide +kernel
theorem D_M_readsChoice_81 : decode cX12_readsChoice 81 = .ok (.iconst (1), 1) := by decide +kernel
theorem D_M_readsChoice_82 : decode cX12_readsChoice 82 = .ok (.goto (4), 3) := by decide +kernel
theorem D_M_readsChoice_85 : decode cX12_readsChoice 85 = .ok (.iconst (0), 1) := by decide +kernel
theorem D_M_readsChoice_86 : decode cX12_readsChoice 86 = .ok (.istore_n 2, 1) := by decide +kernel
theorem D_M_readsChoice_87 : decode cX12_readsChoice 87 = .ok (.iload_n 2, 1) := by decide +kernel
theorem D_M_readsChoice_88 : decode cX12_readsChoice 88 = .ok (.ifCond .eq (24), 3) := by decide +kernel
theorem D_M_readsChoice_91 : decode cX12_readsChoice 91 = .ok (.aload_n 0, 1) := by decide +kernel
theorem D_M_readsChoice_92 : decode cX12_readsChoice 92 = .ok (.getfield 13, 3) := by decide +kernel
theorem D_M_readsChoice_95 : decode cX12_readsChoice 95 = .ok (.iload_n 1, 1) := by decide +kernel
theorem D_M_readsChoice_96 : decode cX12_readsChoice 96 = .ok (.iaload, 1) := by decide +kernel
theorem D_M_readsChoice_97 : decode cX12_readsChoice 97 = .ok (.iconst (4), 1) := by decide +kernel
theorem D_M_readsChoice_98 : decode cX12_readsChoice 98 = .ok (.if_icmp .ne (14), 3) := by decide +kernel
theorem D_M_readsChoice_101 : decode cX12_readsChoice 101 = .ok (.aload_n 0, 1) := by decide +kernel
theorem D_M_readsChoice_102 : decode cX12_readsChoice 102 = .ok (.iconst (3), 1) := by decide +kernel
theorem D_M_readsChoice_103 : decode cX12_readsChoice 103 = .ok (.aload_n 0, 1) := by decide +kernel
theorem D_M_readsChoice_104 : decode cX12_readsChoice 104 = .ok (.getfield 120, 3) := by decide +kernel
theorem D_M_readsChoice_107 : decode cX12_readsChoice 107 = .ok (.invokevirtual 154, 3) := by decide +kernel
theorem D_M_readsChoice_110 : decode cX12_readsChoice 110 = .ok (.iconst (0), 1) := by decide +kernel
theorem D_M_readsChoice_111 : decode cX12_readsChoice 111 = .ok (.istore_n 2, 1) := by decide +kernel
theorem D_M_readsChoice_112 : decode cX12_readsChoice 112 = .ok (.aload_n 0, 1) := by decide +kernel
theorem D_M_readsChoice_113 : decode cX12_readsChoice 113 = .ok (.dup, 1) := by decide +kernel
theorem D_M_readsChoice_114 : decode cX12_readsChoice 114 = .ok (.getfield 120, 3) := by decide +kernel
theorem D_M_readsChoice_117 : decode cX12_readsChoice 117 = .ok (.iload_n 2, 1) := by decide +kernel
theorem D_M_readsChoice_118 : decode cX12_readsChoice 118 = .ok (.invokestatic 172, 3) := by decide +kernel
theorem D_M_readsChoice_121 : decode cX12_readsChoice 121 = .ok (.iadd, 1) := by decide +kernel
theorem D_M_readsChoice_122 : decode cX12_readsChoice 122 = .ok (.putfield 120, 3) := by decide +kernel
theorem D_M_readsChoice_125 : decode cX12_readsChoice 125 = .ok (.goto (-91), 3) := by decide +kernel
theorem D_M_readsChoice_128 : decode cX12_readsChoice 128 = .ok (.return_, 1) := by decide +kernel
def K_M_readsChoice : SC := (cX12_readsChoice, "TwoLevelsModel", 3, 6, false, [13, 71, 76], NoQ)
def d_M_readsChoice : MD Unit := mth tt 3 (sq (sh3 (stI [71]) (eh1 (gR 13 1) (lR 0)) (lI 1) (eC (nI 0)))
 (sq (sh2 (pI false 13 11) (lR 0) (eC (nI 0)))
 (sq (sI1 2 (eIf (cOr (eh1 z_ne (kV 13 d_M_isSign (lR 0) [])) (eh2 c_eq (kV 13 d_M_sign (lR 0) []) (eC (nI 34)))) (eC (nI 1)) (eC (nI 0))))
 (sq (loop (eh1 z_ne (lI 2))
 (sq (sE (kV 13 d_M_readsMember (lR 0) [vI (eh2 iaddF (eh2 iaddF (lI 1) (eC (nI 1))) (eh2 imulF (eC (nI 8)) (eh2 (aI .int) (eh1 (gR 13 1) (lR 0)) (lI 1))))]))
 (sq (su3 (aI .int) (uA [71] (fun x y => x + y)) (eh1 (gR 13 1) (lR 0)) (lI 1) (eC (nI 1)))
 (sq (sI1 2 (eIf (cAnd (eh1 z_ne (kV 13 d_M_isRight (lR 0) [])) (eh2 c_eq (kV 13 d_M_next (lR 0) []) (eC (nI 44)))) (eC (nI 1)) (eC (nI 0))))
 (sq (sIf (cAnd (eh1 z_ne (lI 2)) (eh2 c_eq (eh2 (aI .int) (eh1 (gR 13 1) (lR 0)) (lI 1)) (eC (nI 4)))) (sq (sE (kV 13 d_M_fails (lR 0) [vI (eC (nI 3)), vI (eh1 (gI 13 8) (lR 0))]))
 (sI1 2 (eC (nI 0)))) sk)
 (su2 (gI 13 8) (uF false 13 8 (fun x y => x + y)) (lR 0) (kS d_M_truth [vI (lI 2)]))))))
 sk)
 rtnU))))
theorem m_M_readsChoice : MJ 6 [13, 71, 76] yX12_readsChoice none eU (d_M_readsChoice) := MJ_of (K := K_M_readsChoice) (ri := .return_) (n1 := 0) (n2 := 0) (n3 := 0)
 (SJ_sq (p0 := 0) (p1 := 7) (nN := 0) (nB := 0) (nC := 0) (SJ_iast (ws := [71]) (p0 := 0) (p1 := 4) (p2 := 5) (p3 := 6) (EJ_getR (t := 13) (c := 12) (kf := 1) (r := (RX12, TX12, 52)) (p0 := 0) (p1 := 1) (EJ_aload_n (j := 0) (i := 0) (pc := 0) D_M_readsChoice_0 rfl) D_M_readsChoice_1 ⟨rfl, rfl, by decide, q_933⟩ (fun _ _ => rfl)) (EJ_iload_n (j := 1) (i := 1) (pc := 4) D_M_readsChoice_4 rfl) (EJ_iconst (n := 0) (v := (nI 0)) (pc := 5) D_M_readsChoice_5 (by decide +kernel)) D_M_readsChoice_6 (show ∀ x_ ∈ ([71] : List Nat), x_ ∈ ([13, 71, 76] : List Nat) from by decide))
 (SJ_sq (p0 := 7) (p1 := 12) (nN := 0) (nB := 0) (nC := 0) (SJ_putI (z := false) (t := 13) (c := 12) (kf := 11) (r := (RX12, TX12, 52)) (p0 := 7) (p1 := 8) (p2 := 9) (EJ_aload_n (j := 0) (i := 0) (pc := 7) D_M_readsChoice_7 rfl) (EJ_iconst (n := 0) (v := (nI 0)) (pc := 8) D_M_readsChoice_8 (by decide +kernel)) D_M_readsChoice_9 ⟨rfl, rfl, by decide, q_943⟩ (Or.inl rfl) (fun _ _ => ⟨rfl, rfl⟩) (fun _ _ => rfl) (show (13 : Nat) ∈ ([13, 71, 76] : List Nat) from by decide))
 (SJ_sq (p0 := 12) (p1 := 34) (nN := 0) (nB := 0) (nC := 0) (SJ_istore_n (i := 2) (j := 2) (p0 := 12) (p1 := 33) (EJ_if (p0 := 12) (pT := 28) (pF := 32) (pE := 29) (p1 := 33) (CJ_or (p0 := 12) (pM := 19) (pT := 28) (pF := 32) (CZ_ne (off := 12) (tgt := 28) (p0 := 12) (p1 := 16) (EJ_callV (t := 13) (c := 12) (r := (RX12, TX12, 52)) (p0 := 12) (p1 := 13) (p2 := 13) (EJ_aload_n (j := 0) (i := 0) (pc := 12) D_M_readsChoice_12 rfl) AJ_nil m_M_isSign E1_I D_M_readsChoice_13 rfl rfl rfl q_1065 q_1066 q_41 q_97 ⟨by decide +kernel, by decide +kernel, by decide +kernel⟩ (by decide) (show 3 + 1 ≤ 6 from by decide) (show ∀ x_ ∈ ([13] : List Nat), x_ ∈ ([13, 71, 76] : List Nat) from by decide)) D_M_readsChoice_16 rfl) (CJ_eq' (off := 7) (tgt := 32) (p0 := 19) (p1 := 23) (p2 := 25) (EJ_callV (t := 13) (c := 12) (r := (RX12, TX12, 52)) (p0 := 19) (p1 := 20) (p2 := 20) (EJ_aload_n (j := 0) (i := 0) (pc := 19) D_M_readsChoice_19 rfl) AJ_nil m_M_sign E1_I D_M_readsChoice_20 rfl rfl rfl q_1056 q_1057 q_38 q_97 ⟨by decide +kernel, by decide +kernel, by decide +kernel⟩ (by decide) (show 1 + 1 ≤ 6 from by decide) (fun _ h => absurd h List.not_mem_nil)) (EJ_bipush (n := 34) (v := (nI 34)) (pc := 23) D_M_readsChoice_23 (by decide +kernel)) D_M_readsChoice_25 rfl)) (EJ_iconst (n := 1) (v := (nI 1)) (pc := 28) D_M_readsChoice_28 (by decide +kernel)) (Lead.goto (K := K_M_readsChoice) (pc := 29) (tgt := 33) D_M_readsChoice_29 rfl) (EJ_iconst (n := 0) (v := (nI 0)) (pc := 32) D_M_readsChoice_32 (by decide +kernel))) D_M_readsChoice_33 rfl)
 (SJ_sq (p0 := 34) (p1 := 128) (nN := 0) (nB := 0) (nC := 0) (SJ_loop (p0 := 34) (pB := 38) (pS := 34) (pE := 128) (CZ_ne' (off := 93) (tgt := 128) (p0 := 34) (p1 := 35) (EJ_iload_n (j := 2) (i := 2) (pc := 34) D_M_readsChoice_34 rfl) D_M_readsChoice_35 rfl)
 (SJ_sq (p0 := 38) (p1 := 55) (nN := 34) (nB := 128) (nC := 34) (SJ_void (p0 := 38) (p1 := 55) (EJ_callV (t := 13) (c := 12) (r := (RX12, TX12, 52)) (p0 := 38) (p1 := 39) (p2 := 52) (EJ_aload_n (j := 0) (i := 0) (pc := 38) D_M_readsChoice_38 rfl) (AJ_I (p0 := 39) (p1 := 52) (p2 := 52) (EJ_iadd (p0 := 39) (p1 := 42) (p2 := 51) (EJ_iadd (p0 := 39) (p1 := 40) (p2 := 41) (EJ_iload_n (j := 1) (i := 1) (pc := 39) D_M_readsChoice_39 rfl) (EJ_iconst (n := 1) (v := (nI 1)) (pc := 40) D_M_readsChoice_40 (by decide +kernel)) D_M_readsChoice_41) (EJ_imul (p0 := 42) (p1 := 44) (p2 := 50) (EJ_bipush (n := 8) (v := (nI 8)) (pc := 42) D_M_readsChoice_42 (by decide +kernel)) (EJ_iald (p0 := 44) (p1 := 48) (p2 := 49) (EJ_getR (t := 13) (c := 12) (kf := 1) (r := (RX12, TX12, 52)) (p0 := 44) (p1 := 45) (EJ_aload_n (j := 0) (i := 0) (pc := 44) D_M_readsChoice_44 rfl) D_M_readsChoice_45 ⟨rfl, rfl, by decide, q_933⟩ (fun _ _ => rfl)) (EJ_iload_n (j := 1) (i := 1) (pc := 48) D_M_readsChoice_48 rfl) D_M_readsChoice_49) D_M_readsChoice_50) D_M_readsChoice_51) AJ_nil) m_M_readsMember E1_U D_M_readsChoice_52 rfl rfl rfl q_1104 q_1105 q_50 q_97 ⟨by decide +kernel, by decide +kernel, by decide +kernel⟩ (by decide) (show 5 + 1 ≤ 6 from by decide) (show ∀ x_ ∈ ([13, 71, 76] : List Nat), x_ ∈ ([13, 71, 76] : List Nat) from by decide)))
 (SJ_sq (p0 := 55) (p1 := 65) (nN := 34) (nB := 128) (nC := 34) (SJ_upA (ws := [71]) (f := (fun x y => x + y)) (p0 := 55) (p1 := 59) (p2 := 60) (p4 := 63) (EJ_getR (t := 13) (c := 12) (kf := 1) (r := (RX12, TX12, 52)) (p0 := 55) (p1 := 56) (EJ_aload_n (j := 0) (i := 0) (pc := 55) D_M_readsChoice_55 rfl) D_M_readsChoice_56 ⟨rfl, rfl, by decide, q_933⟩ (fun _ _ => rfl)) (EJ_iload_n (j := 1) (i := 1) (pc := 59) D_M_readsChoice_59 rfl) D_M_readsChoice_60 D_M_readsChoice_61 (EJ_iconst (n := 1) (v := (nI 1)) (pc := 62) D_M_readsChoice_62 (by decide +kernel)) (Op2_iadd D_M_readsChoice_63) D_M_readsChoice_64 (show ∀ x_ ∈ ([71] : List Nat), x_ ∈ ([13, 71, 76] : List Nat) from by decide))
 (SJ_sq (p0 := 65) (p1 := 87) (nN := 34) (nB := 128) (nC := 34) (SJ_istore_n (i := 2) (j := 2) (p0 := 65) (p1 := 86) (EJ_if (p0 := 65) (pT := 81) (pF := 85) (pE := 82) (p1 := 86) (CJ_and (p0 := 65) (pM := 72) (pT := 81) (pF := 85) (CZ_ne' (off := 16) (tgt := 85) (p0 := 65) (p1 := 69) (EJ_callV (t := 13) (c := 12) (r := (RX12, TX12, 52)) (p0 := 65) (p1 := 66) (p2 := 66) (EJ_aload_n (j := 0) (i := 0) (pc := 65) D_M_readsChoice_65 rfl) AJ_nil m_M_isRight E1_I D_M_readsChoice_66 rfl rfl rfl q_1062 q_1063 q_40 q_97 ⟨by decide +kernel, by decide +kernel, by decide +kernel⟩ (by decide) (show 1 + 1 ≤ 6 from by decide) (fun _ h => absurd h List.not_mem_nil)) D_M_readsChoice_69 rfl) (CJ_eq' (off := 7) (tgt := 85) (p0 := 72) (p1 := 76) (p2 := 78) (EJ_callV (t := 13) (c := 12) (r := (RX12, TX12, 52)) (p0 := 72) (p1 := 73) (p2 := 73) (EJ_aload_n (j := 0) (i := 0) (pc := 72) D_M_readsChoice_72 rfl) AJ_nil m_M_next E1_I D_M_readsChoice_73 rfl rfl rfl q_1053 q_1054 q_37 q_97 ⟨by decide +kernel, by decide +kernel, by decide +kernel⟩ (by decide) (show 2 + 1 ≤ 6 from by decide) (show ∀ x_ ∈ ([13] : List Nat), x_ ∈ ([13, 71, 76] : List Nat) from by decide)) (EJ_bipush (n := 44) (v := (nI 44)) (pc := 76) D_M_readsChoice_76 (by decide +kernel)) D_M_readsChoice_78 rfl)) (EJ_iconst (n := 1) (v := (nI 1)) (pc := 81) D_M_readsChoice_81 (by decide +kernel)) (Lead.goto (K := K_M_readsChoice) (pc := 82) (tgt := 86) D_M_readsChoice_82 rfl) (EJ_iconst (n := 0) (v := (nI 0)) (pc := 85) D_M_readsChoice_85 (by decide +kernel))) D_M_readsChoice_86 rfl)
 (SJ_sq (p0 := 87) (p1 := 112) (nN := 34) (nB := 128) (nC := 34) (SJ_if (p0 := 87) (pT := 101) (pF := 112) (nN := 112) (nB := 128) (nC := 34) (CJ_and (p0 := 87) (pM := 91) (pT := 101) (pF := 112) (CZ_ne' (off := 24) (tgt := 112) (p0 := 87) (p1 := 88) (EJ_iload_n (j := 2) (i := 2) (pc := 87) D_M_readsChoice_87 rfl) D_M_readsChoice_88 rfl) (CJ_eq' (off := 14) (tgt := 112) (p0 := 91) (p1 := 97) (p2 := 98) (EJ_iald (p0 := 91) (p1 := 95) (p2 := 96) (EJ_getR (t := 13) (c := 12) (kf := 1) (r := (RX12, TX12, 52)) (p0 := 91) (p1 := 92) (EJ_aload_n (j := 0) (i := 0) (pc := 91) D_M_readsChoice_91 rfl) D_M_readsChoice_92 ⟨rfl, rfl, by decide, q_933⟩ (fun _ _ => rfl)) (EJ_iload_n (j := 1) (i := 1) (pc := 95) D_M_readsChoice_95 rfl) D_M_readsChoice_96) (EJ_iconst (n := 4) (v := (nI 4)) (pc := 97) D_M_readsChoice_97 (by decide +kernel)) D_M_readsChoice_98 rfl)) (SJ_sq (p0 := 101) (p1 := 110) (nN := 112) (nB := 128) (nC := 34) (SJ_void (p0 := 101) (p1 := 110) (EJ_callV (t := 13) (c := 12) (r := (RX12, TX12, 52)) (p0 := 101) (p1 := 102) (p2 := 107) (EJ_aload_n (j := 0) (i := 0) (pc := 101) D_M_readsChoice_101 rfl) (AJ_I (p0 := 102) (p1 := 103) (p2 := 107) (EJ_iconst (n := 3) (v := (nI 3)) (pc := 102) D_M_readsChoice_102 (by decide +kernel)) (AJ_I (p0 := 103) (p1 := 107) (p2 := 107) (EJ_getI (t := 13) (c := 12) (kf := 8) (r := (RX12, TX12, 52)) (p0 := 103) (p1 := 104) (EJ_aload_n (j := 0) (i := 0) (pc := 103) D_M_readsChoice_103 rfl) D_M_readsChoice_104 ⟨rfl, rfl, by decide, q_940⟩ (fun _ _ => rfl)) AJ_nil)) m_M_fails E1_U D_M_readsChoice_107 rfl rfl rfl q_1077 q_1078 q_42 q_97 ⟨by decide +kernel, by decide +kernel, by decide +kernel⟩ (by decide) (show 2 + 1 ≤ 6 from by decide) (show ∀ x_ ∈ ([13] : List Nat), x_ ∈ ([13, 71, 76] : List Nat) from by decide)))
 (SJ_istore_n (i := 2) (j := 2) (p0 := 110) (p1 := 111) (EJ_iconst (n := 0) (v := (nI 0)) (pc := 110) D_M_readsChoice_110 (by decide +kernel)) D_M_readsChoice_111 rfl)) SJ_sk)
 (SJ_post (SJ_upF (z := false) (t := 13) (c := 12) (kf := 8) (r := (RX12, TX12, 52)) (f := (fun x y => x + y)) (p0 := 112) (p1 := 113) (p3 := 121) (EJ_aload_n (j := 0) (i := 0) (pc := 112) D_M_readsChoice_112 rfl) D_M_readsChoice_113 D_M_readsChoice_114 (EJ_callS (p0 := 117) (p1 := 118) (AJ_I (p0 := 117) (p1 := 118) (p2 := 118) (EJ_iload_n (j := 2) (i := 2) (pc := 117) D_M_readsChoice_117 rfl) AJ_nil) m_M_truth E1_I D_M_readsChoice_118 q_1107 q_1108 q_97 ⟨by decide +kernel, by decide +kernel, by decide +kernel⟩ (by decide) (show 1 + 1 ≤ 6 from by decide) (fun _ h => absurd h List.not_mem_nil)) (Op2_iadd D_M_readsChoice_121) D_M_readsChoice_122 ⟨rfl, rfl, by decide, q_940⟩ ⟨rfl, rfl, by decide, q_940⟩ (Or.inl rfl) (fun _ _ => ⟨rfl, rfl⟩) (fun _ _ => rfl) (show (13 : Nat) ∈ ([13, 71, 76] : List Nat) from by decide)) (Lead.goto (K := K_M_readsChoice) (pc := 125) (tgt := 34) D_M_readsChoice_125 rfl))))))
 SJ_sk)
 (SJ_retU (pc := 128) D_M_readsChoice_128)))))
 RTm_void q_1103 (by decide +kernel) rfl (fun h => by cases h) (show 3 ≤ 40 from by decide) (fun _ => trivial)
theorem D_M_readsRule_0 : decode cX12_readsRule 0 = .ok (.sipush (184), 3) := by decide +kernel
theorem D_M_readsRule_3 : decode cX12_readsRule 3 = .ok (.sipush (140), 3) := by decide +kernel
theorem D_M_readsRule_6 : decode cX12_readsRule 6 = .ok (.aload_n 0, 1) := by decide +kernel
theorem D_M_readsRule_7 : decode cX12_readsRule 7 = .ok (.getfield 13, 3) := by decide +kernel
theorem D_M_readsRule_10 : decode cX12_readsRule 10 = .ok (.iconst (1), 1) := by decide +kernel
theorem D_M_readsRule_11 : decode cX12_readsRule 11 = .ok (.iaload, 1) := by decide +kernel
theorem D_M_readsRule_12 : decode cX12_readsRule 12 = .ok (.imul, 1) := by decide +kernel
theorem D_M_readsRule_13 : decode cX12_readsRule 13 = .ok (.iadd, 1) := by decide +kernel
theorem D_M_readsRule_14 : decode cX12_readsRule 14 = .ok (.istore_n 2, 1) := by decide +kernel
theorem D_M_readsRule_15 : decode cX12_readsRule 15 = .ok (.aload_n 0, 1) := by decide +kernel
theorem D_M_readsRule_16 : decode cX12_readsRule 16 = .ok (.getfield 13, 3) := by decide +kernel
theorem D_M_readsRule_19 : decode cX12_readsRule 19 = .ok (.iconst (1), 1) := by decide +kernel
theorem D_M_readsRule_20 : decode cX12_readsRule 20 = .ok (.iaload, 1) := by decide +kernel
theorem D_M_readsRule_21 : decode cX12_readsRule 21 = .ok (.bipush (10), 2) := by decide +kernel
theorem D_M_readsRule_23 : decode cX12_readsRule 23 = .ok (.if_icmp .ne (10), 3) := by decide +kernel
theorem D_M_readsRule_26 : decode cX12_readsRule 26 = .ok (.aload_n 0, 1) := by decide +kernel
theorem D_M_readsRule_27 : decode cX12_readsRule 27 = .ok (.iconst (3), 1) := by decide +kernel
theorem D_M_readsRule_28 : decode cX12_readsRule 28 = .ok (.iload_n 1, 1) := by decide +kernel
theorem D_M_readsRule_29 : decode cX12_readsRule 29 = .ok (.invokevirtual 154, 3) := by decide +kernel
theorem D_M_readsRule_32 : decode cX12_readsRule 32 = .ok (.return_, 1) := by decide +kernel
theorem D_M_readsRule_33 : decode cX12_readsRule 33 = .ok (.aload_n 0, 1) := by decide +kernel
theorem D_M_readsRule_34 : decode cX12_readsRule 34 = .ok (.getfield 33, 3) := by decide +kernel
theorem D_M_readsRule_37 : decode cX12_readsRule 37 = .ok (.iconst (0), 1) := by decide +kernel
theorem D_M_readsRule_38 : decode cX12_readsRule 38 = .ok (.aload_n 0, 1) := by decide +kernel
theorem D_M_readsRule_39 : decode cX12_readsRule 39 = .ok (.getfield 13, 3) := by decide +kernel
theorem D_M_readsRule_42 : decode cX12_readsRule 42 = .ok (.iload_n 2, 1) := by decide +kernel
theorem D_M_readsRule_43 : decode cX12_readsRule 43 = .ok (.bipush (7), 2) := by decide +kernel
theorem D_M_readsRule_45 : decode cX12_readsRule 45 = .ok (.invokestatic 179, 3) := by decide +kernel
theorem D_M_readsRule_48 : decode cX12_readsRule 48 = .ok (.aload_n 0, 1) := by decide +kernel
theorem D_M_readsRule_49 : decode cX12_readsRule 49 = .ok (.iload_n 2, 1) := by decide +kernel
theorem D_M_readsRule_50 : decode cX12_readsRule 50 = .ok (.putfield 144, 3) := by decide +kernel
theorem D_M_readsRule_53 : decode cX12_readsRule 53 = .ok (.aload_n 0, 1) := by decide +kernel
theorem D_M_readsRule_54 : decode cX12_readsRule 54 = .ok (.getfield 13, 3) := by decide +kernel
theorem D_M_readsRule_57 : decode cX12_readsRule 57 = .ok (.iload_n 2, 1) := by decide +kernel
theorem D_M_readsRule_58 : decode cX12_readsRule 58 = .ok (.bipush (7), 2) := by decide +kernel
theorem D_M_readsRule_60 : decode cX12_readsRule 60 = .ok (.iadd, 1) := by decide +kernel
theorem D_M_readsRule_61 : decode cX12_readsRule 61 = .ok (.iconst (0), 1) := by decide +kernel
theorem D_M_readsRule_62 : decode cX12_readsRule 62 = .ok (.iastore, 1) := by decide +kernel
theorem D_M_readsRule_63 : decode cX12_readsRule 63 = .ok (.aload_n 0, 1) := by decide +kernel
theorem D_M_readsRule_64 : decode cX12_readsRule 64 = .ok (.getfield 13, 3) := by decide +kernel
theorem D_M_readsRule_67 : decode cX12_readsRule 67 = .ok (.iconst (1), 1) := by decide +kernel
theorem D_M_readsRule_68 : decode cX12_readsRule 68 = .ok (.dup2, 1) := by decide +kernel
theorem D_M_readsRule_69 : decode cX12_readsRule 69 = .ok (.iaload, 1) := by decide +kernel
theorem D_M_readsRule_70 : decode cX12_readsRule 70 = .ok (.iconst (1), 1) := by decide +kernel
theorem D_M_readsRule_71 : decode cX12_readsRule 71 = .ok (.iadd, 1) := by decide +kernel
theorem D_M_readsRule_72 : decode cX12_readsRule 72 = .ok (.iastore, 1) := by decide +kernel
theorem D_M_readsRule_73 : decode cX12_readsRule 73 = .ok (.iconst (1), 1) := by decide +kernel
theorem D_M_readsRule_74 : decode cX12_readsRule 74 = .ok (.istore_n 3, 1) := by decide +kernel
theorem D_M_readsRule_75 : decode cX12_readsRule 75 = .ok (.iload_n 3, 1) := by decide +kernel
theorem D_M_readsRule_76 : decode cX12_readsRule 76 = .ok (.ifCond .eq (100), 3) := by decide +kernel
theorem D_M_readsRule_79 : decode cX12_readsRule 79 = .ok (.aload_n 0, 1) := by decide +kernel
theorem D_M_readsRule_80 : decode cX12_readsRule 80 = .ok (.dup, 1) := by decide +kernel
theorem D_M_readsRule_81 : decode cX12_readsRule 81 = .ok (.getfield 120, 3) := by decide +kernel
theorem D_M_readsRule_84 : decode cX12_readsRule 84 = .ok (.iconst (1), 1) := by decide +kernel
theorem D_M_readsRule_85 : decode cX12_readsRule 85 = .ok (.iadd, 1) := by decide +kernel
theorem D_M_readsRule_86 : decode cX12_readsRule 86 = .ok (.putfield 120, 3) := by decide +kernel
theorem D_M_readsRule_89 : decode cX12_readsRule 89 = .ok (.aload_n 0, 1) := by decide +kernel
theorem D_M_readsRule_90 : decode cX12_readsRule 90 = .ok (.iload_n 2, 1) := by decide +kernel
theorem D_M_readsRule_91 : decode cX12_readsRule 91 = .ok (.bipush (8), 2) := by decide +kernel
theorem D_M_readsRule_93 : decode cX12_readsRule 93 = .ok (.iadd, 1) := by decide +kernel
theorem D_M_readsRule_94 : decode cX12_readsRule 94 = .ok (.bipush (33), 2) := by decide +kernel
theorem D_M_readsRule_96 : decode cX12_readsRule 96 = .ok (.aload_n 0, 1) := by decide +kernel
theorem D_M_readsRule_97 : decode cX12_readsRule 97 = .ok (.getfield 13, 3) := by decide +kernel
theorem D_M_readsRule_100 : decode cX12_readsRule 100 = .ok (.iload_n 2, 1) := by decide +kernel
theorem D_M_readsRule_101 : decode cX12_readsRule 101 = .ok (.bipush (7), 2) := by decide +kernel
theorem D_M_readsRule_103 : decode cX12_readsRule 103 = .ok (.iadd, 1) := by decide +kernel
theorem D_M_readsRule_104 : decode cX12_readsRule 104 = .ok (.iaload, 1) := by decide +kernel
theorem D_M_readsRule_105 : decode cX12_readsRule 105 = .ok (.imul, 1) := by decide +kernel
theorem D_M_readsRule_106 : decode cX12_readsRule 106 = .ok (.iadd, 1) := by decide +kernel
theorem D_M_readsRule_107 : decode cX12_readsRule 107 = .ok (.invokevirtual 183, 3) := by decide +kernel
theorem D_M_readsRule_110 : decode cX12_readsRule 110 = .ok (.aload_n 0, 1) := by decide +kernel
theorem D_M_readsRule_111 : decode cX12_readsRule 111 = .ok (.getfield 13, 3) := by decide +kernel
theorem D_M_readsRule_114 : decode cX12_readsRule 114 = .ok (.iload_n 2, 1) := by decide +kernel
theorem D_M_readsRule_115 : decode cX12_readsRule 115 = .ok (.bipush (7), 2) := by decide +kernel
theorem D_M_readsRule_117 : decode cX12_readsRule 117 = .ok (.iadd, 1) := by decide +kernel
theorem D_M_readsRule_118 : decode cX12_readsRule 118 = .ok (.dup2, 1) := by decide +kernel
theorem D_M_readsRule_119 : decode cX12_readsRule 119 = .ok (.iaload, 1) := by decide +kernel
theorem D_M_readsRule_120 : decode cX12_readsRule 120 = .ok (.iconst (1), 1) := by decide +kernel
theorem D_M_readsRule_121 : decode cX12_readsRule 121 = .ok (.iadd, 1) := by decide +kernel
theorem D_M_readsRule_122 : decode cX12_readsRule 122 = .ok (.iastore, 1) := by decide +kernel
theorem D_M_readsRule_123 : decode cX12_readsRule 123 = .ok (.aload_n 0, 1) := by decide +kernel
theorem D_M_readsRule_124 : decode cX12_readsRule 124 = .ok (.invokevirtual 130, 3) := by decide +kernel
theorem D_M_readsRule_127 : decode cX12_readsRule 127 = .ok (.ifCond .eq (16), 3) := by decide +kernel
theorem D_M_readsRule_130 : decode cX12_readsRule 130 = .ok (.aload_n 0, 1) := by decide +kernel
theorem D_M_readsRule_131 : decode cX12_readsRule 131 = .ok (.invokevirtual 134, 3) := by decide +kernel
theorem D_M_readsRule_134 : decode cX12_readsRule 134 = .ok (.bipush (47), 2) := by decide +kernel
theorem D_M_readsRule_136 : decode cX12_readsRule 136 = .ok (.if_icmp .ne (7), 3) := by decide +kernel
theorem D_M_readsRule_139 : decode cX12_readsRule 139 = .ok (.iconst (1), 1) := by decide +kernel
theorem D_M_readsRule_140 : decode cX12_readsRule 140 = .ok (.goto (4), 3) := by decide +kernel
theorem D_M_readsRule_143 : decode cX12_readsRule 143 = .ok (.iconst (0), 1) := by decide +kernel
theorem D_M_readsRule_144 : decode cX12_readsRule 144 = .ok (.istore_n 3, 1) := by decide +kernel
theorem D_M_readsRule_145 : decode cX12_readsRule 145 = .ok (.iload_n 3, 1) := by decide +kernel
theorem D_M_readsRule_146 : decode cX12_readsRule 146 = .ok (.ifCond .eq (-71), 3) := by decide +kernel
theorem D_M_readsRule_149 : decode cX12_readsRule 149 = .ok (.aload_n 0, 1) := by decide +kernel
theorem D_M_readsRule_150 : decode cX12_readsRule 150 = .ok (.getfield 13, 3) := by decide +kernel
theorem D_M_readsRule_153 : decode cX12_readsRule 153 = .ok (.iload_n 2, 1) := by decide +kernel
theorem D_M_readsRule_154 : decode cX12_readsRule 154 = .ok (.bipush (7), 2) := by decide +kernel
theorem D_M_readsRule_156 : decode cX12_readsRule 156 = .ok (.iadd, 1) := by decide +kernel
theorem D_M_readsRule_157 : decode cX12_readsRule 157 = .ok (.iaload, 1) := by decide +kernel
theorem D_M_readsRule_158 : decode cX12_readsRule 158 = .ok (.iconst (4), 1) := by decide +kernel
theorem D_M_readsRule_159 : decode cX12_readsRule 159 = .ok (.if_icmp .ne (-84), 3) := by decide +kernel
theorem D_M_readsRule_162 : decode cX12_readsRule 162 = .ok (.aload_n 0, 1) := by decide +kernel
theorem D_M_readsRule_163 : decode cX12_readsRule 163 = .ok (.iconst (3), 1) := by decide +kernel
theorem D_M_readsRule_164 : decode cX12_readsRule 164 = .ok (.aload_n 0, 1) := by decide +kernel
theorem D_M_readsRule_165 : decode cX12_readsRule 165 = .ok (.getfield 120, 3) := by decide +kernel
theorem D_M_readsRule_168 : decode cX12_readsRule 168 = .ok (.invokevirtual 154, 3) := by decide +kernel
theorem D_M_readsRule_171 : decode cX12_readsRule 171 = .ok (.iconst (0), 1) := by decide +kernel
theorem D_M_readsRule_172 : decode cX12_readsRule 172 = .ok (.istore_n 3, 1) := by decide +kernel
theorem D_M_readsRule_173 : decode cX12_readsRule 173 = .ok (.goto (-98), 3) := by decide +kernel
theorem D_M_readsRule_176 : decode cX12_readsRule 176 = .ok (.return_, 1) := by decide +kernel
def K_M_readsRule : SC := (cX12_readsRule, "TwoLevelsModel", 4, 7, false, [13, 70, 71, 72, 73, 76], NoQ)
def d_M_readsRule : MD Unit := mth tt 4 (sq (sI1 2 (eh2 iaddF (eC (nI 184)) (eh2 imulF (eC (nI 140)) (eh2 (aI .int) (eh1 (gR 13 1) (lR 0)) (eC (nI 1))))))
 (sq (sIf (eh2 c_eq (eh2 (aI .int) (eh1 (gR 13 1) (lR 0)) (eC (nI 1))) (eC (nI 10))) (sq (sE (kV 13 d_M_fails (lR 0) [vI (eC (nI 3)), vI (lI 1)]))
 rtnU) sk)
 (sq (sE (kS d_M_moves [vR (eh1 (gR 13 13) (lR 0)), vI (eC (nI 0)), vR (eh1 (gR 13 1) (lR 0)), vI (lI 2), vI (eC (nI 7))]))
 (sq (sh2 (pI false 13 10) (lR 0) (lI 2))
 (sq (sh3 (stI [71]) (eh1 (gR 13 1) (lR 0)) (eh2 iaddF (lI 2) (eC (nI 7))) (eC (nI 0)))
 (sq (su3 (aI .int) (uA [71] (fun x y => x + y)) (eh1 (gR 13 1) (lR 0)) (eC (nI 1)) (eC (nI 1)))
 (sq (sI1 3 (eC (nI 1)))
 (sq (loop (eh1 z_ne (lI 3))
 (sq (su2 (gI 13 8) (uF false 13 8 (fun x y => x + y)) (lR 0) (eC (nI 1)))
 (sq (sE (kV 13 d_M_readsChoice (lR 0) [vI (eh2 iaddF (eh2 iaddF (lI 2) (eC (nI 8))) (eh2 imulF (eC (nI 33)) (eh2 (aI .int) (eh1 (gR 13 1) (lR 0)) (eh2 iaddF (lI 2) (eC (nI 7))))))]))
 (sq (su3 (aI .int) (uA [71] (fun x y => x + y)) (eh1 (gR 13 1) (lR 0)) (eh2 iaddF (lI 2) (eC (nI 7))) (eC (nI 1)))
 (sq (sI1 3 (eIf (cAnd (eh1 z_ne (kV 13 d_M_isRight (lR 0) [])) (eh2 c_eq (kV 13 d_M_next (lR 0) []) (eC (nI 47)))) (eC (nI 1)) (eC (nI 0))))
 (sIf (cAnd (eh1 z_ne (lI 3)) (eh2 c_eq (eh2 (aI .int) (eh1 (gR 13 1) (lR 0)) (eh2 iaddF (lI 2) (eC (nI 7)))) (eC (nI 4)))) (sq (sE (kV 13 d_M_fails (lR 0) [vI (eC (nI 3)), vI (eh1 (gI 13 8) (lR 0))]))
 (sI1 3 (eC (nI 0)))) sk)))))
 sk)
 rtnU))))))))
theorem m_M_readsRule : MJ 7 [13, 70, 71, 72, 73, 76] yX12_readsRule none eU (d_M_readsRule) := MJ_of (K := K_M_readsRule) (ri := .return_) (n1 := 0) (n2 := 0) (n3 := 0)
 (SJ_sq (p0 := 0) (p1 := 15) (nN := 0) (nB := 0) (nC := 0) (SJ_istore_n (i := 2) (j := 2) (p0 := 0) (p1 := 14) (EJ_iadd (p0 := 0) (p1 := 3) (p2 := 13) (EJ_sipush (n := 184) (v := (nI 184)) (pc := 0) D_M_readsRule_0 (by decide +kernel)) (EJ_imul (p0 := 3) (p1 := 6) (p2 := 12) (EJ_sipush (n := 140) (v := (nI 140)) (pc := 3) D_M_readsRule_3 (by decide +kernel)) (EJ_iald (p0 := 6) (p1 := 10) (p2 := 11) (EJ_getR (t := 13) (c := 12) (kf := 1) (r := (RX12, TX12, 52)) (p0 := 6) (p1 := 7) (EJ_aload_n (j := 0) (i := 0) (pc := 6) D_M_readsRule_6 rfl) D_M_readsRule_7 ⟨rfl, rfl, by decide, q_933⟩ (fun _ _ => rfl)) (EJ_iconst (n := 1) (v := (nI 1)) (pc := 10) D_M_readsRule_10 (by decide +kernel)) D_M_readsRule_11) D_M_readsRule_12) D_M_readsRule_13) D_M_readsRule_14 rfl)
 (SJ_sq (p0 := 15) (p1 := 33) (nN := 0) (nB := 0) (nC := 0) (SJ_if (p0 := 15) (pT := 26) (pF := 33) (nN := 33) (nB := 0) (nC := 0) (CJ_eq' (off := 10) (tgt := 33) (p0 := 15) (p1 := 21) (p2 := 23) (EJ_iald (p0 := 15) (p1 := 19) (p2 := 20) (EJ_getR (t := 13) (c := 12) (kf := 1) (r := (RX12, TX12, 52)) (p0 := 15) (p1 := 16) (EJ_aload_n (j := 0) (i := 0) (pc := 15) D_M_readsRule_15 rfl) D_M_readsRule_16 ⟨rfl, rfl, by decide, q_933⟩ (fun _ _ => rfl)) (EJ_iconst (n := 1) (v := (nI 1)) (pc := 19) D_M_readsRule_19 (by decide +kernel)) D_M_readsRule_20) (EJ_bipush (n := 10) (v := (nI 10)) (pc := 21) D_M_readsRule_21 (by decide +kernel)) D_M_readsRule_23 rfl) (SJ_sq (p0 := 26) (p1 := 32) (nN := 33) (nB := 0) (nC := 0) (SJ_void (p0 := 26) (p1 := 32) (EJ_callV (t := 13) (c := 12) (r := (RX12, TX12, 52)) (p0 := 26) (p1 := 27) (p2 := 29) (EJ_aload_n (j := 0) (i := 0) (pc := 26) D_M_readsRule_26 rfl) (AJ_I (p0 := 27) (p1 := 28) (p2 := 29) (EJ_iconst (n := 3) (v := (nI 3)) (pc := 27) D_M_readsRule_27 (by decide +kernel)) (AJ_I (p0 := 28) (p1 := 29) (p2 := 29) (EJ_iload_n (j := 1) (i := 1) (pc := 28) D_M_readsRule_28 rfl) AJ_nil)) m_M_fails E1_U D_M_readsRule_29 rfl rfl rfl q_1077 q_1078 q_42 q_97 ⟨by decide +kernel, by decide +kernel, by decide +kernel⟩ (by decide) (show 2 + 1 ≤ 7 from by decide) (show ∀ x_ ∈ ([13] : List Nat), x_ ∈ ([13, 70, 71, 72, 73, 76] : List Nat) from by decide)))
 (SJ_retU (pc := 32) D_M_readsRule_32)) SJ_sk)
 (SJ_sq (p0 := 33) (p1 := 48) (nN := 0) (nB := 0) (nC := 0) (SJ_void (p0 := 33) (p1 := 48) (EJ_callS (p0 := 33) (p1 := 45) (AJ_R (p0 := 33) (p1 := 37) (p2 := 45) (EJ_getR (t := 13) (c := 12) (kf := 13) (r := (RX12, TX12, 52)) (p0 := 33) (p1 := 34) (EJ_aload_n (j := 0) (i := 0) (pc := 33) D_M_readsRule_33 rfl) D_M_readsRule_34 ⟨rfl, rfl, by decide, q_945⟩ (fun _ _ => rfl)) (AJ_I (p0 := 37) (p1 := 38) (p2 := 45) (EJ_iconst (n := 0) (v := (nI 0)) (pc := 37) D_M_readsRule_37 (by decide +kernel)) (AJ_R (p0 := 38) (p1 := 42) (p2 := 45) (EJ_getR (t := 13) (c := 12) (kf := 1) (r := (RX12, TX12, 52)) (p0 := 38) (p1 := 39) (EJ_aload_n (j := 0) (i := 0) (pc := 38) D_M_readsRule_38 rfl) D_M_readsRule_39 ⟨rfl, rfl, by decide, q_933⟩ (fun _ _ => rfl)) (AJ_I (p0 := 42) (p1 := 43) (p2 := 45) (EJ_iload_n (j := 2) (i := 2) (pc := 42) D_M_readsRule_42 rfl) (AJ_I (p0 := 43) (p1 := 45) (p2 := 45) (EJ_bipush (n := 7) (v := (nI 7)) (pc := 43) D_M_readsRule_43 (by decide +kernel)) AJ_nil))))) m_M_moves E1_U D_M_readsRule_45 q_1098 q_1099 q_97 ⟨by decide +kernel, by decide +kernel, by decide +kernel⟩ (by decide) (show 1 + 1 ≤ 7 from by decide) (show ∀ x_ ∈ ([70, 71, 72, 73] : List Nat), x_ ∈ ([13, 70, 71, 72, 73, 76] : List Nat) from by decide)))
 (SJ_sq (p0 := 48) (p1 := 53) (nN := 0) (nB := 0) (nC := 0) (SJ_putI (z := false) (t := 13) (c := 12) (kf := 10) (r := (RX12, TX12, 52)) (p0 := 48) (p1 := 49) (p2 := 50) (EJ_aload_n (j := 0) (i := 0) (pc := 48) D_M_readsRule_48 rfl) (EJ_iload_n (j := 2) (i := 2) (pc := 49) D_M_readsRule_49 rfl) D_M_readsRule_50 ⟨rfl, rfl, by decide, q_942⟩ (Or.inl rfl) (fun _ _ => ⟨rfl, rfl⟩) (fun _ _ => rfl) (show (13 : Nat) ∈ ([13, 70, 71, 72, 73, 76] : List Nat) from by decide))
 (SJ_sq (p0 := 53) (p1 := 63) (nN := 0) (nB := 0) (nC := 0) (SJ_iast (ws := [71]) (p0 := 53) (p1 := 57) (p2 := 61) (p3 := 62) (EJ_getR (t := 13) (c := 12) (kf := 1) (r := (RX12, TX12, 52)) (p0 := 53) (p1 := 54) (EJ_aload_n (j := 0) (i := 0) (pc := 53) D_M_readsRule_53 rfl) D_M_readsRule_54 ⟨rfl, rfl, by decide, q_933⟩ (fun _ _ => rfl)) (EJ_iadd (p0 := 57) (p1 := 58) (p2 := 60) (EJ_iload_n (j := 2) (i := 2) (pc := 57) D_M_readsRule_57 rfl) (EJ_bipush (n := 7) (v := (nI 7)) (pc := 58) D_M_readsRule_58 (by decide +kernel)) D_M_readsRule_60) (EJ_iconst (n := 0) (v := (nI 0)) (pc := 61) D_M_readsRule_61 (by decide +kernel)) D_M_readsRule_62 (show ∀ x_ ∈ ([71] : List Nat), x_ ∈ ([13, 70, 71, 72, 73, 76] : List Nat) from by decide))
 (SJ_sq (p0 := 63) (p1 := 73) (nN := 0) (nB := 0) (nC := 0) (SJ_upA (ws := [71]) (f := (fun x y => x + y)) (p0 := 63) (p1 := 67) (p2 := 68) (p4 := 71) (EJ_getR (t := 13) (c := 12) (kf := 1) (r := (RX12, TX12, 52)) (p0 := 63) (p1 := 64) (EJ_aload_n (j := 0) (i := 0) (pc := 63) D_M_readsRule_63 rfl) D_M_readsRule_64 ⟨rfl, rfl, by decide, q_933⟩ (fun _ _ => rfl)) (EJ_iconst (n := 1) (v := (nI 1)) (pc := 67) D_M_readsRule_67 (by decide +kernel)) D_M_readsRule_68 D_M_readsRule_69 (EJ_iconst (n := 1) (v := (nI 1)) (pc := 70) D_M_readsRule_70 (by decide +kernel)) (Op2_iadd D_M_readsRule_71) D_M_readsRule_72 (show ∀ x_ ∈ ([71] : List Nat), x_ ∈ ([13, 70, 71, 72, 73, 76] : List Nat) from by decide))
 (SJ_sq (p0 := 73) (p1 := 75) (nN := 0) (nB := 0) (nC := 0) (SJ_istore_n (i := 3) (j := 3) (p0 := 73) (p1 := 74) (EJ_iconst (n := 1) (v := (nI 1)) (pc := 73) D_M_readsRule_73 (by decide +kernel)) D_M_readsRule_74 rfl)
 (SJ_sq (p0 := 75) (p1 := 176) (nN := 0) (nB := 0) (nC := 0) (SJ_loop (p0 := 75) (pB := 79) (pS := 75) (pE := 176) (CZ_ne' (off := 100) (tgt := 176) (p0 := 75) (p1 := 76) (EJ_iload_n (j := 3) (i := 3) (pc := 75) D_M_readsRule_75 rfl) D_M_readsRule_76 rfl)
 (SJ_sq (p0 := 79) (p1 := 89) (nN := 75) (nB := 176) (nC := 75) (SJ_upF (z := false) (t := 13) (c := 12) (kf := 8) (r := (RX12, TX12, 52)) (f := (fun x y => x + y)) (p0 := 79) (p1 := 80) (p3 := 85) (EJ_aload_n (j := 0) (i := 0) (pc := 79) D_M_readsRule_79 rfl) D_M_readsRule_80 D_M_readsRule_81 (EJ_iconst (n := 1) (v := (nI 1)) (pc := 84) D_M_readsRule_84 (by decide +kernel)) (Op2_iadd D_M_readsRule_85) D_M_readsRule_86 ⟨rfl, rfl, by decide, q_940⟩ ⟨rfl, rfl, by decide, q_940⟩ (Or.inl rfl) (fun _ _ => ⟨rfl, rfl⟩) (fun _ _ => rfl) (show (13 : Nat) ∈ ([13, 70, 71, 72, 73, 76] : List Nat) from by decide))
 (SJ_sq (p0 := 89) (p1 := 110) (nN := 75) (nB := 176) (nC := 75) (SJ_void (p0 := 89) (p1 := 110) (EJ_callV (t := 13) (c := 12) (r := (RX12, TX12, 52)) (p0 := 89) (p1 := 90) (p2 := 107) (EJ_aload_n (j := 0) (i := 0) (pc := 89) D_M_readsRule_89 rfl) (AJ_I (p0 := 90) (p1 := 107) (p2 := 107) (EJ_iadd (p0 := 90) (p1 := 94) (p2 := 106) (EJ_iadd (p0 := 90) (p1 := 91) (p2 := 93) (EJ_iload_n (j := 2) (i := 2) (pc := 90) D_M_readsRule_90 rfl) (EJ_bipush (n := 8) (v := (nI 8)) (pc := 91) D_M_readsRule_91 (by decide +kernel)) D_M_readsRule_93) (EJ_imul (p0 := 94) (p1 := 96) (p2 := 105) (EJ_bipush (n := 33) (v := (nI 33)) (pc := 94) D_M_readsRule_94 (by decide +kernel)) (EJ_iald (p0 := 96) (p1 := 100) (p2 := 104) (EJ_getR (t := 13) (c := 12) (kf := 1) (r := (RX12, TX12, 52)) (p0 := 96) (p1 := 97) (EJ_aload_n (j := 0) (i := 0) (pc := 96) D_M_readsRule_96 rfl) D_M_readsRule_97 ⟨rfl, rfl, by decide, q_933⟩ (fun _ _ => rfl)) (EJ_iadd (p0 := 100) (p1 := 101) (p2 := 103) (EJ_iload_n (j := 2) (i := 2) (pc := 100) D_M_readsRule_100 rfl) (EJ_bipush (n := 7) (v := (nI 7)) (pc := 101) D_M_readsRule_101 (by decide +kernel)) D_M_readsRule_103) D_M_readsRule_104) D_M_readsRule_105) D_M_readsRule_106) AJ_nil) m_M_readsChoice E1_U D_M_readsRule_107 rfl rfl rfl q_1101 q_1102 q_49 q_97 ⟨by decide +kernel, by decide +kernel, by decide +kernel⟩ (by decide) (show 6 + 1 ≤ 7 from by decide) (show ∀ x_ ∈ ([13, 71, 76] : List Nat), x_ ∈ ([13, 70, 71, 72, 73, 76] : List Nat) from by decide)))
 (SJ_sq (p0 := 110) (p1 := 123) (nN := 75) (nB := 176) (nC := 75) (SJ_upA (ws := [71]) (f := (fun x y => x + y)) (p0 := 110) (p1 := 114) (p2 := 118) (p4 := 121) (EJ_getR (t := 13) (c := 12) (kf := 1) (r := (RX12, TX12, 52)) (p0 := 110) (p1 := 111) (EJ_aload_n (j := 0) (i := 0) (pc := 110) D_M_readsRule_110 rfl) D_M_readsRule_111 ⟨rfl, rfl, by decide, q_933⟩ (fun _ _ => rfl)) (EJ_iadd (p0 := 114) (p1 := 115) (p2 := 117) (EJ_iload_n (j := 2) (i := 2) (pc := 114) D_M_readsRule_114 rfl) (EJ_bipush (n := 7) (v := (nI 7)) (pc := 115) D_M_readsRule_115 (by decide +kernel)) D_M_readsRule_117) D_M_readsRule_118 D_M_readsRule_119 (EJ_iconst (n := 1) (v := (nI 1)) (pc := 120) D_M_readsRule_120 (by decide +kernel)) (Op2_iadd D_M_readsRule_121) D_M_readsRule_122 (show ∀ x_ ∈ ([71] : List Nat), x_ ∈ ([13, 70, 71, 72, 73, 76] : List Nat) from by decide))
 (SJ_sq (p0 := 123) (p1 := 145) (nN := 75) (nB := 176) (nC := 75) (SJ_istore_n (i := 3) (j := 3) (p0 := 123) (p1 := 144) (EJ_if (p0 := 123) (pT := 139) (pF := 143) (pE := 140) (p1 := 144) (CJ_and (p0 := 123) (pM := 130) (pT := 139) (pF := 143) (CZ_ne' (off := 16) (tgt := 143) (p0 := 123) (p1 := 127) (EJ_callV (t := 13) (c := 12) (r := (RX12, TX12, 52)) (p0 := 123) (p1 := 124) (p2 := 124) (EJ_aload_n (j := 0) (i := 0) (pc := 123) D_M_readsRule_123 rfl) AJ_nil m_M_isRight E1_I D_M_readsRule_124 rfl rfl rfl q_1062 q_1063 q_40 q_97 ⟨by decide +kernel, by decide +kernel, by decide +kernel⟩ (by decide) (show 1 + 1 ≤ 7 from by decide) (fun _ h => absurd h List.not_mem_nil)) D_M_readsRule_127 rfl) (CJ_eq' (off := 7) (tgt := 143) (p0 := 130) (p1 := 134) (p2 := 136) (EJ_callV (t := 13) (c := 12) (r := (RX12, TX12, 52)) (p0 := 130) (p1 := 131) (p2 := 131) (EJ_aload_n (j := 0) (i := 0) (pc := 130) D_M_readsRule_130 rfl) AJ_nil m_M_next E1_I D_M_readsRule_131 rfl rfl rfl q_1053 q_1054 q_37 q_97 ⟨by decide +kernel, by decide +kernel, by decide +kernel⟩ (by decide) (show 2 + 1 ≤ 7 from by decide) (show ∀ x_ ∈ ([13] : List Nat), x_ ∈ ([13, 70, 71, 72, 73, 76] : List Nat) from by decide)) (EJ_bipush (n := 47) (v := (nI 47)) (pc := 134) D_M_readsRule_134 (by decide +kernel)) D_M_readsRule_136 rfl)) (EJ_iconst (n := 1) (v := (nI 1)) (pc := 139) D_M_readsRule_139 (by decide +kernel)) (Lead.goto (K := K_M_readsRule) (pc := 140) (tgt := 144) D_M_readsRule_140 rfl) (EJ_iconst (n := 0) (v := (nI 0)) (pc := 143) D_M_readsRule_143 (by decide +kernel))) D_M_readsRule_144 rfl)
 (SJ_if (p0 := 145) (pT := 162) (pF := 75) (nN := 75) (nB := 176) (nC := 75) (CJ_and (p0 := 145) (pM := 149) (pT := 162) (pF := 75) (CZ_ne' (off := -71) (tgt := 75) (p0 := 145) (p1 := 146) (EJ_iload_n (j := 3) (i := 3) (pc := 145) D_M_readsRule_145 rfl) D_M_readsRule_146 rfl) (CJ_eq' (off := -84) (tgt := 75) (p0 := 149) (p1 := 158) (p2 := 159) (EJ_iald (p0 := 149) (p1 := 153) (p2 := 157) (EJ_getR (t := 13) (c := 12) (kf := 1) (r := (RX12, TX12, 52)) (p0 := 149) (p1 := 150) (EJ_aload_n (j := 0) (i := 0) (pc := 149) D_M_readsRule_149 rfl) D_M_readsRule_150 ⟨rfl, rfl, by decide, q_933⟩ (fun _ _ => rfl)) (EJ_iadd (p0 := 153) (p1 := 154) (p2 := 156) (EJ_iload_n (j := 2) (i := 2) (pc := 153) D_M_readsRule_153 rfl) (EJ_bipush (n := 7) (v := (nI 7)) (pc := 154) D_M_readsRule_154 (by decide +kernel)) D_M_readsRule_156) D_M_readsRule_157) (EJ_iconst (n := 4) (v := (nI 4)) (pc := 158) D_M_readsRule_158 (by decide +kernel)) D_M_readsRule_159 rfl)) (SJ_sq (p0 := 162) (p1 := 171) (nN := 75) (nB := 176) (nC := 75) (SJ_void (p0 := 162) (p1 := 171) (EJ_callV (t := 13) (c := 12) (r := (RX12, TX12, 52)) (p0 := 162) (p1 := 163) (p2 := 168) (EJ_aload_n (j := 0) (i := 0) (pc := 162) D_M_readsRule_162 rfl) (AJ_I (p0 := 163) (p1 := 164) (p2 := 168) (EJ_iconst (n := 3) (v := (nI 3)) (pc := 163) D_M_readsRule_163 (by decide +kernel)) (AJ_I (p0 := 164) (p1 := 168) (p2 := 168) (EJ_getI (t := 13) (c := 12) (kf := 8) (r := (RX12, TX12, 52)) (p0 := 164) (p1 := 165) (EJ_aload_n (j := 0) (i := 0) (pc := 164) D_M_readsRule_164 rfl) D_M_readsRule_165 ⟨rfl, rfl, by decide, q_940⟩ (fun _ _ => rfl)) AJ_nil)) m_M_fails E1_U D_M_readsRule_168 rfl rfl rfl q_1077 q_1078 q_42 q_97 ⟨by decide +kernel, by decide +kernel, by decide +kernel⟩ (by decide) (show 2 + 1 ≤ 7 from by decide) (show ∀ x_ ∈ ([13] : List Nat), x_ ∈ ([13, 70, 71, 72, 73, 76] : List Nat) from by decide)))
 (SJ_post (SJ_istore_n (i := 3) (j := 3) (p0 := 171) (p1 := 172) (EJ_iconst (n := 0) (v := (nI 0)) (pc := 171) D_M_readsRule_171 (by decide +kernel)) D_M_readsRule_172 rfl) (Lead.goto (K := K_M_readsRule) (pc := 173) (tgt := 75) D_M_readsRule_173 rfl))) SJ_sk)))))
 SJ_sk)
 (SJ_retU (pc := 176) D_M_readsRule_176)))))))))
 RTm_void q_1097 (by decide +kernel) rfl (fun h => by cases h) (show 4 ≤ 40 from by decide) (fun _ => trivial)
theorem D_M_readsPart_0 : decode cX12_readsPart 0 = .ok (.aload_n 0, 1) := by decide +kernel
theorem D_M_readsPart_1 : decode cX12_readsPart 1 = .ok (.invokevirtual 134, 3) := by decide +kernel
theorem D_M_readsPart_4 : decode cX12_readsPart 4 = .ok (.pop, 1) := by decide +kernel
theorem D_M_readsPart_5 : decode cX12_readsPart 5 = .ok (.aload_n 0, 1) := by decide +kernel
theorem D_M_readsPart_6 : decode cX12_readsPart 6 = .ok (.getfield 120, 3) := by decide +kernel
theorem D_M_readsPart_9 : decode cX12_readsPart 9 = .ok (.istore_n 1, 1) := by decide +kernel
theorem D_M_readsPart_10 : decode cX12_readsPart 10 = .ok (.aload_n 0, 1) := by decide +kernel
theorem D_M_readsPart_11 : decode cX12_readsPart 11 = .ok (.getfield 33, 3) := by decide +kernel
theorem D_M_readsPart_14 : decode cX12_readsPart 14 = .ok (.iconst (0), 1) := by decide +kernel
theorem D_M_readsPart_15 : decode cX12_readsPart 15 = .ok (.iconst (0), 1) := by decide +kernel
theorem D_M_readsPart_16 : decode cX12_readsPart 16 = .ok (.iastore, 1) := by decide +kernel
theorem D_M_readsPart_17 : decode cX12_readsPart 17 = .ok (.aload_n 0, 1) := by decide +kernel
theorem D_M_readsPart_18 : decode cX12_readsPart 18 = .ok (.invokevirtual 130, 3) := by decide +kernel
theorem D_M_readsPart_21 : decode cX12_readsPart 21 = .ok (.ifCond .eq (71), 3) := by decide +kernel
theorem D_M_readsPart_24 : decode cX12_readsPart 24 = .ok (.aload_n 0, 1) := by decide +kernel
theorem D_M_readsPart_25 : decode cX12_readsPart 25 = .ok (.invokevirtual 158, 3) := by decide +kernel
theorem D_M_readsPart_28 : decode cX12_readsPart 28 = .ok (.ifCond .eq (64), 3) := by decide +kernel
theorem D_M_readsPart_31 : decode cX12_readsPart 31 = .ok (.aload_n 0, 1) := by decide +kernel
theorem D_M_readsPart_32 : decode cX12_readsPart 32 = .ok (.getfield 33, 3) := by decide +kernel
theorem D_M_readsPart_35 : decode cX12_readsPart 35 = .ok (.iconst (0), 1) := by decide +kernel
theorem D_M_readsPart_36 : decode cX12_readsPart 36 = .ok (.iaload, 1) := by decide +kernel
theorem D_M_readsPart_37 : decode cX12_readsPart 37 = .ok (.bipush (6), 2) := by decide +kernel
theorem D_M_readsPart_39 : decode cX12_readsPart 39 = .ok (.if_icmp .ne (15), 3) := by decide +kernel
theorem D_M_readsPart_42 : decode cX12_readsPart 42 = .ok (.aload_n 0, 1) := by decide +kernel
theorem D_M_readsPart_43 : decode cX12_readsPart 43 = .ok (.iconst (2), 1) := by decide +kernel
theorem D_M_readsPart_44 : decode cX12_readsPart 44 = .ok (.aload_n 0, 1) := by decide +kernel
theorem D_M_readsPart_45 : decode cX12_readsPart 45 = .ok (.getfield 120, 3) := by decide +kernel
theorem D_M_readsPart_48 : decode cX12_readsPart 48 = .ok (.invokevirtual 154, 3) := by decide +kernel
theorem D_M_readsPart_51 : decode cX12_readsPart 51 = .ok (.goto (-34), 3) := by decide +kernel
theorem D_M_readsPart_54 : decode cX12_readsPart 54 = .ok (.aload_n 0, 1) := by decide +kernel
theorem D_M_readsPart_55 : decode cX12_readsPart 55 = .ok (.getfield 33, 3) := by decide +kernel
theorem D_M_readsPart_58 : decode cX12_readsPart 58 = .ok (.iconst (0), 1) := by decide +kernel
theorem D_M_readsPart_59 : decode cX12_readsPart 59 = .ok (.dup2, 1) := by decide +kernel
theorem D_M_readsPart_60 : decode cX12_readsPart 60 = .ok (.iaload, 1) := by decide +kernel
theorem D_M_readsPart_61 : decode cX12_readsPart 61 = .ok (.iconst (1), 1) := by decide +kernel
theorem D_M_readsPart_62 : decode cX12_readsPart 62 = .ok (.iadd, 1) := by decide +kernel
theorem D_M_readsPart_63 : decode cX12_readsPart 63 = .ok (.iastore, 1) := by decide +kernel
theorem D_M_readsPart_64 : decode cX12_readsPart 64 = .ok (.aload_n 0, 1) := by decide +kernel
theorem D_M_readsPart_65 : decode cX12_readsPart 65 = .ok (.getfield 33, 3) := by decide +kernel
theorem D_M_readsPart_68 : decode cX12_readsPart 68 = .ok (.aload_n 0, 1) := by decide +kernel
theorem D_M_readsPart_69 : decode cX12_readsPart 69 = .ok (.getfield 33, 3) := by decide +kernel
theorem D_M_readsPart_72 : decode cX12_readsPart 72 = .ok (.iconst (0), 1) := by decide +kernel
theorem D_M_readsPart_73 : decode cX12_readsPart 73 = .ok (.iaload, 1) := by decide +kernel
theorem D_M_readsPart_74 : decode cX12_readsPart 74 = .ok (.aload_n 0, 1) := by decide +kernel
theorem D_M_readsPart_75 : decode cX12_readsPart 75 = .ok (.invokevirtual 123, 3) := by decide +kernel
theorem D_M_readsPart_78 : decode cX12_readsPart 78 = .ok (.iastore, 1) := by decide +kernel
theorem D_M_readsPart_79 : decode cX12_readsPart 79 = .ok (.aload_n 0, 1) := by decide +kernel
theorem D_M_readsPart_80 : decode cX12_readsPart 80 = .ok (.dup, 1) := by decide +kernel
theorem D_M_readsPart_81 : decode cX12_readsPart 81 = .ok (.getfield 120, 3) := by decide +kernel
theorem D_M_readsPart_84 : decode cX12_readsPart 84 = .ok (.iconst (1), 1) := by decide +kernel
theorem D_M_readsPart_85 : decode cX12_readsPart 85 = .ok (.iadd, 1) := by decide +kernel
theorem D_M_readsPart_86 : decode cX12_readsPart 86 = .ok (.putfield 120, 3) := by decide +kernel
theorem D_M_readsPart_89 : decode cX12_readsPart 89 = .ok (.goto (-72), 3) := by decide +kernel
theorem D_M_readsPart_92 : decode cX12_readsPart 92 = .ok (.aload_n 0, 1) := by decide +kernel
theorem D_M_readsPart_93 : decode cX12_readsPart 93 = .ok (.invokevirtual 130, 3) := by decide +kernel
theorem D_M_readsPart_96 : decode cX12_readsPart 96 = .ok (.ifCond .ne (4), 3) := by decide +kernel
theorem D_M_readsPart_99 : decode cX12_readsPart 99 = .ok (.return_, 1) := by decide +kernel
theorem D_M_readsPart_100 : decode cX12_readsPart 100 = .ok (.aload_n 0, 1) := by decide +kernel
theorem D_M_readsPart_101 : decode cX12_readsPart 101 = .ok (.invokevirtual 134, 3) := by decide +kernel
theorem D_M_readsPart_104 : decode cX12_readsPart 104 = .ok (.bipush (61), 2) := by decide +kernel
theorem D_M_readsPart_106 : decode cX12_readsPart 106 = .ok (.if_icmp .ne (39), 3) := by decide +kernel
theorem D_M_readsPart_109 : decode cX12_readsPart 109 = .ok (.aload_n 0, 1) := by decide +kernel
theorem D_M_readsPart_110 : decode cX12_readsPart 110 = .ok (.getfield 33, 3) := by decide +kernel
theorem D_M_readsPart_113 : decode cX12_readsPart 113 = .ok (.iconst (0), 1) := by decide +kernel
theorem D_M_readsPart_114 : decode cX12_readsPart 114 = .ok (.iaload, 1) := by decide +kernel
theorem D_M_readsPart_115 : decode cX12_readsPart 115 = .ok (.iconst (1), 1) := by decide +kernel
theorem D_M_readsPart_116 : decode cX12_readsPart 116 = .ok (.if_icmp .ne (29), 3) := by decide +kernel
theorem D_M_readsPart_119 : decode cX12_readsPart 119 = .ok (.aload_n 0, 1) := by decide +kernel
theorem D_M_readsPart_120 : decode cX12_readsPart 120 = .ok (.getfield 33, 3) := by decide +kernel
theorem D_M_readsPart_123 : decode cX12_readsPart 123 = .ok (.iconst (1), 1) := by decide +kernel
theorem D_M_readsPart_124 : decode cX12_readsPart 124 = .ok (.iaload, 1) := by decide +kernel
theorem D_M_readsPart_125 : decode cX12_readsPart 125 = .ok (.invokestatic 141, 3) := by decide +kernel
theorem D_M_readsPart_128 : decode cX12_readsPart 128 = .ok (.ifCond .eq (17), 3) := by decide +kernel
theorem D_M_readsPart_131 : decode cX12_readsPart 131 = .ok (.aload_n 0, 1) := by decide +kernel
theorem D_M_readsPart_132 : decode cX12_readsPart 132 = .ok (.aload_n 0, 1) := by decide +kernel
theorem D_M_readsPart_133 : decode cX12_readsPart 133 = .ok (.getfield 33, 3) := by decide +kernel
theorem D_M_readsPart_136 : decode cX12_readsPart 136 = .ok (.iconst (1), 1) := by decide +kernel
theorem D_M_readsPart_137 : decode cX12_readsPart 137 = .ok (.iaload, 1) := by decide +kernel
theorem D_M_readsPart_138 : decode cX12_readsPart 138 = .ok (.iload_n 1, 1) := by decide +kernel
theorem D_M_readsPart_139 : decode cX12_readsPart 139 = .ok (.invokevirtual 186, 3) := by decide +kernel
theorem D_M_readsPart_142 : decode cX12_readsPart 142 = .ok (.goto (38), 3) := by decide +kernel
theorem D_M_readsPart_145 : decode cX12_readsPart 145 = .ok (.aload_n 0, 1) := by decide +kernel
theorem D_M_readsPart_146 : decode cX12_readsPart 146 = .ok (.invokevirtual 123, 3) := by decide +kernel
theorem D_M_readsPart_149 : decode cX12_readsPart 149 = .ok (.bipush (58), 2) := by decide +kernel
theorem D_M_readsPart_151 : decode cX12_readsPart 151 = .ok (.if_icmp .ne (20), 3) := by decide +kernel
theorem D_M_readsPart_154 : decode cX12_readsPart 154 = .ok (.aload_n 0, 1) := by decide +kernel
theorem D_M_readsPart_155 : decode cX12_readsPart 155 = .ok (.getfield 33, 3) := by decide +kernel
theorem D_M_readsPart_158 : decode cX12_readsPart 158 = .ok (.iconst (0), 1) := by decide +kernel
theorem D_M_readsPart_159 : decode cX12_readsPart 159 = .ok (.iaload, 1) := by decide +kernel
theorem D_M_readsPart_160 : decode cX12_readsPart 160 = .ok (.ifCond .le (11), 3) := by decide +kernel
theorem D_M_readsPart_163 : decode cX12_readsPart 163 = .ok (.aload_n 0, 1) := by decide +kernel
theorem D_M_readsPart_164 : decode cX12_readsPart 164 = .ok (.iload_n 1, 1) := by decide +kernel
theorem D_M_readsPart_165 : decode cX12_readsPart 165 = .ok (.invokevirtual 189, 3) := by decide +kernel
theorem D_M_readsPart_168 : decode cX12_readsPart 168 = .ok (.goto (12), 3) := by decide +kernel
theorem D_M_readsPart_171 : decode cX12_readsPart 171 = .ok (.aload_n 0, 1) := by decide +kernel
theorem D_M_readsPart_172 : decode cX12_readsPart 172 = .ok (.iconst (1), 1) := by decide +kernel
theorem D_M_readsPart_173 : decode cX12_readsPart 173 = .ok (.aload_n 0, 1) := by decide +kernel
theorem D_M_readsPart_174 : decode cX12_readsPart 174 = .ok (.getfield 120, 3) := by decide +kernel
theorem D_M_readsPart_177 : decode cX12_readsPart 177 = .ok (.invokevirtual 154, 3) := by decide +kernel
theorem D_M_readsPart_180 : decode cX12_readsPart 180 = .ok (.return_, 1) := by decide +kernel
def K_M_readsPart : SC := (cX12_readsPart, "TwoLevelsModel", 2, 8, false, [13, 70, 71, 72, 73, 76, 77], NoQ)
def d_M_readsPart : MD Unit := mth tt 2 (sq (sE (kV 13 d_M_next (lR 0) []))
 (sq (sI1 1 (eh1 (gI 13 8) (lR 0)))
 (sq (sh3 (stI [77]) (eh1 (gR 13 13) (lR 0)) (eC (nI 0)) (eC (nI 0)))
 (sq (loop (cAnd (eh1 z_ne (kV 13 d_M_isRight (lR 0) [])) (eh1 z_ne (kV 13 d_M_isSign (lR 0) [])))
 (sIf (eh2 c_eq (eh2 (aI .int) (eh1 (gR 13 13) (lR 0)) (eC (nI 0))) (eC (nI 6))) (sE (kV 13 d_M_fails (lR 0) [vI (eC (nI 2)), vI (eh1 (gI 13 8) (lR 0))])) (sq (su3 (aI .int) (uA [77] (fun x y => x + y)) (eh1 (gR 13 13) (lR 0)) (eC (nI 0)) (eC (nI 1)))
 (sq (sh3 (stI [77]) (eh1 (gR 13 13) (lR 0)) (eh2 (aI .int) (eh1 (gR 13 13) (lR 0)) (eC (nI 0))) (kV 13 d_M_sign (lR 0) []))
 (su2 (gI 13 8) (uF false 13 8 (fun x y => x + y)) (lR 0) (eC (nI 1))))))
 sk)
 (sq (sIf (cNot (eh1 z_ne (kV 13 d_M_isRight (lR 0) []))) rtnU sk)
 (sq (sIf (cAnd (cAnd (eh2 c_eq (kV 13 d_M_next (lR 0) []) (eC (nI 61))) (eh2 c_eq (eh2 (aI .int) (eh1 (gR 13 13) (lR 0)) (eC (nI 0))) (eC (nI 1)))) (eh1 z_ne (kS d_M_isCapital [vI (eh2 (aI .int) (eh1 (gR 13 13) (lR 0)) (eC (nI 1)))]))) (sE (kV 13 d_M_readsMeta (lR 0) [vI (eh2 (aI .int) (eh1 (gR 13 13) (lR 0)) (eC (nI 1))), vI (lI 1)])) (sIf (cAnd (eh2 c_eq (kV 13 d_M_sign (lR 0) []) (eC (nI 58))) (eh1 z_gt (eh2 (aI .int) (eh1 (gR 13 13) (lR 0)) (eC (nI 0))))) (sE (kV 13 d_M_readsRule (lR 0) [vI (lI 1)])) (sE (kV 13 d_M_fails (lR 0) [vI (eC (nI 1)), vI (eh1 (gI 13 8) (lR 0))]))))
 rtnU))))))
theorem m_M_readsPart : MJ 8 [13, 70, 71, 72, 73, 76, 77] yX12_readsPart none eU (d_M_readsPart) := MJ_of (K := K_M_readsPart) (ri := .return_) (n1 := 0) (n2 := 0) (n3 := 0)
 (SJ_sq (p0 := 0) (p1 := 5) (nN := 0) (nB := 0) (nC := 0) (SJ_pop (ea := eI) (p0 := 0) (p1 := 4) (EJ_callV (t := 13) (c := 12) (r := (RX12, TX12, 52)) (p0 := 0) (p1 := 1) (p2 := 1) (EJ_aload_n (j := 0) (i := 0) (pc := 0) D_M_readsPart_0 rfl) AJ_nil m_M_next E1_I D_M_readsPart_1 rfl rfl rfl q_1053 q_1054 q_37 q_97 ⟨by decide +kernel, by decide +kernel, by decide +kernel⟩ (by decide) (show 2 + 1 ≤ 8 from by decide) (show ∀ x_ ∈ ([13] : List Nat), x_ ∈ ([13, 70, 71, 72, 73, 76, 77] : List Nat) from by decide)) (fun _ => ⟨_, rfl, rfl⟩) D_M_readsPart_4)
 (SJ_sq (p0 := 5) (p1 := 10) (nN := 0) (nB := 0) (nC := 0) (SJ_istore_n (i := 1) (j := 1) (p0 := 5) (p1 := 9) (EJ_getI (t := 13) (c := 12) (kf := 8) (r := (RX12, TX12, 52)) (p0 := 5) (p1 := 6) (EJ_aload_n (j := 0) (i := 0) (pc := 5) D_M_readsPart_5 rfl) D_M_readsPart_6 ⟨rfl, rfl, by decide, q_940⟩ (fun _ _ => rfl)) D_M_readsPart_9 rfl)
 (SJ_sq (p0 := 10) (p1 := 17) (nN := 0) (nB := 0) (nC := 0) (SJ_iast (ws := [77]) (p0 := 10) (p1 := 14) (p2 := 15) (p3 := 16) (EJ_getR (t := 13) (c := 12) (kf := 13) (r := (RX12, TX12, 52)) (p0 := 10) (p1 := 11) (EJ_aload_n (j := 0) (i := 0) (pc := 10) D_M_readsPart_10 rfl) D_M_readsPart_11 ⟨rfl, rfl, by decide, q_945⟩ (fun _ _ => rfl)) (EJ_iconst (n := 0) (v := (nI 0)) (pc := 14) D_M_readsPart_14 (by decide +kernel)) (EJ_iconst (n := 0) (v := (nI 0)) (pc := 15) D_M_readsPart_15 (by decide +kernel)) D_M_readsPart_16 (show ∀ x_ ∈ ([77] : List Nat), x_ ∈ ([13, 70, 71, 72, 73, 76, 77] : List Nat) from by decide))
 (SJ_sq (p0 := 17) (p1 := 92) (nN := 0) (nB := 0) (nC := 0) (SJ_loop (p0 := 17) (pB := 31) (pS := 17) (pE := 92) (CJ_and (p0 := 17) (pM := 24) (pT := 31) (pF := 92) (CZ_ne' (off := 71) (tgt := 92) (p0 := 17) (p1 := 21) (EJ_callV (t := 13) (c := 12) (r := (RX12, TX12, 52)) (p0 := 17) (p1 := 18) (p2 := 18) (EJ_aload_n (j := 0) (i := 0) (pc := 17) D_M_readsPart_17 rfl) AJ_nil m_M_isRight E1_I D_M_readsPart_18 rfl rfl rfl q_1062 q_1063 q_40 q_97 ⟨by decide +kernel, by decide +kernel, by decide +kernel⟩ (by decide) (show 1 + 1 ≤ 8 from by decide) (fun _ h => absurd h List.not_mem_nil)) D_M_readsPart_21 rfl) (CZ_ne' (off := 64) (tgt := 92) (p0 := 24) (p1 := 28) (EJ_callV (t := 13) (c := 12) (r := (RX12, TX12, 52)) (p0 := 24) (p1 := 25) (p2 := 25) (EJ_aload_n (j := 0) (i := 0) (pc := 24) D_M_readsPart_24 rfl) AJ_nil m_M_isSign E1_I D_M_readsPart_25 rfl rfl rfl q_1065 q_1066 q_41 q_97 ⟨by decide +kernel, by decide +kernel, by decide +kernel⟩ (by decide) (show 3 + 1 ≤ 8 from by decide) (show ∀ x_ ∈ ([13] : List Nat), x_ ∈ ([13, 70, 71, 72, 73, 76, 77] : List Nat) from by decide)) D_M_readsPart_28 rfl))
 (SJ_if (p0 := 31) (pT := 42) (pF := 54) (nN := 17) (nB := 92) (nC := 17) (CJ_eq' (off := 15) (tgt := 54) (p0 := 31) (p1 := 37) (p2 := 39) (EJ_iald (p0 := 31) (p1 := 35) (p2 := 36) (EJ_getR (t := 13) (c := 12) (kf := 13) (r := (RX12, TX12, 52)) (p0 := 31) (p1 := 32) (EJ_aload_n (j := 0) (i := 0) (pc := 31) D_M_readsPart_31 rfl) D_M_readsPart_32 ⟨rfl, rfl, by decide, q_945⟩ (fun _ _ => rfl)) (EJ_iconst (n := 0) (v := (nI 0)) (pc := 35) D_M_readsPart_35 (by decide +kernel)) D_M_readsPart_36) (EJ_bipush (n := 6) (v := (nI 6)) (pc := 37) D_M_readsPart_37 (by decide +kernel)) D_M_readsPart_39 rfl) (SJ_post (SJ_void (p0 := 42) (p1 := 51) (EJ_callV (t := 13) (c := 12) (r := (RX12, TX12, 52)) (p0 := 42) (p1 := 43) (p2 := 48) (EJ_aload_n (j := 0) (i := 0) (pc := 42) D_M_readsPart_42 rfl) (AJ_I (p0 := 43) (p1 := 44) (p2 := 48) (EJ_iconst (n := 2) (v := (nI 2)) (pc := 43) D_M_readsPart_43 (by decide +kernel)) (AJ_I (p0 := 44) (p1 := 48) (p2 := 48) (EJ_getI (t := 13) (c := 12) (kf := 8) (r := (RX12, TX12, 52)) (p0 := 44) (p1 := 45) (EJ_aload_n (j := 0) (i := 0) (pc := 44) D_M_readsPart_44 rfl) D_M_readsPart_45 ⟨rfl, rfl, by decide, q_940⟩ (fun _ _ => rfl)) AJ_nil)) m_M_fails E1_U D_M_readsPart_48 rfl rfl rfl q_1077 q_1078 q_42 q_97 ⟨by decide +kernel, by decide +kernel, by decide +kernel⟩ (by decide) (show 2 + 1 ≤ 8 from by decide) (show ∀ x_ ∈ ([13] : List Nat), x_ ∈ ([13, 70, 71, 72, 73, 76, 77] : List Nat) from by decide))) (Lead.goto (K := K_M_readsPart) (pc := 51) (tgt := 17) D_M_readsPart_51 rfl)) (SJ_sq (p0 := 54) (p1 := 64) (nN := 17) (nB := 92) (nC := 17) (SJ_upA (ws := [77]) (f := (fun x y => x + y)) (p0 := 54) (p1 := 58) (p2 := 59) (p4 := 62) (EJ_getR (t := 13) (c := 12) (kf := 13) (r := (RX12, TX12, 52)) (p0 := 54) (p1 := 55) (EJ_aload_n (j := 0) (i := 0) (pc := 54) D_M_readsPart_54 rfl) D_M_readsPart_55 ⟨rfl, rfl, by decide, q_945⟩ (fun _ _ => rfl)) (EJ_iconst (n := 0) (v := (nI 0)) (pc := 58) D_M_readsPart_58 (by decide +kernel)) D_M_readsPart_59 D_M_readsPart_60 (EJ_iconst (n := 1) (v := (nI 1)) (pc := 61) D_M_readsPart_61 (by decide +kernel)) (Op2_iadd D_M_readsPart_62) D_M_readsPart_63 (show ∀ x_ ∈ ([77] : List Nat), x_ ∈ ([13, 70, 71, 72, 73, 76, 77] : List Nat) from by decide))
 (SJ_sq (p0 := 64) (p1 := 79) (nN := 17) (nB := 92) (nC := 17) (SJ_iast (ws := [77]) (p0 := 64) (p1 := 68) (p2 := 74) (p3 := 78) (EJ_getR (t := 13) (c := 12) (kf := 13) (r := (RX12, TX12, 52)) (p0 := 64) (p1 := 65) (EJ_aload_n (j := 0) (i := 0) (pc := 64) D_M_readsPart_64 rfl) D_M_readsPart_65 ⟨rfl, rfl, by decide, q_945⟩ (fun _ _ => rfl)) (EJ_iald (p0 := 68) (p1 := 72) (p2 := 73) (EJ_getR (t := 13) (c := 12) (kf := 13) (r := (RX12, TX12, 52)) (p0 := 68) (p1 := 69) (EJ_aload_n (j := 0) (i := 0) (pc := 68) D_M_readsPart_68 rfl) D_M_readsPart_69 ⟨rfl, rfl, by decide, q_945⟩ (fun _ _ => rfl)) (EJ_iconst (n := 0) (v := (nI 0)) (pc := 72) D_M_readsPart_72 (by decide +kernel)) D_M_readsPart_73) (EJ_callV (t := 13) (c := 12) (r := (RX12, TX12, 52)) (p0 := 74) (p1 := 75) (p2 := 75) (EJ_aload_n (j := 0) (i := 0) (pc := 74) D_M_readsPart_74 rfl) AJ_nil m_M_sign E1_I D_M_readsPart_75 rfl rfl rfl q_1056 q_1057 q_38 q_97 ⟨by decide +kernel, by decide +kernel, by decide +kernel⟩ (by decide) (show 1 + 1 ≤ 8 from by decide) (fun _ h => absurd h List.not_mem_nil)) D_M_readsPart_78 (show ∀ x_ ∈ ([77] : List Nat), x_ ∈ ([13, 70, 71, 72, 73, 76, 77] : List Nat) from by decide))
 (SJ_post (SJ_upF (z := false) (t := 13) (c := 12) (kf := 8) (r := (RX12, TX12, 52)) (f := (fun x y => x + y)) (p0 := 79) (p1 := 80) (p3 := 85) (EJ_aload_n (j := 0) (i := 0) (pc := 79) D_M_readsPart_79 rfl) D_M_readsPart_80 D_M_readsPart_81 (EJ_iconst (n := 1) (v := (nI 1)) (pc := 84) D_M_readsPart_84 (by decide +kernel)) (Op2_iadd D_M_readsPart_85) D_M_readsPart_86 ⟨rfl, rfl, by decide, q_940⟩ ⟨rfl, rfl, by decide, q_940⟩ (Or.inl rfl) (fun _ _ => ⟨rfl, rfl⟩) (fun _ _ => rfl) (show (13 : Nat) ∈ ([13, 70, 71, 72, 73, 76, 77] : List Nat) from by decide)) (Lead.goto (K := K_M_readsPart) (pc := 89) (tgt := 17) D_M_readsPart_89 rfl)))))
 SJ_sk)
 (SJ_sq (p0 := 92) (p1 := 100) (nN := 0) (nB := 0) (nC := 0) (SJ_if (p0 := 92) (pT := 99) (pF := 100) (nN := 100) (nB := 0) (nC := 0) (CJ_not (p0 := 92) (pT := 99) (pF := 100) (CZ_ne (off := 4) (tgt := 100) (p0 := 92) (p1 := 96) (EJ_callV (t := 13) (c := 12) (r := (RX12, TX12, 52)) (p0 := 92) (p1 := 93) (p2 := 93) (EJ_aload_n (j := 0) (i := 0) (pc := 92) D_M_readsPart_92 rfl) AJ_nil m_M_isRight E1_I D_M_readsPart_93 rfl rfl rfl q_1062 q_1063 q_40 q_97 ⟨by decide +kernel, by decide +kernel, by decide +kernel⟩ (by decide) (show 1 + 1 ≤ 8 from by decide) (fun _ h => absurd h List.not_mem_nil)) D_M_readsPart_96 rfl)) (SJ_retU (pc := 99) D_M_readsPart_99) SJ_sk)
 (SJ_sq (p0 := 100) (p1 := 180) (nN := 0) (nB := 0) (nC := 0) (SJ_if (p0 := 100) (pT := 131) (pF := 145) (nN := 180) (nB := 0) (nC := 0) (CJ_and (p0 := 100) (pM := 119) (pT := 131) (pF := 145) (CJ_and (p0 := 100) (pM := 109) (pT := 119) (pF := 145) (CJ_eq' (off := 39) (tgt := 145) (p0 := 100) (p1 := 104) (p2 := 106) (EJ_callV (t := 13) (c := 12) (r := (RX12, TX12, 52)) (p0 := 100) (p1 := 101) (p2 := 101) (EJ_aload_n (j := 0) (i := 0) (pc := 100) D_M_readsPart_100 rfl) AJ_nil m_M_next E1_I D_M_readsPart_101 rfl rfl rfl q_1053 q_1054 q_37 q_97 ⟨by decide +kernel, by decide +kernel, by decide +kernel⟩ (by decide) (show 2 + 1 ≤ 8 from by decide) (show ∀ x_ ∈ ([13] : List Nat), x_ ∈ ([13, 70, 71, 72, 73, 76, 77] : List Nat) from by decide)) (EJ_bipush (n := 61) (v := (nI 61)) (pc := 104) D_M_readsPart_104 (by decide +kernel)) D_M_readsPart_106 rfl) (CJ_eq' (off := 29) (tgt := 145) (p0 := 109) (p1 := 115) (p2 := 116) (EJ_iald (p0 := 109) (p1 := 113) (p2 := 114) (EJ_getR (t := 13) (c := 12) (kf := 13) (r := (RX12, TX12, 52)) (p0 := 109) (p1 := 110) (EJ_aload_n (j := 0) (i := 0) (pc := 109) D_M_readsPart_109 rfl) D_M_readsPart_110 ⟨rfl, rfl, by decide, q_945⟩ (fun _ _ => rfl)) (EJ_iconst (n := 0) (v := (nI 0)) (pc := 113) D_M_readsPart_113 (by decide +kernel)) D_M_readsPart_114) (EJ_iconst (n := 1) (v := (nI 1)) (pc := 115) D_M_readsPart_115 (by decide +kernel)) D_M_readsPart_116 rfl)) (CZ_ne' (off := 17) (tgt := 145) (p0 := 119) (p1 := 128) (EJ_callS (p0 := 119) (p1 := 125) (AJ_I (p0 := 119) (p1 := 125) (p2 := 125) (EJ_iald (p0 := 119) (p1 := 123) (p2 := 124) (EJ_getR (t := 13) (c := 12) (kf := 13) (r := (RX12, TX12, 52)) (p0 := 119) (p1 := 120) (EJ_aload_n (j := 0) (i := 0) (pc := 119) D_M_readsPart_119 rfl) D_M_readsPart_120 ⟨rfl, rfl, by decide, q_945⟩ (fun _ _ => rfl)) (EJ_iconst (n := 1) (v := (nI 1)) (pc := 123) D_M_readsPart_123 (by decide +kernel)) D_M_readsPart_124) AJ_nil) m_M_isCapital E1_I D_M_readsPart_125 q_1074 q_1075 q_97 ⟨by decide +kernel, by decide +kernel, by decide +kernel⟩ (by decide) (show 2 + 1 ≤ 8 from by decide) (fun _ h => absurd h List.not_mem_nil)) D_M_readsPart_128 rfl)) (SJ_post (SJ_void (p0 := 131) (p1 := 142) (EJ_callV (t := 13) (c := 12) (r := (RX12, TX12, 52)) (p0 := 131) (p1 := 132) (p2 := 139) (EJ_aload_n (j := 0) (i := 0) (pc := 131) D_M_readsPart_131 rfl) (AJ_I (p0 := 132) (p1 := 138) (p2 := 139) (EJ_iald (p0 := 132) (p1 := 136) (p2 := 137) (EJ_getR (t := 13) (c := 12) (kf := 13) (r := (RX12, TX12, 52)) (p0 := 132) (p1 := 133) (EJ_aload_n (j := 0) (i := 0) (pc := 132) D_M_readsPart_132 rfl) D_M_readsPart_133 ⟨rfl, rfl, by decide, q_945⟩ (fun _ _ => rfl)) (EJ_iconst (n := 1) (v := (nI 1)) (pc := 136) D_M_readsPart_136 (by decide +kernel)) D_M_readsPart_137) (AJ_I (p0 := 138) (p1 := 139) (p2 := 139) (EJ_iload_n (j := 1) (i := 1) (pc := 138) D_M_readsPart_138 rfl) AJ_nil)) m_M_readsMeta E1_U D_M_readsPart_139 rfl rfl rfl q_1080 q_1081 q_43 q_97 ⟨by decide +kernel, by decide +kernel, by decide +kernel⟩ (by decide) (show 5 + 1 ≤ 8 from by decide) (show ∀ x_ ∈ ([13, 71, 76] : List Nat), x_ ∈ ([13, 70, 71, 72, 73, 76, 77] : List Nat) from by decide))) (Lead.goto (K := K_M_readsPart) (pc := 142) (tgt := 180) D_M_readsPart_142 rfl)) (SJ_if (p0 := 145) (pT := 163) (pF := 171) (nN := 180) (nB := 0) (nC := 0) (CJ_and (p0 := 145) (pM := 154) (pT := 163) (pF := 171) (CJ_eq' (off := 20) (tgt := 171) (p0 := 145) (p1 := 149) (p2 := 151) (EJ_callV (t := 13) (c := 12) (r := (RX12, TX12, 52)) (p0 := 145) (p1 := 146) (p2 := 146) (EJ_aload_n (j := 0) (i := 0) (pc := 145) D_M_readsPart_145 rfl) AJ_nil m_M_sign E1_I D_M_readsPart_146 rfl rfl rfl q_1056 q_1057 q_38 q_97 ⟨by decide +kernel, by decide +kernel, by decide +kernel⟩ (by decide) (show 1 + 1 ≤ 8 from by decide) (fun _ h => absurd h List.not_mem_nil)) (EJ_bipush (n := 58) (v := (nI 58)) (pc := 149) D_M_readsPart_149 (by decide +kernel)) D_M_readsPart_151 rfl) (CZ_gt' (off := 11) (tgt := 171) (p0 := 154) (p1 := 160) (EJ_iald (p0 := 154) (p1 := 158) (p2 := 159) (EJ_getR (t := 13) (c := 12) (kf := 13) (r := (RX12, TX12, 52)) (p0 := 154) (p1 := 155) (EJ_aload_n (j := 0) (i := 0) (pc := 154) D_M_readsPart_154 rfl) D_M_readsPart_155 ⟨rfl, rfl, by decide, q_945⟩ (fun _ _ => rfl)) (EJ_iconst (n := 0) (v := (nI 0)) (pc := 158) D_M_readsPart_158 (by decide +kernel)) D_M_readsPart_159) D_M_readsPart_160 rfl)) (SJ_post (SJ_void (p0 := 163) (p1 := 168) (EJ_callV (t := 13) (c := 12) (r := (RX12, TX12, 52)) (p0 := 163) (p1 := 164) (p2 := 165) (EJ_aload_n (j := 0) (i := 0) (pc := 163) D_M_readsPart_163 rfl) (AJ_I (p0 := 164) (p1 := 165) (p2 := 165) (EJ_iload_n (j := 1) (i := 1) (pc := 164) D_M_readsPart_164 rfl) AJ_nil) m_M_readsRule E1_U D_M_readsPart_165 rfl rfl rfl q_1095 q_1096 q_48 q_97 ⟨by decide +kernel, by decide +kernel, by decide +kernel⟩ (by decide) (show 7 + 1 ≤ 8 from by decide) (show ∀ x_ ∈ ([13, 70, 71, 72, 73, 76] : List Nat), x_ ∈ ([13, 70, 71, 72, 73, 76, 77] : List Nat) from by decide))) (Lead.goto (K := K_M_readsPart) (pc := 168) (tgt := 180) D_M_readsPart_168 rfl)) (SJ_void (p0 := 171) (p1 := 180) (EJ_callV (t := 13) (c := 12) (r := (RX12, TX12, 52)) (p0 := 171) (p1 := 172) (p2 := 177) (EJ_aload_n (j := 0) (i := 0) (pc := 171) D_M_readsPart_171 rfl) (AJ_I (p0 := 172) (p1 := 173) (p2 := 177) (EJ_iconst (n := 1) (v := (nI 1)) (pc := 172) D_M_readsPart_172 (by decide +kernel)) (AJ_I (p0 := 173) (p1 := 177) (p2 := 177) (EJ_getI (t := 13) (c := 12) (kf := 8) (r := (RX12, TX12, 52)) (p0 := 173) (p1 := 174) (EJ_aload_n (j := 0) (i := 0) (pc := 173) D_M_readsPart_173 rfl) D_M_readsPart_174 ⟨rfl, rfl, by decide, q_940⟩ (fun _ _ => rfl)) AJ_nil)) m_M_fails E1_U D_M_readsPart_177 rfl rfl rfl q_1077 q_1078 q_42 q_97 ⟨by decide +kernel, by decide +kernel, by decide +kernel⟩ (by decide) (show 2 + 1 ≤ 8 from by decide) (show ∀ x_ ∈ ([13] : List Nat), x_ ∈ ([13, 70, 71, 72, 73, 76, 77] : List Nat) from by decide)))))
 (SJ_retU (pc := 180) D_M_readsPart_180)))))))
 RTm_void q_1061 (by decide +kernel) rfl (fun h => by cases h) (show 2 ≤ 40 from by decide) (fun _ => trivial)
theorem D_M_tell_0 : decode cX12_tell 0 = .ok (.aload_n 0, 1) := by decide +kernel
theorem D_M_tell_1 : decode cX12_tell 1 = .ok (.iconst (0), 1) := by decide +kernel
theorem D_M_tell_2 : decode cX12_tell 2 = .ok (.putfield 120, 3) := by decide +kernel
theorem D_M_tell_5 : decode cX12_tell 5 = .ok (.aload_n 0, 1) := by decide +kernel
theorem D_M_tell_6 : decode cX12_tell 6 = .ok (.iconst (-1), 1) := by decide +kernel
theorem D_M_tell_7 : decode cX12_tell 7 = .ok (.putfield 127, 3) := by decide +kernel
theorem D_M_tell_10 : decode cX12_tell 10 = .ok (.iconst (0), 1) := by decide +kernel
theorem D_M_tell_11 : decode cX12_tell 11 = .ok (.istore_n 1, 1) := by decide +kernel
theorem D_M_tell_12 : decode cX12_tell 12 = .ok (.iload_n 1, 1) := by decide +kernel
theorem D_M_tell_13 : decode cX12_tell 13 = .ok (.sipush (1584), 3) := by decide +kernel
theorem D_M_tell_16 : decode cX12_tell 16 = .ok (.if_icmp .ge (16), 3) := by decide +kernel
theorem D_M_tell_19 : decode cX12_tell 19 = .ok (.aload_n 0, 1) := by decide +kernel
theorem D_M_tell_20 : decode cX12_tell 20 = .ok (.getfield 13, 3) := by decide +kernel
theorem D_M_tell_23 : decode cX12_tell 23 = .ok (.iload_n 1, 1) := by decide +kernel
theorem D_M_tell_24 : decode cX12_tell 24 = .ok (.iconst (0), 1) := by decide +kernel
theorem D_M_tell_25 : decode cX12_tell 25 = .ok (.iastore, 1) := by decide +kernel
theorem D_M_tell_26 : decode cX12_tell 26 = .ok (.iinc 1 (1), 3) := by decide +kernel
theorem D_M_tell_29 : decode cX12_tell 29 = .ok (.goto (-17), 3) := by decide +kernel
theorem D_M_tell_32 : decode cX12_tell 32 = .ok (.aload_n 0, 1) := by decide +kernel
theorem D_M_tell_33 : decode cX12_tell 33 = .ok (.invokevirtual 134, 3) := by decide +kernel
theorem D_M_tell_36 : decode cX12_tell 36 = .ok (.iconst (-1), 1) := by decide +kernel
theorem D_M_tell_37 : decode cX12_tell 37 = .ok (.if_icmp .eq (7), 3) := by decide +kernel
theorem D_M_tell_40 : decode cX12_tell 40 = .ok (.iconst (1), 1) := by decide +kernel
theorem D_M_tell_41 : decode cX12_tell 41 = .ok (.goto (4), 3) := by decide +kernel
theorem D_M_tell_44 : decode cX12_tell 44 = .ok (.iconst (0), 1) := by decide +kernel
theorem D_M_tell_45 : decode cX12_tell 45 = .ok (.istore_n 1, 1) := by decide +kernel
theorem D_M_tell_46 : decode cX12_tell 46 = .ok (.iload_n 1, 1) := by decide +kernel
theorem D_M_tell_47 : decode cX12_tell 47 = .ok (.ifCond .eq (45), 3) := by decide +kernel
theorem D_M_tell_50 : decode cX12_tell 50 = .ok (.aload_n 0, 1) := by decide +kernel
theorem D_M_tell_51 : decode cX12_tell 51 = .ok (.invokevirtual 192, 3) := by decide +kernel
theorem D_M_tell_54 : decode cX12_tell 54 = .ok (.aload_n 0, 1) := by decide +kernel
theorem D_M_tell_55 : decode cX12_tell 55 = .ok (.invokevirtual 130, 3) := by decide +kernel
theorem D_M_tell_58 : decode cX12_tell 58 = .ok (.ifCond .eq (16), 3) := by decide +kernel
theorem D_M_tell_61 : decode cX12_tell 61 = .ok (.aload_n 0, 1) := by decide +kernel
theorem D_M_tell_62 : decode cX12_tell 62 = .ok (.invokevirtual 134, 3) := by decide +kernel
theorem D_M_tell_65 : decode cX12_tell 65 = .ok (.bipush (59), 2) := by decide +kernel
theorem D_M_tell_67 : decode cX12_tell 67 = .ok (.if_icmp .ne (7), 3) := by decide +kernel
theorem D_M_tell_70 : decode cX12_tell 70 = .ok (.iconst (1), 1) := by decide +kernel
theorem D_M_tell_71 : decode cX12_tell 71 = .ok (.goto (4), 3) := by decide +kernel
theorem D_M_tell_74 : decode cX12_tell 74 = .ok (.iconst (0), 1) := by decide +kernel
theorem D_M_tell_75 : decode cX12_tell 75 = .ok (.istore_n 1, 1) := by decide +kernel
theorem D_M_tell_76 : decode cX12_tell 76 = .ok (.aload_n 0, 1) := by decide +kernel
theorem D_M_tell_77 : decode cX12_tell 77 = .ok (.dup, 1) := by decide +kernel
theorem D_M_tell_78 : decode cX12_tell 78 = .ok (.getfield 120, 3) := by decide +kernel
theorem D_M_tell_81 : decode cX12_tell 81 = .ok (.iload_n 1, 1) := by decide +kernel
theorem D_M_tell_82 : decode cX12_tell 82 = .ok (.invokestatic 172, 3) := by decide +kernel
theorem D_M_tell_85 : decode cX12_tell 85 = .ok (.iadd, 1) := by decide +kernel
theorem D_M_tell_86 : decode cX12_tell 86 = .ok (.putfield 120, 3) := by decide +kernel
theorem D_M_tell_89 : decode cX12_tell 89 = .ok (.goto (-43), 3) := by decide +kernel
theorem D_M_tell_92 : decode cX12_tell 92 = .ok (.aload_n 0, 1) := by decide +kernel
theorem D_M_tell_93 : decode cX12_tell 93 = .ok (.invokevirtual 130, 3) := by decide +kernel
theorem D_M_tell_96 : decode cX12_tell 96 = .ok (.ifCond .eq (20), 3) := by decide +kernel
theorem D_M_tell_99 : decode cX12_tell 99 = .ok (.aload_n 0, 1) := by decide +kernel
theorem D_M_tell_100 : decode cX12_tell 100 = .ok (.invokevirtual 134, 3) := by decide +kernel
theorem D_M_tell_103 : decode cX12_tell 103 = .ok (.iconst (-1), 1) := by decide +kernel
theorem D_M_tell_104 : decode cX12_tell 104 = .ok (.if_icmp .eq (12), 3) := by decide +kernel
theorem D_M_tell_107 : decode cX12_tell 107 = .ok (.aload_n 0, 1) := by decide +kernel
theorem D_M_tell_108 : decode cX12_tell 108 = .ok (.iconst (1), 1) := by decide +kernel
theorem D_M_tell_109 : decode cX12_tell 109 = .ok (.aload_n 0, 1) := by decide +kernel
theorem D_M_tell_110 : decode cX12_tell 110 = .ok (.getfield 120, 3) := by decide +kernel
theorem D_M_tell_113 : decode cX12_tell 113 = .ok (.invokevirtual 154, 3) := by decide +kernel
theorem D_M_tell_116 : decode cX12_tell 116 = .ok (.aload_n 0, 1) := by decide +kernel
theorem D_M_tell_117 : decode cX12_tell 117 = .ok (.invokevirtual 130, 3) := by decide +kernel
theorem D_M_tell_120 : decode cX12_tell 120 = .ok (.ifCond .eq (7), 3) := by decide +kernel
theorem D_M_tell_123 : decode cX12_tell 123 = .ok (.aload_n 0, 1) := by decide +kernel
theorem D_M_tell_124 : decode cX12_tell 124 = .ok (.invokevirtual 195, 3) := by decide +kernel
theorem D_M_tell_127 : decode cX12_tell 127 = .ok (.aload_n 0, 1) := by decide +kernel
theorem D_M_tell_128 : decode cX12_tell 128 = .ok (.iconst (0), 1) := by decide +kernel
theorem D_M_tell_129 : decode cX12_tell 129 = .ok (.putfield 112, 3) := by decide +kernel
theorem D_M_tell_132 : decode cX12_tell 132 = .ok (.aload_n 0, 1) := by decide +kernel
theorem D_M_tell_133 : decode cX12_tell 133 = .ok (.invokevirtual 130, 3) := by decide +kernel
theorem D_M_tell_136 : decode cX12_tell 136 = .ok (.ifCond .ne (11), 3) := by decide +kernel
theorem D_M_tell_139 : decode cX12_tell 139 = .ok (.bipush (-2), 2) := by decide +kernel
theorem D_M_tell_141 : decode cX12_tell 141 = .ok (.aload_n 0, 1) := by decide +kernel
theorem D_M_tell_142 : decode cX12_tell 142 = .ok (.getfield 127, 3) := by decide +kernel
theorem D_M_tell_145 : decode cX12_tell 145 = .ok (.isub, 1) := by decide +kernel
theorem D_M_tell_146 : decode cX12_tell 146 = .ok (.ireturn, 1) := by decide +kernel
theorem D_M_tell_147 : decode cX12_tell 147 = .ok (.aload_n 0, 1) := by decide +kernel
theorem D_M_tell_148 : decode cX12_tell 148 = .ok (.getfield 13, 3) := by decide +kernel
theorem D_M_tell_151 : decode cX12_tell 151 = .ok (.iconst (2), 1) := by decide +kernel
theorem D_M_tell_152 : decode cX12_tell 152 = .ok (.aload_n 0, 1) := by decide +kernel
theorem D_M_tell_153 : decode cX12_tell 153 = .ok (.getfield 9, 3) := by decide +kernel
theorem D_M_tell_156 : decode cX12_tell 156 = .ok (.iconst (2), 1) := by decide +kernel
theorem D_M_tell_157 : decode cX12_tell 157 = .ok (.iaload, 1) := by decide +kernel
theorem D_M_tell_158 : decode cX12_tell 158 = .ok (.iastore, 1) := by decide +kernel
theorem D_M_tell_159 : decode cX12_tell 159 = .ok (.aload_n 0, 1) := by decide +kernel
theorem D_M_tell_160 : decode cX12_tell 160 = .ok (.getfield 13, 3) := by decide +kernel
theorem D_M_tell_163 : decode cX12_tell 163 = .ok (.iconst (3), 1) := by decide +kernel
theorem D_M_tell_164 : decode cX12_tell 164 = .ok (.aload_n 0, 1) := by decide +kernel
theorem D_M_tell_165 : decode cX12_tell 165 = .ok (.getfield 9, 3) := by decide +kernel
theorem D_M_tell_168 : decode cX12_tell 168 = .ok (.iconst (3), 1) := by decide +kernel
theorem D_M_tell_169 : decode cX12_tell 169 = .ok (.iaload, 1) := by decide +kernel
theorem D_M_tell_170 : decode cX12_tell 170 = .ok (.iastore, 1) := by decide +kernel
theorem D_M_tell_171 : decode cX12_tell 171 = .ok (.aload_n 0, 1) := by decide +kernel
theorem D_M_tell_172 : decode cX12_tell 172 = .ok (.getfield 13, 3) := by decide +kernel
theorem D_M_tell_175 : decode cX12_tell 175 = .ok (.iconst (0), 1) := by decide +kernel
theorem D_M_tell_176 : decode cX12_tell 176 = .ok (.aload_n 0, 1) := by decide +kernel
theorem D_M_tell_177 : decode cX12_tell 177 = .ok (.getfield 9, 3) := by decide +kernel
theorem D_M_tell_180 : decode cX12_tell 180 = .ok (.iconst (0), 1) := by decide +kernel
theorem D_M_tell_181 : decode cX12_tell 181 = .ok (.sipush (1584), 3) := by decide +kernel
theorem D_M_tell_184 : decode cX12_tell 184 = .ok (.invokestatic 179, 3) := by decide +kernel
theorem D_M_tell_187 : decode cX12_tell 187 = .ok (.aload_n 0, 1) := by decide +kernel
theorem D_M_tell_188 : decode cX12_tell 188 = .ok (.getfield 9, 3) := by decide +kernel
theorem D_M_tell_191 : decode cX12_tell 191 = .ok (.sipush (1584), 3) := by decide +kernel
theorem D_M_tell_194 : decode cX12_tell 194 = .ok (.iconst (0), 1) := by decide +kernel
theorem D_M_tell_195 : decode cX12_tell 195 = .ok (.iastore, 1) := by decide +kernel
theorem D_M_tell_196 : decode cX12_tell 196 = .ok (.aload_n 0, 1) := by decide +kernel
theorem D_M_tell_197 : decode cX12_tell 197 = .ok (.getfield 9, 3) := by decide +kernel
theorem D_M_tell_200 : decode cX12_tell 200 = .ok (.sipush (1595), 3) := by decide +kernel
theorem D_M_tell_203 : decode cX12_tell 203 = .ok (.iconst (0), 1) := by decide +kernel
theorem D_M_tell_204 : decode cX12_tell 204 = .ok (.iastore, 1) := by decide +kernel
theorem D_M_tell_205 : decode cX12_tell 205 = .ok (.aload_n 0, 1) := by decide +kernel
theorem D_M_tell_206 : decode cX12_tell 206 = .ok (.iconst (0), 1) := by decide +kernel
theorem D_M_tell_207 : decode cX12_tell 207 = .ok (.putfield 198, 3) := by decide +kernel
theorem D_M_tell_210 : decode cX12_tell 210 = .ok (.aload_n 0, 1) := by decide +kernel
theorem D_M_tell_211 : decode cX12_tell 211 = .ok (.invokevirtual 201, 3) := by decide +kernel
theorem D_M_tell_214 : decode cX12_tell 214 = .ok (.aload_n 0, 1) := by decide +kernel
theorem D_M_tell_215 : decode cX12_tell 215 = .ok (.getfield 9, 3) := by decide +kernel
theorem D_M_tell_218 : decode cX12_tell 218 = .ok (.iconst (1), 1) := by decide +kernel
theorem D_M_tell_219 : decode cX12_tell 219 = .ok (.iaload, 1) := by decide +kernel
theorem D_M_tell_220 : decode cX12_tell 220 = .ok (.ireturn, 1) := by decide +kernel
def K_M_tell : SC := (cX12_tell, "TwoLevelsModel", 2, 9, false, [13, 70, 71, 72, 73, 76, 77], NoQ)
def d_M_tell : MD Int32 := mth tt 2 (sq (sh2 (pI false 13 8) (lR 0) (eC (nI 0)))
 (sq (sh2 (pI false 13 9) (lR 0) (eC (-1)))
 (sq (sq (sI1 1 (eC (nI 0)))
 (loop (eh2 c_lt (lI 1) (eC (nI 1584)))
 (sh3 (stI [71]) (eh1 (gR 13 1) (lR 0)) (lI 1) (eC (nI 0)))
 (sInc 1 (nI 1))))
 (sq (sI1 1 (eIf (eh2 c_ne (kV 13 d_M_next (lR 0) []) (eC (-1))) (eC (nI 1)) (eC (nI 0))))
 (sq (loop (eh1 z_ne (lI 1))
 (sq (sE (kV 13 d_M_readsPart (lR 0) []))
 (sq (sI1 1 (eIf (cAnd (eh1 z_ne (kV 13 d_M_isRight (lR 0) [])) (eh2 c_eq (kV 13 d_M_next (lR 0) []) (eC (nI 59)))) (eC (nI 1)) (eC (nI 0))))
 (su2 (gI 13 8) (uF false 13 8 (fun x y => x + y)) (lR 0) (kS d_M_truth [vI (lI 1)]))))
 sk)
 (sq (sIf (cAnd (eh1 z_ne (kV 13 d_M_isRight (lR 0) [])) (eh2 c_ne (kV 13 d_M_next (lR 0) []) (eC (-1)))) (sE (kV 13 d_M_fails (lR 0) [vI (eC (nI 1)), vI (eh1 (gI 13 8) (lR 0))])) sk)
 (sq (sIf (eh1 z_ne (kV 13 d_M_isRight (lR 0) [])) (sE (kV 13 d_M_looksOver (lR 0) [])) sk)
 (sq (sh2 (pI false 13 7) (lR 0) (eC (nI 0)))
 (sq (sIf (cNot (eh1 z_ne (kV 13 d_M_isRight (lR 0) []))) (rtn (eh2 isubF (eC (-2)) (eh1 (gI 13 9) (lR 0)))) sk)
 (sq (sh3 (stI [71]) (eh1 (gR 13 1) (lR 0)) (eC (nI 2)) (eh2 (aI .int) (eh1 (gR 13 0) (lR 0)) (eC (nI 2))))
 (sq (sh3 (stI [71]) (eh1 (gR 13 1) (lR 0)) (eC (nI 3)) (eh2 (aI .int) (eh1 (gR 13 0) (lR 0)) (eC (nI 3))))
 (sq (sE (kS d_M_moves [vR (eh1 (gR 13 1) (lR 0)), vI (eC (nI 0)), vR (eh1 (gR 13 0) (lR 0)), vI (eC (nI 0)), vI (eC (nI 1584))]))
 (sq (sh3 (stI [70]) (eh1 (gR 13 0) (lR 0)) (eC (nI 1584)) (eC (nI 0)))
 (sq (sh3 (stI [70]) (eh1 (gR 13 0) (lR 0)) (eC (nI 1595)) (eC (nI 0)))
 (sq (sh2 (pI false 13 5) (lR 0) (eC (nI 0)))
 (sq (sE (kV 13 d_M_changes (lR 0) []))
 (rtn (eh2 (aI .int) (eh1 (gR 13 0) (lR 0)) (eC (nI 1))))))))))))))))))))
theorem m_M_tell : MJ 9 [13, 70, 71, 72, 73, 76, 77] yX12_tell (some .int) eI (d_M_tell) := MJ_of (K := K_M_tell) (ri := .ireturn) (n1 := 0) (n2 := 0) (n3 := 0)
 (SJ_sq (p0 := 0) (p1 := 5) (nN := 0) (nB := 0) (nC := 0) (SJ_putI (z := false) (t := 13) (c := 12) (kf := 8) (r := (RX12, TX12, 52)) (p0 := 0) (p1 := 1) (p2 := 2) (EJ_aload_n (j := 0) (i := 0) (pc := 0) D_M_tell_0 rfl) (EJ_iconst (n := 0) (v := (nI 0)) (pc := 1) D_M_tell_1 (by decide +kernel)) D_M_tell_2 ⟨rfl, rfl, by decide, q_940⟩ (Or.inl rfl) (fun _ _ => ⟨rfl, rfl⟩) (fun _ _ => rfl) (show (13 : Nat) ∈ ([13, 70, 71, 72, 73, 76, 77] : List Nat) from by decide))
 (SJ_sq (p0 := 5) (p1 := 10) (nN := 0) (nB := 0) (nC := 0) (SJ_putI (z := false) (t := 13) (c := 12) (kf := 9) (r := (RX12, TX12, 52)) (p0 := 5) (p1 := 6) (p2 := 7) (EJ_aload_n (j := 0) (i := 0) (pc := 5) D_M_tell_5 rfl) (EJ_iconst (n := -1) (v := (-1)) (pc := 6) D_M_tell_6 (by decide +kernel)) D_M_tell_7 ⟨rfl, rfl, by decide, q_941⟩ (Or.inl rfl) (fun _ _ => ⟨rfl, rfl⟩) (fun _ _ => rfl) (show (13 : Nat) ∈ ([13, 70, 71, 72, 73, 76, 77] : List Nat) from by decide))
 (SJ_sq (p0 := 10) (p1 := 32) (nN := 0) (nB := 0) (nC := 0) (SJ_sq (p0 := 10) (p1 := 12) (nN := 32) (nB := 0) (nC := 0) (SJ_istore_n (i := 1) (j := 1) (p0 := 10) (p1 := 11) (EJ_iconst (n := 0) (v := (nI 0)) (pc := 10) D_M_tell_10 (by decide +kernel)) D_M_tell_11 rfl)
 (SJ_loop (p0 := 12) (pB := 19) (pS := 26) (pE := 32) (CJ_lt' (off := 16) (tgt := 32) (p0 := 12) (p1 := 13) (p2 := 16) (EJ_iload_n (j := 1) (i := 1) (pc := 12) D_M_tell_12 rfl) (EJ_sipush (n := 1584) (v := (nI 1584)) (pc := 13) D_M_tell_13 (by decide +kernel)) D_M_tell_16 rfl)
 (SJ_iast (ws := [71]) (p0 := 19) (p1 := 23) (p2 := 24) (p3 := 25) (EJ_getR (t := 13) (c := 12) (kf := 1) (r := (RX12, TX12, 52)) (p0 := 19) (p1 := 20) (EJ_aload_n (j := 0) (i := 0) (pc := 19) D_M_tell_19 rfl) D_M_tell_20 ⟨rfl, rfl, by decide, q_933⟩ (fun _ _ => rfl)) (EJ_iload_n (j := 1) (i := 1) (pc := 23) D_M_tell_23 rfl) (EJ_iconst (n := 0) (v := (nI 0)) (pc := 24) D_M_tell_24 (by decide +kernel)) D_M_tell_25 (show ∀ x_ ∈ ([71] : List Nat), x_ ∈ ([13, 70, 71, 72, 73, 76, 77] : List Nat) from by decide))
 (SJ_post (SJ_iinc (i := 1) (n := 1) (v := (nI 1)) (pc := 26) D_M_tell_26 (by decide +kernel)) (Lead.goto (K := K_M_tell) (pc := 29) (tgt := 12) D_M_tell_29 rfl))))
 (SJ_sq (p0 := 32) (p1 := 46) (nN := 0) (nB := 0) (nC := 0) (SJ_istore_n (i := 1) (j := 1) (p0 := 32) (p1 := 45) (EJ_if (p0 := 32) (pT := 40) (pF := 44) (pE := 41) (p1 := 45) (CJ_ne' (off := 7) (tgt := 44) (p0 := 32) (p1 := 36) (p2 := 37) (EJ_callV (t := 13) (c := 12) (r := (RX12, TX12, 52)) (p0 := 32) (p1 := 33) (p2 := 33) (EJ_aload_n (j := 0) (i := 0) (pc := 32) D_M_tell_32 rfl) AJ_nil m_M_next E1_I D_M_tell_33 rfl rfl rfl q_1053 q_1054 q_37 q_97 ⟨by decide +kernel, by decide +kernel, by decide +kernel⟩ (by decide) (show 2 + 1 ≤ 9 from by decide) (show ∀ x_ ∈ ([13] : List Nat), x_ ∈ ([13, 70, 71, 72, 73, 76, 77] : List Nat) from by decide)) (EJ_iconst (n := -1) (v := (-1)) (pc := 36) D_M_tell_36 (by decide +kernel)) D_M_tell_37 rfl) (EJ_iconst (n := 1) (v := (nI 1)) (pc := 40) D_M_tell_40 (by decide +kernel)) (Lead.goto (K := K_M_tell) (pc := 41) (tgt := 45) D_M_tell_41 rfl) (EJ_iconst (n := 0) (v := (nI 0)) (pc := 44) D_M_tell_44 (by decide +kernel))) D_M_tell_45 rfl)
 (SJ_sq (p0 := 46) (p1 := 92) (nN := 0) (nB := 0) (nC := 0) (SJ_loop (p0 := 46) (pB := 50) (pS := 46) (pE := 92) (CZ_ne' (off := 45) (tgt := 92) (p0 := 46) (p1 := 47) (EJ_iload_n (j := 1) (i := 1) (pc := 46) D_M_tell_46 rfl) D_M_tell_47 rfl)
 (SJ_sq (p0 := 50) (p1 := 54) (nN := 46) (nB := 92) (nC := 46) (SJ_void (p0 := 50) (p1 := 54) (EJ_callV (t := 13) (c := 12) (r := (RX12, TX12, 52)) (p0 := 50) (p1 := 51) (p2 := 51) (EJ_aload_n (j := 0) (i := 0) (pc := 50) D_M_tell_50 rfl) AJ_nil m_M_readsPart E1_U D_M_tell_51 rfl rfl rfl q_1059 q_1060 q_39 q_97 ⟨by decide +kernel, by decide +kernel, by decide +kernel⟩ (by decide) (show 8 + 1 ≤ 9 from by decide) (show ∀ x_ ∈ ([13, 70, 71, 72, 73, 76, 77] : List Nat), x_ ∈ ([13, 70, 71, 72, 73, 76, 77] : List Nat) from by decide)))
 (SJ_sq (p0 := 54) (p1 := 76) (nN := 46) (nB := 92) (nC := 46) (SJ_istore_n (i := 1) (j := 1) (p0 := 54) (p1 := 75) (EJ_if (p0 := 54) (pT := 70) (pF := 74) (pE := 71) (p1 := 75) (CJ_and (p0 := 54) (pM := 61) (pT := 70) (pF := 74) (CZ_ne' (off := 16) (tgt := 74) (p0 := 54) (p1 := 58) (EJ_callV (t := 13) (c := 12) (r := (RX12, TX12, 52)) (p0 := 54) (p1 := 55) (p2 := 55) (EJ_aload_n (j := 0) (i := 0) (pc := 54) D_M_tell_54 rfl) AJ_nil m_M_isRight E1_I D_M_tell_55 rfl rfl rfl q_1062 q_1063 q_40 q_97 ⟨by decide +kernel, by decide +kernel, by decide +kernel⟩ (by decide) (show 1 + 1 ≤ 9 from by decide) (fun _ h => absurd h List.not_mem_nil)) D_M_tell_58 rfl) (CJ_eq' (off := 7) (tgt := 74) (p0 := 61) (p1 := 65) (p2 := 67) (EJ_callV (t := 13) (c := 12) (r := (RX12, TX12, 52)) (p0 := 61) (p1 := 62) (p2 := 62) (EJ_aload_n (j := 0) (i := 0) (pc := 61) D_M_tell_61 rfl) AJ_nil m_M_next E1_I D_M_tell_62 rfl rfl rfl q_1053 q_1054 q_37 q_97 ⟨by decide +kernel, by decide +kernel, by decide +kernel⟩ (by decide) (show 2 + 1 ≤ 9 from by decide) (show ∀ x_ ∈ ([13] : List Nat), x_ ∈ ([13, 70, 71, 72, 73, 76, 77] : List Nat) from by decide)) (EJ_bipush (n := 59) (v := (nI 59)) (pc := 65) D_M_tell_65 (by decide +kernel)) D_M_tell_67 rfl)) (EJ_iconst (n := 1) (v := (nI 1)) (pc := 70) D_M_tell_70 (by decide +kernel)) (Lead.goto (K := K_M_tell) (pc := 71) (tgt := 75) D_M_tell_71 rfl) (EJ_iconst (n := 0) (v := (nI 0)) (pc := 74) D_M_tell_74 (by decide +kernel))) D_M_tell_75 rfl)
 (SJ_post (SJ_upF (z := false) (t := 13) (c := 12) (kf := 8) (r := (RX12, TX12, 52)) (f := (fun x y => x + y)) (p0 := 76) (p1 := 77) (p3 := 85) (EJ_aload_n (j := 0) (i := 0) (pc := 76) D_M_tell_76 rfl) D_M_tell_77 D_M_tell_78 (EJ_callS (p0 := 81) (p1 := 82) (AJ_I (p0 := 81) (p1 := 82) (p2 := 82) (EJ_iload_n (j := 1) (i := 1) (pc := 81) D_M_tell_81 rfl) AJ_nil) m_M_truth E1_I D_M_tell_82 q_1107 q_1108 q_97 ⟨by decide +kernel, by decide +kernel, by decide +kernel⟩ (by decide) (show 1 + 1 ≤ 9 from by decide) (fun _ h => absurd h List.not_mem_nil)) (Op2_iadd D_M_tell_85) D_M_tell_86 ⟨rfl, rfl, by decide, q_940⟩ ⟨rfl, rfl, by decide, q_940⟩ (Or.inl rfl) (fun _ _ => ⟨rfl, rfl⟩) (fun _ _ => rfl) (show (13 : Nat) ∈ ([13, 70, 71, 72, 73, 76, 77] : List Nat) from by decide)) (Lead.goto (K := K_M_tell) (pc := 89) (tgt := 46) D_M_tell_89 rfl))))
 SJ_sk)
 (SJ_sq (p0 := 92) (p1 := 116) (nN := 0) (nB := 0) (nC := 0) (SJ_if (p0 := 92) (pT := 107) (pF := 116) (nN := 116) (nB := 0) (nC := 0) (CJ_and (p0 := 92) (pM := 99) (pT := 107) (pF := 116) (CZ_ne' (off := 20) (tgt := 116) (p0 := 92) (p1 := 96) (EJ_callV (t := 13) (c := 12) (r := (RX12, TX12, 52)) (p0 := 92) (p1 := 93) (p2 := 93) (EJ_aload_n (j := 0) (i := 0) (pc := 92) D_M_tell_92 rfl) AJ_nil m_M_isRight E1_I D_M_tell_93 rfl rfl rfl q_1062 q_1063 q_40 q_97 ⟨by decide +kernel, by decide +kernel, by decide +kernel⟩ (by decide) (show 1 + 1 ≤ 9 from by decide) (fun _ h => absurd h List.not_mem_nil)) D_M_tell_96 rfl) (CJ_ne' (off := 12) (tgt := 116) (p0 := 99) (p1 := 103) (p2 := 104) (EJ_callV (t := 13) (c := 12) (r := (RX12, TX12, 52)) (p0 := 99) (p1 := 100) (p2 := 100) (EJ_aload_n (j := 0) (i := 0) (pc := 99) D_M_tell_99 rfl) AJ_nil m_M_next E1_I D_M_tell_100 rfl rfl rfl q_1053 q_1054 q_37 q_97 ⟨by decide +kernel, by decide +kernel, by decide +kernel⟩ (by decide) (show 2 + 1 ≤ 9 from by decide) (show ∀ x_ ∈ ([13] : List Nat), x_ ∈ ([13, 70, 71, 72, 73, 76, 77] : List Nat) from by decide)) (EJ_iconst (n := -1) (v := (-1)) (pc := 103) D_M_tell_103 (by decide +kernel)) D_M_tell_104 rfl)) (SJ_void (p0 := 107) (p1 := 116) (EJ_callV (t := 13) (c := 12) (r := (RX12, TX12, 52)) (p0 := 107) (p1 := 108) (p2 := 113) (EJ_aload_n (j := 0) (i := 0) (pc := 107) D_M_tell_107 rfl) (AJ_I (p0 := 108) (p1 := 109) (p2 := 113) (EJ_iconst (n := 1) (v := (nI 1)) (pc := 108) D_M_tell_108 (by decide +kernel)) (AJ_I (p0 := 109) (p1 := 113) (p2 := 113) (EJ_getI (t := 13) (c := 12) (kf := 8) (r := (RX12, TX12, 52)) (p0 := 109) (p1 := 110) (EJ_aload_n (j := 0) (i := 0) (pc := 109) D_M_tell_109 rfl) D_M_tell_110 ⟨rfl, rfl, by decide, q_940⟩ (fun _ _ => rfl)) AJ_nil)) m_M_fails E1_U D_M_tell_113 rfl rfl rfl q_1077 q_1078 q_42 q_97 ⟨by decide +kernel, by decide +kernel, by decide +kernel⟩ (by decide) (show 2 + 1 ≤ 9 from by decide) (show ∀ x_ ∈ ([13] : List Nat), x_ ∈ ([13, 70, 71, 72, 73, 76, 77] : List Nat) from by decide))) SJ_sk)
 (SJ_sq (p0 := 116) (p1 := 127) (nN := 0) (nB := 0) (nC := 0) (SJ_if (p0 := 116) (pT := 123) (pF := 127) (nN := 127) (nB := 0) (nC := 0) (CZ_ne' (off := 7) (tgt := 127) (p0 := 116) (p1 := 120) (EJ_callV (t := 13) (c := 12) (r := (RX12, TX12, 52)) (p0 := 116) (p1 := 117) (p2 := 117) (EJ_aload_n (j := 0) (i := 0) (pc := 116) D_M_tell_116 rfl) AJ_nil m_M_isRight E1_I D_M_tell_117 rfl rfl rfl q_1062 q_1063 q_40 q_97 ⟨by decide +kernel, by decide +kernel, by decide +kernel⟩ (by decide) (show 1 + 1 ≤ 9 from by decide) (fun _ h => absurd h List.not_mem_nil)) D_M_tell_120 rfl) (SJ_void (p0 := 123) (p1 := 127) (EJ_callV (t := 13) (c := 12) (r := (RX12, TX12, 52)) (p0 := 123) (p1 := 124) (p2 := 124) (EJ_aload_n (j := 0) (i := 0) (pc := 123) D_M_tell_123 rfl) AJ_nil m_M_looksOver E1_U D_M_tell_124 rfl rfl rfl q_1110 q_1111 q_51 q_97 ⟨by decide +kernel, by decide +kernel, by decide +kernel⟩ (by decide) (show 3 + 1 ≤ 9 from by decide) (show ∀ x_ ∈ ([13] : List Nat), x_ ∈ ([13, 70, 71, 72, 73, 76, 77] : List Nat) from by decide))) SJ_sk)
 (SJ_sq (p0 := 127) (p1 := 132) (nN := 0) (nB := 0) (nC := 0) (SJ_putI (z := false) (t := 13) (c := 12) (kf := 7) (r := (RX12, TX12, 52)) (p0 := 127) (p1 := 128) (p2 := 129) (EJ_aload_n (j := 0) (i := 0) (pc := 127) D_M_tell_127 rfl) (EJ_iconst (n := 0) (v := (nI 0)) (pc := 128) D_M_tell_128 (by decide +kernel)) D_M_tell_129 ⟨rfl, rfl, by decide, q_939⟩ (Or.inl rfl) (fun _ _ => ⟨rfl, rfl⟩) (fun _ _ => rfl) (show (13 : Nat) ∈ ([13, 70, 71, 72, 73, 76, 77] : List Nat) from by decide))
 (SJ_sq (p0 := 132) (p1 := 147) (nN := 0) (nB := 0) (nC := 0) (SJ_if (p0 := 132) (pT := 139) (pF := 147) (nN := 147) (nB := 0) (nC := 0) (CJ_not (p0 := 132) (pT := 139) (pF := 147) (CZ_ne (off := 11) (tgt := 147) (p0 := 132) (p1 := 136) (EJ_callV (t := 13) (c := 12) (r := (RX12, TX12, 52)) (p0 := 132) (p1 := 133) (p2 := 133) (EJ_aload_n (j := 0) (i := 0) (pc := 132) D_M_tell_132 rfl) AJ_nil m_M_isRight E1_I D_M_tell_133 rfl rfl rfl q_1062 q_1063 q_40 q_97 ⟨by decide +kernel, by decide +kernel, by decide +kernel⟩ (by decide) (show 1 + 1 ≤ 9 from by decide) (fun _ h => absurd h List.not_mem_nil)) D_M_tell_136 rfl)) (SJ_ret (p0 := 139) (p1 := 146) (EJ_isub (p0 := 139) (p1 := 141) (p2 := 145) (EJ_bipush (n := -2) (v := (-2)) (pc := 139) D_M_tell_139 (by decide +kernel)) (EJ_getI (t := 13) (c := 12) (kf := 9) (r := (RX12, TX12, 52)) (p0 := 141) (p1 := 142) (EJ_aload_n (j := 0) (i := 0) (pc := 141) D_M_tell_141 rfl) D_M_tell_142 ⟨rfl, rfl, by decide, q_941⟩ (fun _ _ => rfl)) D_M_tell_145) D_M_tell_146) SJ_sk)
 (SJ_sq (p0 := 147) (p1 := 159) (nN := 0) (nB := 0) (nC := 0) (SJ_iast (ws := [71]) (p0 := 147) (p1 := 151) (p2 := 152) (p3 := 158) (EJ_getR (t := 13) (c := 12) (kf := 1) (r := (RX12, TX12, 52)) (p0 := 147) (p1 := 148) (EJ_aload_n (j := 0) (i := 0) (pc := 147) D_M_tell_147 rfl) D_M_tell_148 ⟨rfl, rfl, by decide, q_933⟩ (fun _ _ => rfl)) (EJ_iconst (n := 2) (v := (nI 2)) (pc := 151) D_M_tell_151 (by decide +kernel)) (EJ_iald (p0 := 152) (p1 := 156) (p2 := 157) (EJ_getR (t := 13) (c := 12) (kf := 0) (r := (RX12, TX12, 52)) (p0 := 152) (p1 := 153) (EJ_aload_n (j := 0) (i := 0) (pc := 152) D_M_tell_152 rfl) D_M_tell_153 ⟨rfl, rfl, by decide, q_932⟩ (fun _ _ => rfl)) (EJ_iconst (n := 2) (v := (nI 2)) (pc := 156) D_M_tell_156 (by decide +kernel)) D_M_tell_157) D_M_tell_158 (show ∀ x_ ∈ ([71] : List Nat), x_ ∈ ([13, 70, 71, 72, 73, 76, 77] : List Nat) from by decide))
 (SJ_sq (p0 := 159) (p1 := 171) (nN := 0) (nB := 0) (nC := 0) (SJ_iast (ws := [71]) (p0 := 159) (p1 := 163) (p2 := 164) (p3 := 170) (EJ_getR (t := 13) (c := 12) (kf := 1) (r := (RX12, TX12, 52)) (p0 := 159) (p1 := 160) (EJ_aload_n (j := 0) (i := 0) (pc := 159) D_M_tell_159 rfl) D_M_tell_160 ⟨rfl, rfl, by decide, q_933⟩ (fun _ _ => rfl)) (EJ_iconst (n := 3) (v := (nI 3)) (pc := 163) D_M_tell_163 (by decide +kernel)) (EJ_iald (p0 := 164) (p1 := 168) (p2 := 169) (EJ_getR (t := 13) (c := 12) (kf := 0) (r := (RX12, TX12, 52)) (p0 := 164) (p1 := 165) (EJ_aload_n (j := 0) (i := 0) (pc := 164) D_M_tell_164 rfl) D_M_tell_165 ⟨rfl, rfl, by decide, q_932⟩ (fun _ _ => rfl)) (EJ_iconst (n := 3) (v := (nI 3)) (pc := 168) D_M_tell_168 (by decide +kernel)) D_M_tell_169) D_M_tell_170 (show ∀ x_ ∈ ([71] : List Nat), x_ ∈ ([13, 70, 71, 72, 73, 76, 77] : List Nat) from by decide))
 (SJ_sq (p0 := 171) (p1 := 187) (nN := 0) (nB := 0) (nC := 0) (SJ_void (p0 := 171) (p1 := 187) (EJ_callS (p0 := 171) (p1 := 184) (AJ_R (p0 := 171) (p1 := 175) (p2 := 184) (EJ_getR (t := 13) (c := 12) (kf := 1) (r := (RX12, TX12, 52)) (p0 := 171) (p1 := 172) (EJ_aload_n (j := 0) (i := 0) (pc := 171) D_M_tell_171 rfl) D_M_tell_172 ⟨rfl, rfl, by decide, q_933⟩ (fun _ _ => rfl)) (AJ_I (p0 := 175) (p1 := 176) (p2 := 184) (EJ_iconst (n := 0) (v := (nI 0)) (pc := 175) D_M_tell_175 (by decide +kernel)) (AJ_R (p0 := 176) (p1 := 180) (p2 := 184) (EJ_getR (t := 13) (c := 12) (kf := 0) (r := (RX12, TX12, 52)) (p0 := 176) (p1 := 177) (EJ_aload_n (j := 0) (i := 0) (pc := 176) D_M_tell_176 rfl) D_M_tell_177 ⟨rfl, rfl, by decide, q_932⟩ (fun _ _ => rfl)) (AJ_I (p0 := 180) (p1 := 181) (p2 := 184) (EJ_iconst (n := 0) (v := (nI 0)) (pc := 180) D_M_tell_180 (by decide +kernel)) (AJ_I (p0 := 181) (p1 := 184) (p2 := 184) (EJ_sipush (n := 1584) (v := (nI 1584)) (pc := 181) D_M_tell_181 (by decide +kernel)) AJ_nil))))) m_M_moves E1_U D_M_tell_184 q_1098 q_1099 q_97 ⟨by decide +kernel, by decide +kernel, by decide +kernel⟩ (by decide) (show 1 + 1 ≤ 9 from by decide) (show ∀ x_ ∈ ([70, 71, 72, 73] : List Nat), x_ ∈ ([13, 70, 71, 72, 73, 76, 77] : List Nat) from by decide)))
 (SJ_sq (p0 := 187) (p1 := 196) (nN := 0) (nB := 0) (nC := 0) (SJ_iast (ws := [70]) (p0 := 187) (p1 := 191) (p2 := 194) (p3 := 195) (EJ_getR (t := 13) (c := 12) (kf := 0) (r := (RX12, TX12, 52)) (p0 := 187) (p1 := 188) (EJ_aload_n (j := 0) (i := 0) (pc := 187) D_M_tell_187 rfl) D_M_tell_188 ⟨rfl, rfl, by decide, q_932⟩ (fun _ _ => rfl)) (EJ_sipush (n := 1584) (v := (nI 1584)) (pc := 191) D_M_tell_191 (by decide +kernel)) (EJ_iconst (n := 0) (v := (nI 0)) (pc := 194) D_M_tell_194 (by decide +kernel)) D_M_tell_195 (show ∀ x_ ∈ ([70] : List Nat), x_ ∈ ([13, 70, 71, 72, 73, 76, 77] : List Nat) from by decide))
 (SJ_sq (p0 := 196) (p1 := 205) (nN := 0) (nB := 0) (nC := 0) (SJ_iast (ws := [70]) (p0 := 196) (p1 := 200) (p2 := 203) (p3 := 204) (EJ_getR (t := 13) (c := 12) (kf := 0) (r := (RX12, TX12, 52)) (p0 := 196) (p1 := 197) (EJ_aload_n (j := 0) (i := 0) (pc := 196) D_M_tell_196 rfl) D_M_tell_197 ⟨rfl, rfl, by decide, q_932⟩ (fun _ _ => rfl)) (EJ_sipush (n := 1595) (v := (nI 1595)) (pc := 200) D_M_tell_200 (by decide +kernel)) (EJ_iconst (n := 0) (v := (nI 0)) (pc := 203) D_M_tell_203 (by decide +kernel)) D_M_tell_204 (show ∀ x_ ∈ ([70] : List Nat), x_ ∈ ([13, 70, 71, 72, 73, 76, 77] : List Nat) from by decide))
 (SJ_sq (p0 := 205) (p1 := 210) (nN := 0) (nB := 0) (nC := 0) (SJ_putI (z := false) (t := 13) (c := 12) (kf := 5) (r := (RX12, TX12, 52)) (p0 := 205) (p1 := 206) (p2 := 207) (EJ_aload_n (j := 0) (i := 0) (pc := 205) D_M_tell_205 rfl) (EJ_iconst (n := 0) (v := (nI 0)) (pc := 206) D_M_tell_206 (by decide +kernel)) D_M_tell_207 ⟨rfl, rfl, by decide, q_937⟩ (Or.inl rfl) (fun _ _ => ⟨rfl, rfl⟩) (fun _ _ => rfl) (show (13 : Nat) ∈ ([13, 70, 71, 72, 73, 76, 77] : List Nat) from by decide))
 (SJ_sq (p0 := 210) (p1 := 214) (nN := 0) (nB := 0) (nC := 0) (SJ_void (p0 := 210) (p1 := 214) (EJ_callV (t := 13) (c := 12) (r := (RX12, TX12, 52)) (p0 := 210) (p1 := 211) (p2 := 211) (EJ_aload_n (j := 0) (i := 0) (pc := 210) D_M_tell_210 rfl) AJ_nil m_M_changes E1_U D_M_tell_211 rfl rfl rfl q_1113 q_1114 q_52 q_97 ⟨by decide +kernel, by decide +kernel, by decide +kernel⟩ (by decide) (show 1 + 1 ≤ 9 from by decide) (show ∀ x_ ∈ ([13] : List Nat), x_ ∈ ([13, 70, 71, 72, 73, 76, 77] : List Nat) from by decide)))
 (SJ_ret (p0 := 214) (p1 := 220) (EJ_iald (p0 := 214) (p1 := 218) (p2 := 219) (EJ_getR (t := 13) (c := 12) (kf := 0) (r := (RX12, TX12, 52)) (p0 := 214) (p1 := 215) (EJ_aload_n (j := 0) (i := 0) (pc := 214) D_M_tell_214 rfl) D_M_tell_215 ⟨rfl, rfl, by decide, q_932⟩ (fun _ _ => rfl)) (EJ_iconst (n := 1) (v := (nI 1)) (pc := 218) D_M_tell_218 (by decide +kernel)) D_M_tell_219) D_M_tell_220)))))))))))))))))
 RTm_int q_1052 (by decide +kernel) rfl (fun h => by cases h) (show 2 ≤ 40 from by decide) (fun _ => trivial)
theorem D_M_lays_0 : decode cX12_lays 0 = .ok (.aload_n 0, 1) := by decide +kernel
theorem D_M_lays_1 : decode cX12_lays 1 = .ok (.getfield 36, 3) := by decide +kernel
theorem D_M_lays_4 : decode cX12_lays 4 = .ok (.iload_n 1, 1) := by decide +kernel
theorem D_M_lays_5 : decode cX12_lays 5 = .ok (.iaload, 1) := by decide +kernel
theorem D_M_lays_6 : decode cX12_lays 6 = .ok (.bipush (10), 2) := by decide +kernel
theorem D_M_lays_8 : decode cX12_lays 8 = .ok (.if_icmp .ne (10), 3) := by decide +kernel
theorem D_M_lays_11 : decode cX12_lays 11 = .ok (.aload_n 0, 1) := by decide +kernel
theorem D_M_lays_12 : decode cX12_lays 12 = .ok (.iconst (2), 1) := by decide +kernel
theorem D_M_lays_13 : decode cX12_lays 13 = .ok (.iload_n 2, 1) := by decide +kernel
theorem D_M_lays_14 : decode cX12_lays 14 = .ok (.invokevirtual 154, 3) := by decide +kernel
theorem D_M_lays_17 : decode cX12_lays 17 = .ok (.return_, 1) := by decide +kernel
theorem D_M_lays_18 : decode cX12_lays 18 = .ok (.aload_n 0, 1) := by decide +kernel
theorem D_M_lays_19 : decode cX12_lays 19 = .ok (.getfield 36, 3) := by decide +kernel
theorem D_M_lays_22 : decode cX12_lays 22 = .ok (.iload_n 1, 1) := by decide +kernel
theorem D_M_lays_23 : decode cX12_lays 23 = .ok (.dup2, 1) := by decide +kernel
theorem D_M_lays_24 : decode cX12_lays 24 = .ok (.iaload, 1) := by decide +kernel
theorem D_M_lays_25 : decode cX12_lays 25 = .ok (.iconst (1), 1) := by decide +kernel
theorem D_M_lays_26 : decode cX12_lays 26 = .ok (.iadd, 1) := by decide +kernel
theorem D_M_lays_27 : decode cX12_lays 27 = .ok (.iastore, 1) := by decide +kernel
theorem D_M_lays_28 : decode cX12_lays 28 = .ok (.aload_n 0, 1) := by decide +kernel
theorem D_M_lays_29 : decode cX12_lays 29 = .ok (.getfield 36, 3) := by decide +kernel
theorem D_M_lays_32 : decode cX12_lays 32 = .ok (.iload_n 1, 1) := by decide +kernel
theorem D_M_lays_33 : decode cX12_lays 33 = .ok (.aload_n 0, 1) := by decide +kernel
theorem D_M_lays_34 : decode cX12_lays 34 = .ok (.getfield 36, 3) := by decide +kernel
theorem D_M_lays_37 : decode cX12_lays 37 = .ok (.iload_n 1, 1) := by decide +kernel
theorem D_M_lays_38 : decode cX12_lays 38 = .ok (.iaload, 1) := by decide +kernel
theorem D_M_lays_39 : decode cX12_lays 39 = .ok (.iadd, 1) := by decide +kernel
theorem D_M_lays_40 : decode cX12_lays 40 = .ok (.aload_n 0, 1) := by decide +kernel
theorem D_M_lays_41 : decode cX12_lays 41 = .ok (.getfield 26, 3) := by decide +kernel
theorem D_M_lays_44 : decode cX12_lays 44 = .ok (.iload_n 2, 1) := by decide +kernel
theorem D_M_lays_45 : decode cX12_lays 45 = .ok (.baload, 1) := by decide +kernel
theorem D_M_lays_46 : decode cX12_lays 46 = .ok (.iastore, 1) := by decide +kernel
theorem D_M_lays_47 : decode cX12_lays 47 = .ok (.return_, 1) := by decide +kernel
def K_M_lays : SC := (cX12_lays, "TwoLevelsModel", 3, 3, false, [13, 78], NoQ)
def d_M_lays : MD Unit := mth tt 3 (sq (sIf (eh2 c_eq (eh2 (aI .int) (eh1 (gR 13 14) (lR 0)) (lI 1)) (eC (nI 10))) (sq (sE (kV 13 d_M_fails (lR 0) [vI (eC (nI 2)), vI (lI 2)]))
 rtnU) sk)
 (sq (su3 (aI .int) (uA [78] (fun x y => x + y)) (eh1 (gR 13 14) (lR 0)) (lI 1) (eC (nI 1)))
 (sq (sh3 (stI [78]) (eh1 (gR 13 14) (lR 0)) (eh2 iaddF (lI 1) (eh2 (aI .int) (eh1 (gR 13 14) (lR 0)) (lI 1))) (eh2 (aI .byte) (eh1 (gR 13 6) (lR 0)) (lI 2)))
 rtnU)))
theorem m_M_lays : MJ 3 [13, 78] yX12_lays none eU (d_M_lays) := MJ_of (K := K_M_lays) (ri := .return_) (n1 := 0) (n2 := 0) (n3 := 0)
 (SJ_sq (p0 := 0) (p1 := 18) (nN := 0) (nB := 0) (nC := 0) (SJ_if (p0 := 0) (pT := 11) (pF := 18) (nN := 18) (nB := 0) (nC := 0) (CJ_eq' (off := 10) (tgt := 18) (p0 := 0) (p1 := 6) (p2 := 8) (EJ_iald (p0 := 0) (p1 := 4) (p2 := 5) (EJ_getR (t := 13) (c := 12) (kf := 14) (r := (RX12, TX12, 52)) (p0 := 0) (p1 := 1) (EJ_aload_n (j := 0) (i := 0) (pc := 0) D_M_lays_0 rfl) D_M_lays_1 ⟨rfl, rfl, by decide, q_946⟩ (fun _ _ => rfl)) (EJ_iload_n (j := 1) (i := 1) (pc := 4) D_M_lays_4 rfl) D_M_lays_5) (EJ_bipush (n := 10) (v := (nI 10)) (pc := 6) D_M_lays_6 (by decide +kernel)) D_M_lays_8 rfl) (SJ_sq (p0 := 11) (p1 := 17) (nN := 18) (nB := 0) (nC := 0) (SJ_void (p0 := 11) (p1 := 17) (EJ_callV (t := 13) (c := 12) (r := (RX12, TX12, 52)) (p0 := 11) (p1 := 12) (p2 := 14) (EJ_aload_n (j := 0) (i := 0) (pc := 11) D_M_lays_11 rfl) (AJ_I (p0 := 12) (p1 := 13) (p2 := 14) (EJ_iconst (n := 2) (v := (nI 2)) (pc := 12) D_M_lays_12 (by decide +kernel)) (AJ_I (p0 := 13) (p1 := 14) (p2 := 14) (EJ_iload_n (j := 2) (i := 2) (pc := 13) D_M_lays_13 rfl) AJ_nil)) m_M_fails E1_U D_M_lays_14 rfl rfl rfl q_1077 q_1078 q_42 q_97 ⟨by decide +kernel, by decide +kernel, by decide +kernel⟩ (by decide) (show 2 + 1 ≤ 3 from by decide) (show ∀ x_ ∈ ([13] : List Nat), x_ ∈ ([13, 78] : List Nat) from by decide)))
 (SJ_retU (pc := 17) D_M_lays_17)) SJ_sk)
 (SJ_sq (p0 := 18) (p1 := 28) (nN := 0) (nB := 0) (nC := 0) (SJ_upA (ws := [78]) (f := (fun x y => x + y)) (p0 := 18) (p1 := 22) (p2 := 23) (p4 := 26) (EJ_getR (t := 13) (c := 12) (kf := 14) (r := (RX12, TX12, 52)) (p0 := 18) (p1 := 19) (EJ_aload_n (j := 0) (i := 0) (pc := 18) D_M_lays_18 rfl) D_M_lays_19 ⟨rfl, rfl, by decide, q_946⟩ (fun _ _ => rfl)) (EJ_iload_n (j := 1) (i := 1) (pc := 22) D_M_lays_22 rfl) D_M_lays_23 D_M_lays_24 (EJ_iconst (n := 1) (v := (nI 1)) (pc := 25) D_M_lays_25 (by decide +kernel)) (Op2_iadd D_M_lays_26) D_M_lays_27 (show ∀ x_ ∈ ([78] : List Nat), x_ ∈ ([13, 78] : List Nat) from by decide))
 (SJ_sq (p0 := 28) (p1 := 47) (nN := 0) (nB := 0) (nC := 0) (SJ_iast (ws := [78]) (p0 := 28) (p1 := 32) (p2 := 40) (p3 := 46) (EJ_getR (t := 13) (c := 12) (kf := 14) (r := (RX12, TX12, 52)) (p0 := 28) (p1 := 29) (EJ_aload_n (j := 0) (i := 0) (pc := 28) D_M_lays_28 rfl) D_M_lays_29 ⟨rfl, rfl, by decide, q_946⟩ (fun _ _ => rfl)) (EJ_iadd (p0 := 32) (p1 := 33) (p2 := 39) (EJ_iload_n (j := 1) (i := 1) (pc := 32) D_M_lays_32 rfl) (EJ_iald (p0 := 33) (p1 := 37) (p2 := 38) (EJ_getR (t := 13) (c := 12) (kf := 14) (r := (RX12, TX12, 52)) (p0 := 33) (p1 := 34) (EJ_aload_n (j := 0) (i := 0) (pc := 33) D_M_lays_33 rfl) D_M_lays_34 ⟨rfl, rfl, by decide, q_946⟩ (fun _ _ => rfl)) (EJ_iload_n (j := 1) (i := 1) (pc := 37) D_M_lays_37 rfl) D_M_lays_38) D_M_lays_39) (EJ_bald (p0 := 40) (p1 := 44) (p2 := 45) (EJ_getR (t := 13) (c := 12) (kf := 6) (r := (RX12, TX12, 52)) (p0 := 40) (p1 := 41) (EJ_aload_n (j := 0) (i := 0) (pc := 40) D_M_lays_40 rfl) D_M_lays_41 ⟨rfl, rfl, by decide, q_938⟩ (fun _ _ => rfl)) (EJ_iload_n (j := 2) (i := 2) (pc := 44) D_M_lays_44 rfl) D_M_lays_45) D_M_lays_46 (show ∀ x_ ∈ ([78] : List Nat), x_ ∈ ([13, 78] : List Nat) from by decide))
 (SJ_retU (pc := 47) D_M_lays_47))))
 RTm_void q_1126 (by decide +kernel) rfl (fun h => by cases h) (show 3 ≤ 40 from by decide) (fun _ => trivial)
theorem D_M_text_0 : decode cX12_text 0 = .ok (.aload_n 0, 1) := by decide +kernel
theorem D_M_text_1 : decode cX12_text 1 = .ok (.iconst (-1), 1) := by decide +kernel
theorem D_M_text_2 : decode cX12_text 2 = .ok (.putfield 127, 3) := by decide +kernel
theorem D_M_text_5 : decode cX12_text 5 = .ok (.iconst (0), 1) := by decide +kernel
theorem D_M_text_6 : decode cX12_text 6 = .ok (.istore_n 1, 1) := by decide +kernel
theorem D_M_text_7 : decode cX12_text 7 = .ok (.iconst (0), 1) := by decide +kernel
theorem D_M_text_8 : decode cX12_text 8 = .ok (.istore_n 2, 1) := by decide +kernel
theorem D_M_text_9 : decode cX12_text 9 = .ok (.iconst (0), 1) := by decide +kernel
theorem D_M_text_10 : decode cX12_text 10 = .ok (.istore_n 3, 1) := by decide +kernel
theorem D_M_text_11 : decode cX12_text 11 = .ok (.iload_n 3, 1) := by decide +kernel
theorem D_M_text_12 : decode cX12_text 12 = .ok (.aload_n 0, 1) := by decide +kernel
theorem D_M_text_13 : decode cX12_text 13 = .ok (.getfield 112, 3) := by decide +kernel
theorem D_M_text_16 : decode cX12_text 16 = .ok (.if_icmp .ge (102), 3) := by decide +kernel
theorem D_M_text_19 : decode cX12_text 19 = .ok (.aload_n 0, 1) := by decide +kernel
theorem D_M_text_20 : decode cX12_text 20 = .ok (.invokevirtual 130, 3) := by decide +kernel
theorem D_M_text_23 : decode cX12_text 23 = .ok (.ifCond .eq (95), 3) := by decide +kernel
theorem D_M_text_26 : decode cX12_text 26 = .ok (.aload_n 0, 1) := by decide +kernel
theorem D_M_text_27 : decode cX12_text 27 = .ok (.getfield 26, 3) := by decide +kernel
theorem D_M_text_30 : decode cX12_text 30 = .ok (.iload_n 3, 1) := by decide +kernel
theorem D_M_text_31 : decode cX12_text 31 = .ok (.baload, 1) := by decide +kernel
theorem D_M_text_32 : decode cX12_text 32 = .ok (.bipush (32), 2) := by decide +kernel
theorem D_M_text_34 : decode cX12_text 34 = .ok (.if_icmp .ne (8), 3) := by decide +kernel
theorem D_M_text_37 : decode cX12_text 37 = .ok (.iconst (0), 1) := by decide +kernel
theorem D_M_text_38 : decode cX12_text 38 = .ok (.istore_n 2, 1) := by decide +kernel
theorem D_M_text_39 : decode cX12_text 39 = .ok (.goto (73), 3) := by decide +kernel
theorem D_M_text_42 : decode cX12_text 42 = .ok (.aload_n 0, 1) := by decide +kernel
theorem D_M_text_43 : decode cX12_text 43 = .ok (.getfield 26, 3) := by decide +kernel
theorem D_M_text_46 : decode cX12_text 46 = .ok (.iload_n 3, 1) := by decide +kernel
theorem D_M_text_47 : decode cX12_text 47 = .ok (.baload, 1) := by decide +kernel
theorem D_M_text_48 : decode cX12_text 48 = .ok (.invokestatic 137, 3) := by decide +kernel
theorem D_M_text_51 : decode cX12_text 51 = .ok (.ifCond .ne (12), 3) := by decide +kernel
theorem D_M_text_54 : decode cX12_text 54 = .ok (.aload_n 0, 1) := by decide +kernel
theorem D_M_text_55 : decode cX12_text 55 = .ok (.iconst (1), 1) := by decide +kernel
theorem D_M_text_56 : decode cX12_text 56 = .ok (.iload_n 3, 1) := by decide +kernel
theorem D_M_text_57 : decode cX12_text 57 = .ok (.invokevirtual 154, 3) := by decide +kernel
theorem D_M_text_60 : decode cX12_text 60 = .ok (.goto (52), 3) := by decide +kernel
theorem D_M_text_63 : decode cX12_text 63 = .ok (.iload_n 2, 1) := by decide +kernel
theorem D_M_text_64 : decode cX12_text 64 = .ok (.ifCond .ne (18), 3) := by decide +kernel
theorem D_M_text_67 : decode cX12_text 67 = .ok (.iload_n 1, 1) := by decide +kernel
theorem D_M_text_68 : decode cX12_text 68 = .ok (.bipush (8), 2) := by decide +kernel
theorem D_M_text_70 : decode cX12_text 70 = .ok (.if_icmp .ne (12), 3) := by decide +kernel
theorem D_M_text_73 : decode cX12_text 73 = .ok (.aload_n 0, 1) := by decide +kernel
theorem D_M_text_74 : decode cX12_text 74 = .ok (.iconst (3), 1) := by decide +kernel
theorem D_M_text_75 : decode cX12_text 75 = .ok (.iload_n 3, 1) := by decide +kernel
theorem D_M_text_76 : decode cX12_text 76 = .ok (.invokevirtual 154, 3) := by decide +kernel
theorem D_M_text_79 : decode cX12_text 79 = .ok (.goto (33), 3) := by decide +kernel
theorem D_M_text_82 : decode cX12_text 82 = .ok (.iload_n 2, 1) := by decide +kernel
theorem D_M_text_83 : decode cX12_text 83 = .ok (.ifCond .ne (16), 3) := by decide +kernel
theorem D_M_text_86 : decode cX12_text 86 = .ok (.aload_n 0, 1) := by decide +kernel
theorem D_M_text_87 : decode cX12_text 87 = .ok (.getfield 36, 3) := by decide +kernel
theorem D_M_text_90 : decode cX12_text 90 = .ok (.bipush (11), 2) := by decide +kernel
theorem D_M_text_92 : decode cX12_text 92 = .ok (.iload_n 1, 1) := by decide +kernel
theorem D_M_text_93 : decode cX12_text 93 = .ok (.imul, 1) := by decide +kernel
theorem D_M_text_94 : decode cX12_text 94 = .ok (.iconst (0), 1) := by decide +kernel
theorem D_M_text_95 : decode cX12_text 95 = .ok (.iastore, 1) := by decide +kernel
theorem D_M_text_96 : decode cX12_text 96 = .ok (.iinc 1 (1), 3) := by decide +kernel
theorem D_M_text_99 : decode cX12_text 99 = .ok (.iconst (1), 1) := by decide +kernel
theorem D_M_text_100 : decode cX12_text 100 = .ok (.istore_n 2, 1) := by decide +kernel
theorem D_M_text_101 : decode cX12_text 101 = .ok (.aload_n 0, 1) := by decide +kernel
theorem D_M_text_102 : decode cX12_text 102 = .ok (.bipush (11), 2) := by decide +kernel
theorem D_M_text_104 : decode cX12_text 104 = .ok (.iload_n 1, 1) := by decide +kernel
theorem D_M_text_105 : decode cX12_text 105 = .ok (.iconst (1), 1) := by decide +kernel
theorem D_M_text_106 : decode cX12_text 106 = .ok (.isub, 1) := by decide +kernel
theorem D_M_text_107 : decode cX12_text 107 = .ok (.imul, 1) := by decide +kernel
theorem D_M_text_108 : decode cX12_text 108 = .ok (.iload_n 3, 1) := by decide +kernel
theorem D_M_text_109 : decode cX12_text 109 = .ok (.invokevirtual 204, 3) := by decide +kernel
theorem D_M_text_112 : decode cX12_text 112 = .ok (.iinc 3 (1), 3) := by decide +kernel
theorem D_M_text_115 : decode cX12_text 115 = .ok (.goto (-104), 3) := by decide +kernel
theorem D_M_text_118 : decode cX12_text 118 = .ok (.aload_n 0, 1) := by decide +kernel
theorem D_M_text_119 : decode cX12_text 119 = .ok (.iconst (0), 1) := by decide +kernel
theorem D_M_text_120 : decode cX12_text 120 = .ok (.putfield 112, 3) := by decide +kernel
theorem D_M_text_123 : decode cX12_text 123 = .ok (.aload_n 0, 1) := by decide +kernel
theorem D_M_text_124 : decode cX12_text 124 = .ok (.invokevirtual 130, 3) := by decide +kernel
theorem D_M_text_127 : decode cX12_text 127 = .ok (.ifCond .ne (11), 3) := by decide +kernel
theorem D_M_text_130 : decode cX12_text 130 = .ok (.bipush (-2), 2) := by decide +kernel
theorem D_M_text_132 : decode cX12_text 132 = .ok (.aload_n 0, 1) := by decide +kernel
theorem D_M_text_133 : decode cX12_text 133 = .ok (.getfield 127, 3) := by decide +kernel
theorem D_M_text_136 : decode cX12_text 136 = .ok (.isub, 1) := by decide +kernel
theorem D_M_text_137 : decode cX12_text 137 = .ok (.ireturn, 1) := by decide +kernel
theorem D_M_text_138 : decode cX12_text 138 = .ok (.aload_n 0, 1) := by decide +kernel
theorem D_M_text_139 : decode cX12_text 139 = .ok (.getfield 9, 3) := by decide +kernel
theorem D_M_text_142 : decode cX12_text 142 = .ok (.sipush (1595), 3) := by decide +kernel
theorem D_M_text_145 : decode cX12_text 145 = .ok (.iload_n 1, 1) := by decide +kernel
theorem D_M_text_146 : decode cX12_text 146 = .ok (.iastore, 1) := by decide +kernel
theorem D_M_text_147 : decode cX12_text 147 = .ok (.aload_n 0, 1) := by decide +kernel
theorem D_M_text_148 : decode cX12_text 148 = .ok (.getfield 36, 3) := by decide +kernel
theorem D_M_text_151 : decode cX12_text 151 = .ok (.iconst (0), 1) := by decide +kernel
theorem D_M_text_152 : decode cX12_text 152 = .ok (.aload_n 0, 1) := by decide +kernel
theorem D_M_text_153 : decode cX12_text 153 = .ok (.getfield 9, 3) := by decide +kernel
theorem D_M_text_156 : decode cX12_text 156 = .ok (.sipush (1596), 3) := by decide +kernel
theorem D_M_text_159 : decode cX12_text 159 = .ok (.bipush (11), 2) := by decide +kernel
theorem D_M_text_161 : decode cX12_text 161 = .ok (.iload_n 1, 1) := by decide +kernel
theorem D_M_text_162 : decode cX12_text 162 = .ok (.imul, 1) := by decide +kernel
theorem D_M_text_163 : decode cX12_text 163 = .ok (.invokestatic 179, 3) := by decide +kernel
theorem D_M_text_166 : decode cX12_text 166 = .ok (.aload_n 0, 1) := by decide +kernel
theorem D_M_text_167 : decode cX12_text 167 = .ok (.invokevirtual 201, 3) := by decide +kernel
theorem D_M_text_170 : decode cX12_text 170 = .ok (.iload_n 1, 1) := by decide +kernel
theorem D_M_text_171 : decode cX12_text 171 = .ok (.ireturn, 1) := by decide +kernel
def K_M_text : SC := (cX12_text, "TwoLevelsModel", 4, 4, false, [13, 70, 71, 72, 73, 78], NoQ)
def d_M_text : MD Int32 := mth tt 4 (sq (sh2 (pI false 13 9) (lR 0) (eC (-1)))
 (sq (sI1 1 (eC (nI 0)))
 (sq (sI1 2 (eC (nI 0)))
 (sq (sq (sI1 3 (eC (nI 0)))
 (loop (cAnd (eh2 c_lt (lI 3) (eh1 (gI 13 7) (lR 0))) (eh1 z_ne (kV 13 d_M_isRight (lR 0) [])))
 (sIf (eh2 c_eq (eh2 (aI .byte) (eh1 (gR 13 6) (lR 0)) (lI 3)) (eC (nI 32))) (sI1 2 (eC (nI 0))) (sIf (cNot (eh1 z_ne (kS d_M_isSmall [vI (eh2 (aI .byte) (eh1 (gR 13 6) (lR 0)) (lI 3))]))) (sE (kV 13 d_M_fails (lR 0) [vI (eC (nI 1)), vI (lI 3)])) (sq (sIf (cAnd (cNot (eh1 z_ne (lI 2))) (eh2 c_eq (lI 1) (eC (nI 8)))) (sq (sE (kV 13 d_M_fails (lR 0) [vI (eC (nI 3)), vI (lI 3)]))
 cnt) sk)
 (sq (sIf (cNot (eh1 z_ne (lI 2))) (sq (sh3 (stI [78]) (eh1 (gR 13 14) (lR 0)) (eh2 imulF (eC (nI 11)) (lI 1)) (eC (nI 0)))
 (sInc 1 (nI 1))) sk)
 (sq (sI1 2 (eC (nI 1)))
 (sE (kV 13 d_M_lays (lR 0) [vI (eh2 imulF (eC (nI 11)) (eh2 isubF (lI 1) (eC (nI 1)))), vI (lI 3)])))))))
 (sInc 3 (nI 1))))
 (sq (sh2 (pI false 13 7) (lR 0) (eC (nI 0)))
 (sq (sIf (cNot (eh1 z_ne (kV 13 d_M_isRight (lR 0) []))) (rtn (eh2 isubF (eC (-2)) (eh1 (gI 13 9) (lR 0)))) sk)
 (sq (sh3 (stI [70]) (eh1 (gR 13 0) (lR 0)) (eC (nI 1595)) (lI 1))
 (sq (sE (kS d_M_moves [vR (eh1 (gR 13 14) (lR 0)), vI (eC (nI 0)), vR (eh1 (gR 13 0) (lR 0)), vI (eC (nI 1596)), vI (eh2 imulF (eC (nI 11)) (lI 1))]))
 (sq (sE (kV 13 d_M_changes (lR 0) []))
 (rtn (lI 1)))))))))))
theorem m_M_text : MJ 4 [13, 70, 71, 72, 73, 78] yX12_text (some .int) eI (d_M_text) := MJ_of (K := K_M_text) (ri := .ireturn) (n1 := 0) (n2 := 0) (n3 := 0)
 (SJ_sq (p0 := 0) (p1 := 5) (nN := 0) (nB := 0) (nC := 0) (SJ_putI (z := false) (t := 13) (c := 12) (kf := 9) (r := (RX12, TX12, 52)) (p0 := 0) (p1 := 1) (p2 := 2) (EJ_aload_n (j := 0) (i := 0) (pc := 0) D_M_text_0 rfl) (EJ_iconst (n := -1) (v := (-1)) (pc := 1) D_M_text_1 (by decide +kernel)) D_M_text_2 ⟨rfl, rfl, by decide, q_941⟩ (Or.inl rfl) (fun _ _ => ⟨rfl, rfl⟩) (fun _ _ => rfl) (show (13 : Nat) ∈ ([13, 70, 71, 72, 73, 78] : List Nat) from by decide))
 (SJ_sq (p0 := 5) (p1 := 7) (nN := 0) (nB := 0) (nC := 0) (SJ_istore_n (i := 1) (j := 1) (p0 := 5) (p1 := 6) (EJ_iconst (n := 0) (v := (nI 0)) (pc := 5) D_M_text_5 (by decide +kernel)) D_M_text_6 rfl)
 (SJ_sq (p0 := 7) (p1 := 9) (nN := 0) (nB := 0) (nC := 0) (SJ_istore_n (i := 2) (j := 2) (p0 := 7) (p1 := 8) (EJ_iconst (n := 0) (v := (nI 0)) (pc := 7) D_M_text_7 (by decide +kernel)) D_M_text_8 rfl)
 (SJ_sq (p0 := 9) (p1 := 118) (nN := 0) (nB := 0) (nC := 0) (SJ_sq (p0 := 9) (p1 := 11) (nN := 118) (nB := 0) (nC := 0) (SJ_istore_n (i := 3) (j := 3) (p0 := 9) (p1 := 10) (EJ_iconst (n := 0) (v := (nI 0)) (pc := 9) D_M_text_9 (by decide +kernel)) D_M_text_10 rfl)
 (SJ_loop (p0 := 11) (pB := 26) (pS := 112) (pE := 118) (CJ_and (p0 := 11) (pM := 19) (pT := 26) (pF := 118) (CJ_lt' (off := 102) (tgt := 118) (p0 := 11) (p1 := 12) (p2 := 16) (EJ_iload_n (j := 3) (i := 3) (pc := 11) D_M_text_11 rfl) (EJ_getI (t := 13) (c := 12) (kf := 7) (r := (RX12, TX12, 52)) (p0 := 12) (p1 := 13) (EJ_aload_n (j := 0) (i := 0) (pc := 12) D_M_text_12 rfl) D_M_text_13 ⟨rfl, rfl, by decide, q_939⟩ (fun _ _ => rfl)) D_M_text_16 rfl) (CZ_ne' (off := 95) (tgt := 118) (p0 := 19) (p1 := 23) (EJ_callV (t := 13) (c := 12) (r := (RX12, TX12, 52)) (p0 := 19) (p1 := 20) (p2 := 20) (EJ_aload_n (j := 0) (i := 0) (pc := 19) D_M_text_19 rfl) AJ_nil m_M_isRight E1_I D_M_text_20 rfl rfl rfl q_1062 q_1063 q_40 q_97 ⟨by decide +kernel, by decide +kernel, by decide +kernel⟩ (by decide) (show 1 + 1 ≤ 4 from by decide) (fun _ h => absurd h List.not_mem_nil)) D_M_text_23 rfl))
 (SJ_if (p0 := 26) (pT := 37) (pF := 42) (nN := 112) (nB := 118) (nC := 112) (CJ_eq' (off := 8) (tgt := 42) (p0 := 26) (p1 := 32) (p2 := 34) (EJ_bald (p0 := 26) (p1 := 30) (p2 := 31) (EJ_getR (t := 13) (c := 12) (kf := 6) (r := (RX12, TX12, 52)) (p0 := 26) (p1 := 27) (EJ_aload_n (j := 0) (i := 0) (pc := 26) D_M_text_26 rfl) D_M_text_27 ⟨rfl, rfl, by decide, q_938⟩ (fun _ _ => rfl)) (EJ_iload_n (j := 3) (i := 3) (pc := 30) D_M_text_30 rfl) D_M_text_31) (EJ_bipush (n := 32) (v := (nI 32)) (pc := 32) D_M_text_32 (by decide +kernel)) D_M_text_34 rfl) (SJ_post (SJ_istore_n (i := 2) (j := 2) (p0 := 37) (p1 := 38) (EJ_iconst (n := 0) (v := (nI 0)) (pc := 37) D_M_text_37 (by decide +kernel)) D_M_text_38 rfl) (Lead.goto (K := K_M_text) (pc := 39) (tgt := 112) D_M_text_39 rfl)) (SJ_if (p0 := 42) (pT := 54) (pF := 63) (nN := 112) (nB := 118) (nC := 112) (CJ_not (p0 := 42) (pT := 54) (pF := 63) (CZ_ne (off := 12) (tgt := 63) (p0 := 42) (p1 := 51) (EJ_callS (p0 := 42) (p1 := 48) (AJ_I (p0 := 42) (p1 := 48) (p2 := 48) (EJ_bald (p0 := 42) (p1 := 46) (p2 := 47) (EJ_getR (t := 13) (c := 12) (kf := 6) (r := (RX12, TX12, 52)) (p0 := 42) (p1 := 43) (EJ_aload_n (j := 0) (i := 0) (pc := 42) D_M_text_42 rfl) D_M_text_43 ⟨rfl, rfl, by decide, q_938⟩ (fun _ _ => rfl)) (EJ_iload_n (j := 3) (i := 3) (pc := 46) D_M_text_46 rfl) D_M_text_47) AJ_nil) m_M_isSmall E1_I D_M_text_48 q_1068 q_1069 q_97 ⟨by decide +kernel, by decide +kernel, by decide +kernel⟩ (by decide) (show 2 + 1 ≤ 4 from by decide) (fun _ h => absurd h List.not_mem_nil)) D_M_text_51 rfl)) (SJ_post (SJ_void (p0 := 54) (p1 := 60) (EJ_callV (t := 13) (c := 12) (r := (RX12, TX12, 52)) (p0 := 54) (p1 := 55) (p2 := 57) (EJ_aload_n (j := 0) (i := 0) (pc := 54) D_M_text_54 rfl) (AJ_I (p0 := 55) (p1 := 56) (p2 := 57) (EJ_iconst (n := 1) (v := (nI 1)) (pc := 55) D_M_text_55 (by decide +kernel)) (AJ_I (p0 := 56) (p1 := 57) (p2 := 57) (EJ_iload_n (j := 3) (i := 3) (pc := 56) D_M_text_56 rfl) AJ_nil)) m_M_fails E1_U D_M_text_57 rfl rfl rfl q_1077 q_1078 q_42 q_97 ⟨by decide +kernel, by decide +kernel, by decide +kernel⟩ (by decide) (show 2 + 1 ≤ 4 from by decide) (show ∀ x_ ∈ ([13] : List Nat), x_ ∈ ([13, 70, 71, 72, 73, 78] : List Nat) from by decide))) (Lead.goto (K := K_M_text) (pc := 60) (tgt := 112) D_M_text_60 rfl)) (SJ_sq (p0 := 63) (p1 := 82) (nN := 112) (nB := 118) (nC := 112) (SJ_if (p0 := 63) (pT := 73) (pF := 82) (nN := 82) (nB := 118) (nC := 112) (CJ_and (p0 := 63) (pM := 67) (pT := 73) (pF := 82) (CJ_not (p0 := 63) (pT := 67) (pF := 82) (CZ_ne (off := 18) (tgt := 82) (p0 := 63) (p1 := 64) (EJ_iload_n (j := 2) (i := 2) (pc := 63) D_M_text_63 rfl) D_M_text_64 rfl)) (CJ_eq' (off := 12) (tgt := 82) (p0 := 67) (p1 := 68) (p2 := 70) (EJ_iload_n (j := 1) (i := 1) (pc := 67) D_M_text_67 rfl) (EJ_bipush (n := 8) (v := (nI 8)) (pc := 68) D_M_text_68 (by decide +kernel)) D_M_text_70 rfl)) (SJ_sq (p0 := 73) (p1 := 112) (nN := 82) (nB := 118) (nC := 112) (SJ_post (SJ_void (p0 := 73) (p1 := 79) (EJ_callV (t := 13) (c := 12) (r := (RX12, TX12, 52)) (p0 := 73) (p1 := 74) (p2 := 76) (EJ_aload_n (j := 0) (i := 0) (pc := 73) D_M_text_73 rfl) (AJ_I (p0 := 74) (p1 := 75) (p2 := 76) (EJ_iconst (n := 3) (v := (nI 3)) (pc := 74) D_M_text_74 (by decide +kernel)) (AJ_I (p0 := 75) (p1 := 76) (p2 := 76) (EJ_iload_n (j := 3) (i := 3) (pc := 75) D_M_text_75 rfl) AJ_nil)) m_M_fails E1_U D_M_text_76 rfl rfl rfl q_1077 q_1078 q_42 q_97 ⟨by decide +kernel, by decide +kernel, by decide +kernel⟩ (by decide) (show 2 + 1 ≤ 4 from by decide) (show ∀ x_ ∈ ([13] : List Nat), x_ ∈ ([13, 70, 71, 72, 73, 78] : List Nat) from by decide))) (Lead.goto (K := K_M_text) (pc := 79) (tgt := 112) D_M_text_79 rfl))
 SJ_cnt) SJ_sk)
 (SJ_sq (p0 := 82) (p1 := 99) (nN := 112) (nB := 118) (nC := 112) (SJ_if (p0 := 82) (pT := 86) (pF := 99) (nN := 99) (nB := 118) (nC := 112) (CJ_not (p0 := 82) (pT := 86) (pF := 99) (CZ_ne (off := 16) (tgt := 99) (p0 := 82) (p1 := 83) (EJ_iload_n (j := 2) (i := 2) (pc := 82) D_M_text_82 rfl) D_M_text_83 rfl)) (SJ_sq (p0 := 86) (p1 := 96) (nN := 99) (nB := 118) (nC := 112) (SJ_iast (ws := [78]) (p0 := 86) (p1 := 90) (p2 := 94) (p3 := 95) (EJ_getR (t := 13) (c := 12) (kf := 14) (r := (RX12, TX12, 52)) (p0 := 86) (p1 := 87) (EJ_aload_n (j := 0) (i := 0) (pc := 86) D_M_text_86 rfl) D_M_text_87 ⟨rfl, rfl, by decide, q_946⟩ (fun _ _ => rfl)) (EJ_imul (p0 := 90) (p1 := 92) (p2 := 93) (EJ_bipush (n := 11) (v := (nI 11)) (pc := 90) D_M_text_90 (by decide +kernel)) (EJ_iload_n (j := 1) (i := 1) (pc := 92) D_M_text_92 rfl) D_M_text_93) (EJ_iconst (n := 0) (v := (nI 0)) (pc := 94) D_M_text_94 (by decide +kernel)) D_M_text_95 (show ∀ x_ ∈ ([78] : List Nat), x_ ∈ ([13, 70, 71, 72, 73, 78] : List Nat) from by decide))
 (SJ_iinc (i := 1) (n := 1) (v := (nI 1)) (pc := 96) D_M_text_96 (by decide +kernel))) SJ_sk)
 (SJ_sq (p0 := 99) (p1 := 101) (nN := 112) (nB := 118) (nC := 112) (SJ_istore_n (i := 2) (j := 2) (p0 := 99) (p1 := 100) (EJ_iconst (n := 1) (v := (nI 1)) (pc := 99) D_M_text_99 (by decide +kernel)) D_M_text_100 rfl)
 (SJ_void (p0 := 101) (p1 := 112) (EJ_callV (t := 13) (c := 12) (r := (RX12, TX12, 52)) (p0 := 101) (p1 := 102) (p2 := 109) (EJ_aload_n (j := 0) (i := 0) (pc := 101) D_M_text_101 rfl) (AJ_I (p0 := 102) (p1 := 108) (p2 := 109) (EJ_imul (p0 := 102) (p1 := 104) (p2 := 107) (EJ_bipush (n := 11) (v := (nI 11)) (pc := 102) D_M_text_102 (by decide +kernel)) (EJ_isub (p0 := 104) (p1 := 105) (p2 := 106) (EJ_iload_n (j := 1) (i := 1) (pc := 104) D_M_text_104 rfl) (EJ_iconst (n := 1) (v := (nI 1)) (pc := 105) D_M_text_105 (by decide +kernel)) D_M_text_106) D_M_text_107) (AJ_I (p0 := 108) (p1 := 109) (p2 := 109) (EJ_iload_n (j := 3) (i := 3) (pc := 108) D_M_text_108 rfl) AJ_nil)) m_M_lays E1_U D_M_text_109 rfl rfl rfl q_1124 q_1125 q_53 q_97 ⟨by decide +kernel, by decide +kernel, by decide +kernel⟩ (by decide) (show 3 + 1 ≤ 4 from by decide) (show ∀ x_ ∈ ([13, 78] : List Nat), x_ ∈ ([13, 70, 71, 72, 73, 78] : List Nat) from by decide))))))))
 (SJ_post (SJ_iinc (i := 3) (n := 1) (v := (nI 1)) (pc := 112) D_M_text_112 (by decide +kernel)) (Lead.goto (K := K_M_text) (pc := 115) (tgt := 11) D_M_text_115 rfl))))
 (SJ_sq (p0 := 118) (p1 := 123) (nN := 0) (nB := 0) (nC := 0) (SJ_putI (z := false) (t := 13) (c := 12) (kf := 7) (r := (RX12, TX12, 52)) (p0 := 118) (p1 := 119) (p2 := 120) (EJ_aload_n (j := 0) (i := 0) (pc := 118) D_M_text_118 rfl) (EJ_iconst (n := 0) (v := (nI 0)) (pc := 119) D_M_text_119 (by decide +kernel)) D_M_text_120 ⟨rfl, rfl, by decide, q_939⟩ (Or.inl rfl) (fun _ _ => ⟨rfl, rfl⟩) (fun _ _ => rfl) (show (13 : Nat) ∈ ([13, 70, 71, 72, 73, 78] : List Nat) from by decide))
 (SJ_sq (p0 := 123) (p1 := 138) (nN := 0) (nB := 0) (nC := 0) (SJ_if (p0 := 123) (pT := 130) (pF := 138) (nN := 138) (nB := 0) (nC := 0) (CJ_not (p0 := 123) (pT := 130) (pF := 138) (CZ_ne (off := 11) (tgt := 138) (p0 := 123) (p1 := 127) (EJ_callV (t := 13) (c := 12) (r := (RX12, TX12, 52)) (p0 := 123) (p1 := 124) (p2 := 124) (EJ_aload_n (j := 0) (i := 0) (pc := 123) D_M_text_123 rfl) AJ_nil m_M_isRight E1_I D_M_text_124 rfl rfl rfl q_1062 q_1063 q_40 q_97 ⟨by decide +kernel, by decide +kernel, by decide +kernel⟩ (by decide) (show 1 + 1 ≤ 4 from by decide) (fun _ h => absurd h List.not_mem_nil)) D_M_text_127 rfl)) (SJ_ret (p0 := 130) (p1 := 137) (EJ_isub (p0 := 130) (p1 := 132) (p2 := 136) (EJ_bipush (n := -2) (v := (-2)) (pc := 130) D_M_text_130 (by decide +kernel)) (EJ_getI (t := 13) (c := 12) (kf := 9) (r := (RX12, TX12, 52)) (p0 := 132) (p1 := 133) (EJ_aload_n (j := 0) (i := 0) (pc := 132) D_M_text_132 rfl) D_M_text_133 ⟨rfl, rfl, by decide, q_941⟩ (fun _ _ => rfl)) D_M_text_136) D_M_text_137) SJ_sk)
 (SJ_sq (p0 := 138) (p1 := 147) (nN := 0) (nB := 0) (nC := 0) (SJ_iast (ws := [70]) (p0 := 138) (p1 := 142) (p2 := 145) (p3 := 146) (EJ_getR (t := 13) (c := 12) (kf := 0) (r := (RX12, TX12, 52)) (p0 := 138) (p1 := 139) (EJ_aload_n (j := 0) (i := 0) (pc := 138) D_M_text_138 rfl) D_M_text_139 ⟨rfl, rfl, by decide, q_932⟩ (fun _ _ => rfl)) (EJ_sipush (n := 1595) (v := (nI 1595)) (pc := 142) D_M_text_142 (by decide +kernel)) (EJ_iload_n (j := 1) (i := 1) (pc := 145) D_M_text_145 rfl) D_M_text_146 (show ∀ x_ ∈ ([70] : List Nat), x_ ∈ ([13, 70, 71, 72, 73, 78] : List Nat) from by decide))
 (SJ_sq (p0 := 147) (p1 := 166) (nN := 0) (nB := 0) (nC := 0) (SJ_void (p0 := 147) (p1 := 166) (EJ_callS (p0 := 147) (p1 := 163) (AJ_R (p0 := 147) (p1 := 151) (p2 := 163) (EJ_getR (t := 13) (c := 12) (kf := 14) (r := (RX12, TX12, 52)) (p0 := 147) (p1 := 148) (EJ_aload_n (j := 0) (i := 0) (pc := 147) D_M_text_147 rfl) D_M_text_148 ⟨rfl, rfl, by decide, q_946⟩ (fun _ _ => rfl)) (AJ_I (p0 := 151) (p1 := 152) (p2 := 163) (EJ_iconst (n := 0) (v := (nI 0)) (pc := 151) D_M_text_151 (by decide +kernel)) (AJ_R (p0 := 152) (p1 := 156) (p2 := 163) (EJ_getR (t := 13) (c := 12) (kf := 0) (r := (RX12, TX12, 52)) (p0 := 152) (p1 := 153) (EJ_aload_n (j := 0) (i := 0) (pc := 152) D_M_text_152 rfl) D_M_text_153 ⟨rfl, rfl, by decide, q_932⟩ (fun _ _ => rfl)) (AJ_I (p0 := 156) (p1 := 159) (p2 := 163) (EJ_sipush (n := 1596) (v := (nI 1596)) (pc := 156) D_M_text_156 (by decide +kernel)) (AJ_I (p0 := 159) (p1 := 163) (p2 := 163) (EJ_imul (p0 := 159) (p1 := 161) (p2 := 162) (EJ_bipush (n := 11) (v := (nI 11)) (pc := 159) D_M_text_159 (by decide +kernel)) (EJ_iload_n (j := 1) (i := 1) (pc := 161) D_M_text_161 rfl) D_M_text_162) AJ_nil))))) m_M_moves E1_U D_M_text_163 q_1098 q_1099 q_97 ⟨by decide +kernel, by decide +kernel, by decide +kernel⟩ (by decide) (show 1 + 1 ≤ 4 from by decide) (show ∀ x_ ∈ ([70, 71, 72, 73] : List Nat), x_ ∈ ([13, 70, 71, 72, 73, 78] : List Nat) from by decide)))
 (SJ_sq (p0 := 166) (p1 := 170) (nN := 0) (nB := 0) (nC := 0) (SJ_void (p0 := 166) (p1 := 170) (EJ_callV (t := 13) (c := 12) (r := (RX12, TX12, 52)) (p0 := 166) (p1 := 167) (p2 := 167) (EJ_aload_n (j := 0) (i := 0) (pc := 166) D_M_text_166 rfl) AJ_nil m_M_changes E1_U D_M_text_167 rfl rfl rfl q_1113 q_1114 q_52 q_97 ⟨by decide +kernel, by decide +kernel, by decide +kernel⟩ (by decide) (show 1 + 1 ≤ 4 from by decide) (show ∀ x_ ∈ ([13] : List Nat), x_ ∈ ([13, 70, 71, 72, 73, 78] : List Nat) from by decide)))
 (SJ_ret (p0 := 170) (p1 := 171) (EJ_iload_n (j := 1) (i := 1) (pc := 170) D_M_text_170 rfl) D_M_text_171))))))))))
 RTm_int q_1123 (by decide +kernel) rfl (fun h => by cases h) (show 4 ≤ 40 from by decide) (fun _ => trivial)
