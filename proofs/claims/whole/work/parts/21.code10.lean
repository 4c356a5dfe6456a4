/-! the program: part 10 -/
theorem D_TL_tell_0 : decode cX11_tell 0 = .ok (.aload_n 0, 1) := by decide +kernel
theorem D_TL_tell_1 : decode cX11_tell 1 = .ok (.getfield 16, 3) := by decide +kernel
theorem D_TL_tell_4 : decode cX11_tell 4 = .ok (.aload_n 0, 1) := by decide +kernel
theorem D_TL_tell_5 : decode cX11_tell 5 = .ok (.getfield 9, 3) := by decide +kernel
theorem D_TL_tell_8 : decode cX11_tell 8 = .ok (.aload_n 0, 1) := by decide +kernel
theorem D_TL_tell_9 : decode cX11_tell 9 = .ok (.getfield 86, 3) := by decide +kernel
theorem D_TL_tell_12 : decode cX11_tell 12 = .ok (.invokevirtual 93, 3) := by decide +kernel
theorem D_TL_tell_15 : decode cX11_tell 15 = .ok (.istore_n 1, 1) := by decide +kernel
theorem D_TL_tell_16 : decode cX11_tell 16 = .ok (.aload_n 0, 1) := by decide +kernel
theorem D_TL_tell_17 : decode cX11_tell 17 = .ok (.iconst (0), 1) := by decide +kernel
theorem D_TL_tell_18 : decode cX11_tell 18 = .ok (.putfield 86, 3) := by decide +kernel
theorem D_TL_tell_21 : decode cX11_tell 21 = .ok (.iload_n 1, 1) := by decide +kernel
theorem D_TL_tell_22 : decode cX11_tell 22 = .ok (.ifCond .eq (8), 3) := by decide +kernel
theorem D_TL_tell_25 : decode cX11_tell 25 = .ok (.bipush (-2), 2) := by decide +kernel
theorem D_TL_tell_27 : decode cX11_tell 27 = .ok (.iload_n 1, 1) := by decide +kernel
theorem D_TL_tell_28 : decode cX11_tell 28 = .ok (.isub, 1) := by decide +kernel
theorem D_TL_tell_29 : decode cX11_tell 29 = .ok (.ireturn, 1) := by decide +kernel
theorem D_TL_tell_30 : decode cX11_tell 30 = .ok (.aload_n 0, 1) := by decide +kernel
theorem D_TL_tell_31 : decode cX11_tell 31 = .ok (.new 20, 3) := by decide +kernel
theorem D_TL_tell_34 : decode cX11_tell 34 = .ok (.dup, 1) := by decide +kernel
theorem D_TL_tell_35 : decode cX11_tell 35 = .ok (.aload_n 0, 1) := by decide +kernel
theorem D_TL_tell_36 : decode cX11_tell 36 = .ok (.getfield 16, 3) := by decide +kernel
theorem D_TL_tell_39 : decode cX11_tell 39 = .ok (.getfield 97, 3) := by decide +kernel
theorem D_TL_tell_42 : decode cX11_tell 42 = .ok (.aload_n 0, 1) := by decide +kernel
theorem D_TL_tell_43 : decode cX11_tell 43 = .ok (.getfield 16, 3) := by decide +kernel
theorem D_TL_tell_46 : decode cX11_tell 46 = .ok (.invokevirtual 98, 3) := by decide +kernel
theorem D_TL_tell_49 : decode cX11_tell 49 = .ok (.aload_n 0, 1) := by decide +kernel
theorem D_TL_tell_50 : decode cX11_tell 50 = .ok (.getfield 30, 3) := by decide +kernel
theorem D_TL_tell_53 : decode cX11_tell 53 = .ok (.getfield 102, 3) := by decide +kernel
theorem D_TL_tell_56 : decode cX11_tell 56 = .ok (.aload_n 0, 1) := by decide +kernel
theorem D_TL_tell_57 : decode cX11_tell 57 = .ok (.getfield 30, 3) := by decide +kernel
theorem D_TL_tell_60 : decode cX11_tell 60 = .ok (.getfield 105, 3) := by decide +kernel
theorem D_TL_tell_63 : decode cX11_tell 63 = .ok (.invokespecial 27, 3) := by decide +kernel
theorem D_TL_tell_66 : decode cX11_tell 66 = .ok (.putfield 30, 3) := by decide +kernel
theorem D_TL_tell_69 : decode cX11_tell 69 = .ok (.aload_n 0, 1) := by decide +kernel
theorem D_TL_tell_70 : decode cX11_tell 70 = .ok (.lconst 0, 1) := by decide +kernel
theorem D_TL_tell_71 : decode cX11_tell 71 = .ok (.putfield 108, 3) := by decide +kernel
theorem D_TL_tell_74 : decode cX11_tell 74 = .ok (.aload_n 0, 1) := by decide +kernel
theorem D_TL_tell_75 : decode cX11_tell 75 = .ok (.iconst (0), 1) := by decide +kernel
theorem D_TL_tell_76 : decode cX11_tell 76 = .ok (.newarray .long, 2) := by decide +kernel
theorem D_TL_tell_78 : decode cX11_tell 78 = .ok (.putfield 34, 3) := by decide +kernel
theorem D_TL_tell_81 : decode cX11_tell 81 = .ok (.aload_n 0, 1) := by decide +kernel
theorem D_TL_tell_82 : decode cX11_tell 82 = .ok (.iconst (0), 1) := by decide +kernel
theorem D_TL_tell_83 : decode cX11_tell 83 = .ok (.putfield 112, 3) := by decide +kernel
theorem D_TL_tell_86 : decode cX11_tell 86 = .ok (.aload_n 0, 1) := by decide +kernel
theorem D_TL_tell_87 : decode cX11_tell 87 = .ok (.invokevirtual 115, 3) := by decide +kernel
theorem D_TL_tell_90 : decode cX11_tell 90 = .ok (.aload_n 0, 1) := by decide +kernel
theorem D_TL_tell_91 : decode cX11_tell 91 = .ok (.getfield 30, 3) := by decide +kernel
theorem D_TL_tell_94 : decode cX11_tell 94 = .ok (.getfield 118, 3) := by decide +kernel
theorem D_TL_tell_97 : decode cX11_tell 97 = .ok (.arraylength, 1) := by decide +kernel
theorem D_TL_tell_98 : decode cX11_tell 98 = .ok (.ireturn, 1) := by decide +kernel
def K_TL_tell : SC := (cX11_tell, "TwoLevels", 2, 8, false, [1, 2, 5, 7, 10, 11, 12, 26, 27, 28, 29, 30, 31, 32, 33, 34, 35, 36, 37, 38, 39, 40, 41, 42, 53, 54], NoQ)
def d_TL_tell : MD Int32 := mth tt 2 (sq (sI1 1 (kV 5 d_Reader_read (eh1 (gR 12 2) (lR 0)) [vR (eh1 (gR 12 0) (lR 0)), vI (eh1 (gI 12 1) (lR 0))]))
 (sq (sh2 (pI false 12 1) (lR 0) (eC (nI 0)))
 (sq (sIf (eh1 z_ne (lI 1)) (rtn (eh2 isubF (eC (-2)) (lI 1))) sk)
 (sq (sh2 (pR 12 3) (lR 0) (kN 10 4 d_State_init [vR (eh1 (gR 5 8) (eh1 (gR 12 2) (lR 0))), vR (kV 5 d_Reader_takeRules (eh1 (gR 12 2) (lR 0)) []), vI (eh1 (gI 10 2) (eh1 (gR 12 3) (lR 0))), vI (eh1 (gI 10 3) (eh1 (gR 12 3) (lR 0)))]))
 (sq (sh2 (pJ 12 4) (lR 0) (eC (lN 0)))
 (sq (sh2 (pR 12 5) (lR 0) (nA 21 (eC (nI 0))))
 (sq (sh2 (pI false 12 8) (lR 0) (eC (nI 0)))
 (sq (sE (kV 12 d_TL_forget (lR 0) []))
 (rtn (eh1 aL (eh1 (gR 10 1) (eh1 (gR 12 3) (lR 0)))))))))))))
theorem m_TL_tell : MJ 8 [1, 2, 5, 7, 10, 11, 12, 26, 27, 28, 29, 30, 31, 32, 33, 34, 35, 36, 37, 38, 39, 40, 41, 42, 53, 54] yX11_tell (some .int) eI (d_TL_tell) := MJ_of (K := K_TL_tell) (ri := .ireturn) (n1 := 0) (n2 := 0) (n3 := 0)
 (SJ_sq (p0 := 0) (p1 := 16) (nN := 0) (nB := 0) (nC := 0) (SJ_istore_n (i := 1) (j := 1) (p0 := 0) (p1 := 15) (EJ_callV (t := 5) (c := 4) (r := (RX4, TX4, 9)) (p0 := 0) (p1 := 4) (p2 := 12) (EJ_getR (t := 12) (c := 11) (kf := 2) (r := (RX11, TX11, 16)) (p0 := 0) (p1 := 1) (EJ_aload_n (j := 0) (i := 0) (pc := 0) D_TL_tell_0 rfl) D_TL_tell_1 ⟨rfl, rfl, by decide, q_257⟩ (fun _ _ => rfl)) (AJ_R (p0 := 4) (p1 := 8) (p2 := 12) (EJ_getR (t := 12) (c := 11) (kf := 0) (r := (RX11, TX11, 16)) (p0 := 4) (p1 := 5) (EJ_aload_n (j := 0) (i := 0) (pc := 4) D_TL_tell_4 rfl) D_TL_tell_5 ⟨rfl, rfl, by decide, q_255⟩ (fun _ _ => rfl)) (AJ_I (p0 := 8) (p1 := 12) (p2 := 12) (EJ_getI (t := 12) (c := 11) (kf := 1) (r := (RX11, TX11, 16)) (p0 := 8) (p1 := 9) (EJ_aload_n (j := 0) (i := 0) (pc := 8) D_TL_tell_8 rfl) D_TL_tell_9 ⟨rfl, rfl, by decide, q_256⟩ (fun _ _ => rfl)) AJ_nil)) m_Reader_read E1_I D_TL_tell_12 rfl rfl rfl q_302 q_303 q_304 q_92 ⟨by decide +kernel, by decide +kernel, by decide +kernel⟩ (by decide) (show 7 + 1 ≤ 8 from by decide) (show ∀ x_ ∈ ([1, 2, 5, 7, 11, 26, 27, 29, 30, 31, 32, 33, 34, 35, 36, 37, 38, 39, 40, 41, 42, 53, 54] : List Nat), x_ ∈ ([1, 2, 5, 7, 10, 11, 12, 26, 27, 28, 29, 30, 31, 32, 33, 34, 35, 36, 37, 38, 39, 40, 41, 42, 53, 54] : List Nat) from by decide)) D_TL_tell_15 rfl)
 (SJ_sq (p0 := 16) (p1 := 21) (nN := 0) (nB := 0) (nC := 0) (SJ_putI (z := false) (t := 12) (c := 11) (kf := 1) (r := (RX11, TX11, 16)) (p0 := 16) (p1 := 17) (p2 := 18) (EJ_aload_n (j := 0) (i := 0) (pc := 16) D_TL_tell_16 rfl) (EJ_iconst (n := 0) (v := (nI 0)) (pc := 17) D_TL_tell_17 (by decide +kernel)) D_TL_tell_18 ⟨rfl, rfl, by decide, q_256⟩ (Or.inl rfl) (fun _ _ => ⟨rfl, rfl⟩) (fun _ _ => rfl) (show (12 : Nat) ∈ ([1, 2, 5, 7, 10, 11, 12, 26, 27, 28, 29, 30, 31, 32, 33, 34, 35, 36, 37, 38, 39, 40, 41, 42, 53, 54] : List Nat) from by decide))
 (SJ_sq (p0 := 21) (p1 := 30) (nN := 0) (nB := 0) (nC := 0) (SJ_if (p0 := 21) (pT := 25) (pF := 30) (nN := 30) (nB := 0) (nC := 0) (CZ_ne' (off := 8) (tgt := 30) (p0 := 21) (p1 := 22) (EJ_iload_n (j := 1) (i := 1) (pc := 21) D_TL_tell_21 rfl) D_TL_tell_22 rfl) (SJ_ret (p0 := 25) (p1 := 29) (EJ_isub (p0 := 25) (p1 := 27) (p2 := 28) (EJ_bipush (n := -2) (v := (-2)) (pc := 25) D_TL_tell_25 (by decide +kernel)) (EJ_iload_n (j := 1) (i := 1) (pc := 27) D_TL_tell_27 rfl) D_TL_tell_28) D_TL_tell_29) SJ_sk)
 (SJ_sq (p0 := 30) (p1 := 69) (nN := 0) (nB := 0) (nC := 0) (SJ_putR (t := 12) (c := 11) (kf := 3) (r := (RX11, TX11, 16)) (p0 := 30) (p1 := 31) (p2 := 66) (EJ_aload_n (j := 0) (i := 0) (pc := 30) D_TL_tell_30 rfl) (EJ_new (t := 10) (c := 9) (r := (RX9, TX9, 4)) (p0 := 31) (p1 := 63) D_TL_tell_31 D_TL_tell_34 (AJ_R (p0 := 35) (p1 := 42) (p2 := 63) (EJ_getR (t := 5) (c := 4) (kf := 8) (r := (RX4, TX4, 9)) (p0 := 35) (p1 := 39) (EJ_getR (t := 12) (c := 11) (kf := 2) (r := (RX11, TX11, 16)) (p0 := 35) (p1 := 36) (EJ_aload_n (j := 0) (i := 0) (pc := 35) D_TL_tell_35 rfl) D_TL_tell_36 ⟨rfl, rfl, by decide, q_257⟩ (fun _ _ => rfl)) D_TL_tell_39 ⟨rfl, rfl, by decide, q_155⟩ (fun _ _ => rfl)) (AJ_R (p0 := 42) (p1 := 49) (p2 := 63) (EJ_callV (t := 5) (c := 4) (r := (RX4, TX4, 9)) (p0 := 42) (p1 := 46) (p2 := 46) (EJ_getR (t := 12) (c := 11) (kf := 2) (r := (RX11, TX11, 16)) (p0 := 42) (p1 := 43) (EJ_aload_n (j := 0) (i := 0) (pc := 42) D_TL_tell_42 rfl) D_TL_tell_43 ⟨rfl, rfl, by decide, q_257⟩ (fun _ _ => rfl)) AJ_nil m_Reader_takeRules E1_R D_TL_tell_46 rfl rfl rfl q_511 q_512 q_513 q_92 ⟨by decide +kernel, by decide +kernel, by decide +kernel⟩ (by decide) (show 1 + 1 ≤ 8 from by decide) (show ∀ x_ ∈ ([28] : List Nat), x_ ∈ ([1, 2, 5, 7, 10, 11, 12, 26, 27, 28, 29, 30, 31, 32, 33, 34, 35, 36, 37, 38, 39, 40, 41, 42, 53, 54] : List Nat) from by decide)) (AJ_I (p0 := 49) (p1 := 56) (p2 := 63) (EJ_getI (t := 10) (c := 9) (kf := 2) (r := (RX9, TX9, 4)) (p0 := 49) (p1 := 53) (EJ_getR (t := 12) (c := 11) (kf := 3) (r := (RX11, TX11, 16)) (p0 := 49) (p1 := 50) (EJ_aload_n (j := 0) (i := 0) (pc := 49) D_TL_tell_49 rfl) D_TL_tell_50 ⟨rfl, rfl, by decide, q_258⟩ (fun _ _ => rfl)) D_TL_tell_53 ⟨rfl, rfl, by decide, q_180⟩ (fun _ _ => rfl)) (AJ_I (p0 := 56) (p1 := 63) (p2 := 63) (EJ_getI (t := 10) (c := 9) (kf := 3) (r := (RX9, TX9, 4)) (p0 := 56) (p1 := 60) (EJ_getR (t := 12) (c := 11) (kf := 3) (r := (RX11, TX11, 16)) (p0 := 56) (p1 := 57) (EJ_aload_n (j := 0) (i := 0) (pc := 56) D_TL_tell_56 rfl) D_TL_tell_57 ⟨rfl, rfl, by decide, q_258⟩ (fun _ _ => rfl)) D_TL_tell_60 ⟨rfl, rfl, by decide, q_182⟩ (fun _ _ => rfl)) AJ_nil)))) m_State_init D_TL_tell_63 rfl rfl q_165 q_166 q_94 rfl rfl (Or.inl q_169) q_170 ⟨by decide +kernel, by decide +kernel, by decide +kernel⟩ (by decide) (show 1 + 1 ≤ 8 from by decide) (show ∀ x_ ∈ ([10] : List Nat), x_ ∈ ([1, 2, 5, 7, 10, 11, 12, 26, 27, 28, 29, 30, 31, 32, 33, 34, 35, 36, 37, 38, 39, 40, 41, 42, 53, 54] : List Nat) from by decide)) D_TL_tell_66 ⟨rfl, rfl, by decide, q_258⟩ (Or.inl rfl) (Or.inl ⟨_, rfl⟩) (fun _ _ => rfl) (show (12 : Nat) ∈ ([1, 2, 5, 7, 10, 11, 12, 26, 27, 28, 29, 30, 31, 32, 33, 34, 35, 36, 37, 38, 39, 40, 41, 42, 53, 54] : List Nat) from by decide))
 (SJ_sq (p0 := 69) (p1 := 74) (nN := 0) (nB := 0) (nC := 0) (SJ_putJ (t := 12) (c := 11) (kf := 4) (r := (RX11, TX11, 16)) (p0 := 69) (p1 := 70) (p2 := 71) (EJ_aload_n (j := 0) (i := 0) (pc := 69) D_TL_tell_69 rfl) (EJ_lconst (n := 0) (v := (lN 0)) (pc := 70) D_TL_tell_70 (by decide +kernel)) D_TL_tell_71 ⟨rfl, rfl, by decide, q_259⟩ (Or.inl rfl) rfl (fun _ _ => rfl) (show (12 : Nat) ∈ ([1, 2, 5, 7, 10, 11, 12, 26, 27, 28, 29, 30, 31, 32, 33, 34, 35, 36, 37, 38, 39, 40, 41, 42, 53, 54] : List Nat) from by decide))
 (SJ_sq (p0 := 74) (p1 := 81) (nN := 0) (nB := 0) (nC := 0) (SJ_putR (t := 12) (c := 11) (kf := 5) (r := (RX11, TX11, 16)) (p0 := 74) (p1 := 75) (p2 := 78) (EJ_aload_n (j := 0) (i := 0) (pc := 74) D_TL_tell_74 rfl) (EJ_newarr (atype := .long) (ty := .long) (t := 21) (p0 := 75) (p1 := 76) (EJ_iconst (n := 0) (v := (nI 0)) (pc := 75) D_TL_tell_75 (by decide +kernel)) D_TL_tell_76 rfl (by decide) q_220 rfl) D_TL_tell_78 ⟨rfl, rfl, by decide, q_260⟩ (Or.inl rfl) (Or.inr ⟨_, rfl⟩) (fun _ _ => rfl) (show (12 : Nat) ∈ ([1, 2, 5, 7, 10, 11, 12, 26, 27, 28, 29, 30, 31, 32, 33, 34, 35, 36, 37, 38, 39, 40, 41, 42, 53, 54] : List Nat) from by decide))
 (SJ_sq (p0 := 81) (p1 := 86) (nN := 0) (nB := 0) (nC := 0) (SJ_putI (z := false) (t := 12) (c := 11) (kf := 8) (r := (RX11, TX11, 16)) (p0 := 81) (p1 := 82) (p2 := 83) (EJ_aload_n (j := 0) (i := 0) (pc := 81) D_TL_tell_81 rfl) (EJ_iconst (n := 0) (v := (nI 0)) (pc := 82) D_TL_tell_82 (by decide +kernel)) D_TL_tell_83 ⟨rfl, rfl, by decide, q_263⟩ (Or.inl rfl) (fun _ _ => ⟨rfl, rfl⟩) (fun _ _ => rfl) (show (12 : Nat) ∈ ([1, 2, 5, 7, 10, 11, 12, 26, 27, 28, 29, 30, 31, 32, 33, 34, 35, 36, 37, 38, 39, 40, 41, 42, 53, 54] : List Nat) from by decide))
 (SJ_sq (p0 := 86) (p1 := 90) (nN := 0) (nB := 0) (nC := 0) (SJ_void (p0 := 86) (p1 := 90) (EJ_callV (t := 12) (c := 11) (r := (RX11, TX11, 16)) (p0 := 86) (p1 := 87) (p2 := 87) (EJ_aload_n (j := 0) (i := 0) (pc := 86) D_TL_tell_86 rfl) AJ_nil m_TL_forget E1_U D_TL_tell_87 rfl rfl rfl q_515 q_516 q_14 q_91 ⟨by decide +kernel, by decide +kernel, by decide +kernel⟩ (by decide) (show 1 + 1 ≤ 8 from by decide) (show ∀ x_ ∈ ([12] : List Nat), x_ ∈ ([1, 2, 5, 7, 10, 11, 12, 26, 27, 28, 29, 30, 31, 32, 33, 34, 35, 36, 37, 38, 39, 40, 41, 42, 53, 54] : List Nat) from by decide)))
 (SJ_ret (p0 := 90) (p1 := 98) (EJ_alen (p0 := 90) (p1 := 97) (EJ_getR (t := 10) (c := 9) (kf := 1) (r := (RX9, TX9, 4)) (p0 := 90) (p1 := 94) (EJ_getR (t := 12) (c := 11) (kf := 3) (r := (RX11, TX11, 16)) (p0 := 90) (p1 := 91) (EJ_aload_n (j := 0) (i := 0) (pc := 90) D_TL_tell_90 rfl) D_TL_tell_91 ⟨rfl, rfl, by decide, q_258⟩ (fun _ _ => rfl)) D_TL_tell_94 ⟨rfl, rfl, by decide, q_177⟩ (fun _ _ => rfl)) D_TL_tell_97) D_TL_tell_98)))))))))
 RTm_int q_301 (by decide +kernel) rfl (fun h => by cases h) (show 2 ≤ 40 from by decide) (fun _ => trivial)
theorem D_TL_faultInText_0 : decode cX11_faultInText 0 = .ok (.iload_n 0, 1) := by decide +kernel
theorem D_TL_faultInText_1 : decode cX11_faultInText 1 = .ok (.invokestatic 122, 3) := by decide +kernel
theorem D_TL_faultInText_4 : decode cX11_faultInText 4 = .ok (.ifCond .ne (5), 3) := by decide +kernel
theorem D_TL_faultInText_7 : decode cX11_faultInText 7 = .ok (.iconst (1), 1) := by decide +kernel
theorem D_TL_faultInText_8 : decode cX11_faultInText 8 = .ok (.ireturn, 1) := by decide +kernel
theorem D_TL_faultInText_9 : decode cX11_faultInText 9 = .ok (.iload_n 1, 1) := by decide +kernel
theorem D_TL_faultInText_10 : decode cX11_faultInText 10 = .ok (.bipush (10), 2) := by decide +kernel
theorem D_TL_faultInText_12 : decode cX11_faultInText 12 = .ok (.if_icmp .lt (5), 3) := by decide +kernel
theorem D_TL_faultInText_15 : decode cX11_faultInText 15 = .ok (.iconst (2), 1) := by decide +kernel
theorem D_TL_faultInText_16 : decode cX11_faultInText 16 = .ok (.ireturn, 1) := by decide +kernel
theorem D_TL_faultInText_17 : decode cX11_faultInText 17 = .ok (.iload_n 1, 1) := by decide +kernel
theorem D_TL_faultInText_18 : decode cX11_faultInText 18 = .ok (.ifCond .ne (13), 3) := by decide +kernel
theorem D_TL_faultInText_21 : decode cX11_faultInText 21 = .ok (.iload_n 2, 1) := by decide +kernel
theorem D_TL_faultInText_22 : decode cX11_faultInText 22 = .ok (.bipush (8), 2) := by decide +kernel
theorem D_TL_faultInText_24 : decode cX11_faultInText 24 = .ok (.if_icmp .lt (7), 3) := by decide +kernel
theorem D_TL_faultInText_27 : decode cX11_faultInText 27 = .ok (.iconst (3), 1) := by decide +kernel
theorem D_TL_faultInText_28 : decode cX11_faultInText 28 = .ok (.goto (4), 3) := by decide +kernel
theorem D_TL_faultInText_31 : decode cX11_faultInText 31 = .ok (.iconst (0), 1) := by decide +kernel
theorem D_TL_faultInText_32 : decode cX11_faultInText 32 = .ok (.ireturn, 1) := by decide +kernel
def K_TL_faultInText : SC := (cX11_faultInText, "TwoLevels", 3, 2, false, [], NoQ)
def d_TL_faultInText : MD Int32 := mth tt 3 (sq (sIf (cNot (eh1 z_ne (kS d_Rows_isSmall [vI (lI 0)]))) (rtn (eC (nI 1))) sk)
 (sq (sIf (eh2 c_ge (lI 1) (eC (nI 10))) (rtn (eC (nI 2))) sk)
 (rtn (eIf (cAnd (eh1 z_eq (lI 1)) (eh2 c_ge (lI 2) (eC (nI 8)))) (eC (nI 3)) (eC (nI 0))))))
theorem m_TL_faultInText : MJ 2 [] yX11_faultInText (some .int) eI (d_TL_faultInText) := MJ_of (K := K_TL_faultInText) (ri := .ireturn) (n1 := 0) (n2 := 0) (n3 := 0)
 (SJ_sq (p0 := 0) (p1 := 9) (nN := 0) (nB := 0) (nC := 0) (SJ_if (p0 := 0) (pT := 7) (pF := 9) (nN := 9) (nB := 0) (nC := 0) (CJ_not (p0 := 0) (pT := 7) (pF := 9) (CZ_ne (off := 5) (tgt := 9) (p0 := 0) (p1 := 4) (EJ_callS (p0 := 0) (p1 := 1) (AJ_I (p0 := 0) (p1 := 1) (p2 := 1) (EJ_iload_n (j := 0) (i := 0) (pc := 0) D_TL_faultInText_0 rfl) AJ_nil) m_Rows_isSmall E1_I D_TL_faultInText_1 q_522 q_523 q_104 ⟨by decide +kernel, by decide +kernel, by decide +kernel⟩ (by decide) (show 1 + 1 ≤ 2 from by decide) (fun _ h => absurd h List.not_mem_nil)) D_TL_faultInText_4 rfl)) (SJ_ret (p0 := 7) (p1 := 8) (EJ_iconst (n := 1) (v := (nI 1)) (pc := 7) D_TL_faultInText_7 (by decide +kernel)) D_TL_faultInText_8) SJ_sk)
 (SJ_sq (p0 := 9) (p1 := 17) (nN := 0) (nB := 0) (nC := 0) (SJ_if (p0 := 9) (pT := 15) (pF := 17) (nN := 17) (nB := 0) (nC := 0) (CJ_ge' (off := 5) (tgt := 17) (p0 := 9) (p1 := 10) (p2 := 12) (EJ_iload_n (j := 1) (i := 1) (pc := 9) D_TL_faultInText_9 rfl) (EJ_bipush (n := 10) (v := (nI 10)) (pc := 10) D_TL_faultInText_10 (by decide +kernel)) D_TL_faultInText_12 rfl) (SJ_ret (p0 := 15) (p1 := 16) (EJ_iconst (n := 2) (v := (nI 2)) (pc := 15) D_TL_faultInText_15 (by decide +kernel)) D_TL_faultInText_16) SJ_sk)
 (SJ_ret (p0 := 17) (p1 := 32) (EJ_if (p0 := 17) (pT := 27) (pF := 31) (pE := 28) (p1 := 32) (CJ_and (p0 := 17) (pM := 21) (pT := 27) (pF := 31) (CZ_eq' (off := 13) (tgt := 31) (p0 := 17) (p1 := 18) (EJ_iload_n (j := 1) (i := 1) (pc := 17) D_TL_faultInText_17 rfl) D_TL_faultInText_18 rfl) (CJ_ge' (off := 7) (tgt := 31) (p0 := 21) (p1 := 22) (p2 := 24) (EJ_iload_n (j := 2) (i := 2) (pc := 21) D_TL_faultInText_21 rfl) (EJ_bipush (n := 8) (v := (nI 8)) (pc := 22) D_TL_faultInText_22 (by decide +kernel)) D_TL_faultInText_24 rfl)) (EJ_iconst (n := 3) (v := (nI 3)) (pc := 27) D_TL_faultInText_27 (by decide +kernel)) (Lead.goto (K := K_TL_faultInText) (pc := 28) (tgt := 32) D_TL_faultInText_28 rfl) (EJ_iconst (n := 0) (v := (nI 0)) (pc := 31) D_TL_faultInText_31 (by decide +kernel))) D_TL_faultInText_32)))
 RTm_int q_537 (by decide +kernel) rfl (fun h => by cases h) (show 3 ≤ 40 from by decide) (fun _ => trivial)
theorem D_TL_text_0 : decode cX11_text 0 = .ok (.aload_n 0, 1) := by decide +kernel
theorem D_TL_text_1 : decode cX11_text 1 = .ok (.getfield 86, 3) := by decide +kernel
theorem D_TL_text_4 : decode cX11_text 4 = .ok (.istore_n 1, 1) := by decide +kernel
theorem D_TL_text_5 : decode cX11_text 5 = .ok (.aload_n 0, 1) := by decide +kernel
theorem D_TL_text_6 : decode cX11_text 6 = .ok (.iconst (0), 1) := by decide +kernel
theorem D_TL_text_7 : decode cX11_text 7 = .ok (.putfield 86, 3) := by decide +kernel
theorem D_TL_text_10 : decode cX11_text 10 = .ok (.iconst (0), 1) := by decide +kernel
theorem D_TL_text_11 : decode cX11_text 11 = .ok (.istore_n 2, 1) := by decide +kernel
theorem D_TL_text_12 : decode cX11_text 12 = .ok (.iconst (0), 1) := by decide +kernel
theorem D_TL_text_13 : decode cX11_text 13 = .ok (.istore_n 3, 1) := by decide +kernel
theorem D_TL_text_14 : decode cX11_text 14 = .ok (.iconst (0), 1) := by decide +kernel
theorem D_TL_text_15 : decode cX11_text 15 = .ok (.istore 4, 2) := by decide +kernel
theorem D_TL_text_17 : decode cX11_text 17 = .ok (.iload 4, 2) := by decide +kernel
theorem D_TL_text_19 : decode cX11_text 19 = .ok (.iload_n 1, 1) := by decide +kernel
theorem D_TL_text_20 : decode cX11_text 20 = .ok (.if_icmp .ge (96), 3) := by decide +kernel
theorem D_TL_text_23 : decode cX11_text 23 = .ok (.aload_n 0, 1) := by decide +kernel
theorem D_TL_text_24 : decode cX11_text 24 = .ok (.getfield 9, 3) := by decide +kernel
theorem D_TL_text_27 : decode cX11_text 27 = .ok (.iload 4, 2) := by decide +kernel
theorem D_TL_text_29 : decode cX11_text 29 = .ok (.iaload, 1) := by decide +kernel
theorem D_TL_text_30 : decode cX11_text 30 = .ok (.bipush (32), 2) := by decide +kernel
theorem D_TL_text_32 : decode cX11_text 32 = .ok (.if_icmp .ne (8), 3) := by decide +kernel
theorem D_TL_text_35 : decode cX11_text 35 = .ok (.iconst (0), 1) := by decide +kernel
theorem D_TL_text_36 : decode cX11_text 36 = .ok (.istore_n 3, 1) := by decide +kernel
theorem D_TL_text_37 : decode cX11_text 37 = .ok (.goto (73), 3) := by decide +kernel
theorem D_TL_text_40 : decode cX11_text 40 = .ok (.aload_n 0, 1) := by decide +kernel
theorem D_TL_text_41 : decode cX11_text 41 = .ok (.getfield 9, 3) := by decide +kernel
theorem D_TL_text_44 : decode cX11_text 44 = .ok (.iload 4, 2) := by decide +kernel
theorem D_TL_text_46 : decode cX11_text 46 = .ok (.iaload, 1) := by decide +kernel
theorem D_TL_text_47 : decode cX11_text 47 = .ok (.iload_n 3, 1) := by decide +kernel
theorem D_TL_text_48 : decode cX11_text 48 = .ok (.iload_n 2, 1) := by decide +kernel
theorem D_TL_text_49 : decode cX11_text 49 = .ok (.invokestatic 136, 3) := by decide +kernel
theorem D_TL_text_52 : decode cX11_text 52 = .ok (.istore 5, 2) := by decide +kernel
theorem D_TL_text_54 : decode cX11_text 54 = .ok (.iload 5, 2) := by decide +kernel
theorem D_TL_text_56 : decode cX11_text 56 = .ok (.ifCond .eq (11), 3) := by decide +kernel
theorem D_TL_text_59 : decode cX11_text 59 = .ok (.iload 4, 2) := by decide +kernel
theorem D_TL_text_61 : decode cX11_text 61 = .ok (.iload 5, 2) := by decide +kernel
theorem D_TL_text_63 : decode cX11_text 63 = .ok (.invokestatic 128, 3) := by decide +kernel
theorem D_TL_text_66 : decode cX11_text 66 = .ok (.ireturn, 1) := by decide +kernel
theorem D_TL_text_67 : decode cX11_text 67 = .ok (.iload_n 3, 1) := by decide +kernel
theorem D_TL_text_68 : decode cX11_text 68 = .ok (.ifCond .ne (13), 3) := by decide +kernel
theorem D_TL_text_71 : decode cX11_text 71 = .ok (.aload_n 0, 1) := by decide +kernel
theorem D_TL_text_72 : decode cX11_text 72 = .ok (.getfield 38, 3) := by decide +kernel
theorem D_TL_text_75 : decode cX11_text 75 = .ok (.iload_n 2, 1) := by decide +kernel
theorem D_TL_text_76 : decode cX11_text 76 = .ok (.lconst 0, 1) := by decide +kernel
theorem D_TL_text_77 : decode cX11_text 77 = .ok (.lastore, 1) := by decide +kernel
theorem D_TL_text_78 : decode cX11_text 78 = .ok (.iinc 2 (1), 3) := by decide +kernel
theorem D_TL_text_81 : decode cX11_text 81 = .ok (.aload_n 0, 1) := by decide +kernel
theorem D_TL_text_82 : decode cX11_text 82 = .ok (.getfield 38, 3) := by decide +kernel
theorem D_TL_text_85 : decode cX11_text 85 = .ok (.iload_n 2, 1) := by decide +kernel
theorem D_TL_text_86 : decode cX11_text 86 = .ok (.iconst (1), 1) := by decide +kernel
theorem D_TL_text_87 : decode cX11_text 87 = .ok (.isub, 1) := by decide +kernel
theorem D_TL_text_88 : decode cX11_text 88 = .ok (.aload_n 0, 1) := by decide +kernel
theorem D_TL_text_89 : decode cX11_text 89 = .ok (.getfield 38, 3) := by decide +kernel
theorem D_TL_text_92 : decode cX11_text 92 = .ok (.iload_n 2, 1) := by decide +kernel
theorem D_TL_text_93 : decode cX11_text 93 = .ok (.iconst (1), 1) := by decide +kernel
theorem D_TL_text_94 : decode cX11_text 94 = .ok (.isub, 1) := by decide +kernel
theorem D_TL_text_95 : decode cX11_text 95 = .ok (.laload, 1) := by decide +kernel
theorem D_TL_text_96 : decode cX11_text 96 = .ok (.aload_n 0, 1) := by decide +kernel
theorem D_TL_text_97 : decode cX11_text 97 = .ok (.getfield 9, 3) := by decide +kernel
theorem D_TL_text_100 : decode cX11_text 100 = .ok (.iload 4, 2) := by decide +kernel
theorem D_TL_text_102 : decode cX11_text 102 = .ok (.iaload, 1) := by decide +kernel
theorem D_TL_text_103 : decode cX11_text 103 = .ok (.invokestatic 132, 3) := by decide +kernel
theorem D_TL_text_106 : decode cX11_text 106 = .ok (.lastore, 1) := by decide +kernel
theorem D_TL_text_107 : decode cX11_text 107 = .ok (.iinc 3 (1), 3) := by decide +kernel
theorem D_TL_text_110 : decode cX11_text 110 = .ok (.iinc 4 (1), 3) := by decide +kernel
theorem D_TL_text_113 : decode cX11_text 113 = .ok (.goto (-96), 3) := by decide +kernel
theorem D_TL_text_116 : decode cX11_text 116 = .ok (.aload_n 0, 1) := by decide +kernel
theorem D_TL_text_117 : decode cX11_text 117 = .ok (.aload_n 0, 1) := by decide +kernel
theorem D_TL_text_118 : decode cX11_text 118 = .ok (.getfield 38, 3) := by decide +kernel
theorem D_TL_text_121 : decode cX11_text 121 = .ok (.iload_n 2, 1) := by decide +kernel
theorem D_TL_text_122 : decode cX11_text 122 = .ok (.invokestatic 140, 3) := by decide +kernel
theorem D_TL_text_125 : decode cX11_text 125 = .ok (.putfield 34, 3) := by decide +kernel
theorem D_TL_text_128 : decode cX11_text 128 = .ok (.aload_n 0, 1) := by decide +kernel
theorem D_TL_text_129 : decode cX11_text 129 = .ok (.invokevirtual 115, 3) := by decide +kernel
theorem D_TL_text_132 : decode cX11_text 132 = .ok (.iload_n 2, 1) := by decide +kernel
theorem D_TL_text_133 : decode cX11_text 133 = .ok (.ireturn, 1) := by decide +kernel
def K_TL_text : SC := (cX11_text, "TwoLevels", 6, 3, false, [12, 21, 22], NoQ)
def d_TL_text : MD Int32 := mth tt 6 (sq (sI1 1 (eh1 (gI 12 1) (lR 0)))
 (sq (sh2 (pI false 12 1) (lR 0) (eC (nI 0)))
 (sq (sI1 2 (eC (nI 0)))
 (sq (sI1 3 (eC (nI 0)))
 (sq (sq (sI1 4 (eC (nI 0)))
 (loop (eh2 c_lt (lI 4) (lI 1))
 (sq (sIf (eh2 c_eq (eh2 (aI .int) (eh1 (gR 12 0) (lR 0)) (lI 4)) (eC (nI 32))) (sq (sI1 3 (eC (nI 0)))
 cnt) sk)
 (sq (sI1 5 (kS d_TL_faultInText [vI (eh2 (aI .int) (eh1 (gR 12 0) (lR 0)) (lI 4)), vI (lI 3), vI (lI 2)]))
 (sq (sIf (eh1 z_ne (lI 5)) (rtn (kS d_TL_refusal [vI (lI 4), vI (lI 5)])) sk)
 (sq (sIf (eh1 z_eq (lI 3)) (sq (sh3 (stJ [22]) (eh1 (gR 12 6) (lR 0)) (lI 2) (eC (lN 0)))
 (sInc 2 (nI 1))) sk)
 (sq (sh3 (stJ [22]) (eh1 (gR 12 6) (lR 0)) (eh2 isubF (lI 2) (eC (nI 1))) (kS d_Rows_add [vJ (eh2 aJ (eh1 (gR 12 6) (lR 0)) (eh2 isubF (lI 2) (eC (nI 1)))), vI (eh2 (aI .int) (eh1 (gR 12 0) (lR 0)) (lI 4))]))
 (sInc 3 (nI 1)))))))
 (sInc 4 (nI 1))))
 (sq (sh2 (pR 12 5) (lR 0) (kS (d_Arrays_copyOfJ 21) [vR (eh1 (gR 12 6) (lR 0)), vI (lI 2)]))
 (sq (sE (kV 12 d_TL_forget (lR 0) []))
 (rtn (lI 2)))))))))
theorem m_TL_text : MJ 3 [12, 21, 22] yX11_text (some .int) eI (d_TL_text) := MJ_of (K := K_TL_text) (ri := .ireturn) (n1 := 0) (n2 := 0) (n3 := 0)
 (SJ_sq (p0 := 0) (p1 := 5) (nN := 0) (nB := 0) (nC := 0) (SJ_istore_n (i := 1) (j := 1) (p0 := 0) (p1 := 4) (EJ_getI (t := 12) (c := 11) (kf := 1) (r := (RX11, TX11, 16)) (p0 := 0) (p1 := 1) (EJ_aload_n (j := 0) (i := 0) (pc := 0) D_TL_text_0 rfl) D_TL_text_1 ⟨rfl, rfl, by decide, q_256⟩ (fun _ _ => rfl)) D_TL_text_4 rfl)
 (SJ_sq (p0 := 5) (p1 := 10) (nN := 0) (nB := 0) (nC := 0) (SJ_putI (z := false) (t := 12) (c := 11) (kf := 1) (r := (RX11, TX11, 16)) (p0 := 5) (p1 := 6) (p2 := 7) (EJ_aload_n (j := 0) (i := 0) (pc := 5) D_TL_text_5 rfl) (EJ_iconst (n := 0) (v := (nI 0)) (pc := 6) D_TL_text_6 (by decide +kernel)) D_TL_text_7 ⟨rfl, rfl, by decide, q_256⟩ (Or.inl rfl) (fun _ _ => ⟨rfl, rfl⟩) (fun _ _ => rfl) (show (12 : Nat) ∈ ([12, 21, 22] : List Nat) from by decide))
 (SJ_sq (p0 := 10) (p1 := 12) (nN := 0) (nB := 0) (nC := 0) (SJ_istore_n (i := 2) (j := 2) (p0 := 10) (p1 := 11) (EJ_iconst (n := 0) (v := (nI 0)) (pc := 10) D_TL_text_10 (by decide +kernel)) D_TL_text_11 rfl)
 (SJ_sq (p0 := 12) (p1 := 14) (nN := 0) (nB := 0) (nC := 0) (SJ_istore_n (i := 3) (j := 3) (p0 := 12) (p1 := 13) (EJ_iconst (n := 0) (v := (nI 0)) (pc := 12) D_TL_text_12 (by decide +kernel)) D_TL_text_13 rfl)
 (SJ_sq (p0 := 14) (p1 := 116) (nN := 0) (nB := 0) (nC := 0) (SJ_sq (p0 := 14) (p1 := 17) (nN := 116) (nB := 0) (nC := 0) (SJ_istore (i := 4) (p0 := 14) (p1 := 15) (EJ_iconst (n := 0) (v := (nI 0)) (pc := 14) D_TL_text_14 (by decide +kernel)) D_TL_text_15)
 (SJ_loop (p0 := 17) (pB := 23) (pS := 110) (pE := 116) (CJ_lt' (off := 96) (tgt := 116) (p0 := 17) (p1 := 19) (p2 := 20) (EJ_iload (i := 4) (pc := 17) D_TL_text_17) (EJ_iload_n (j := 1) (i := 1) (pc := 19) D_TL_text_19 rfl) D_TL_text_20 rfl)
 (SJ_sq (p0 := 23) (p1 := 40) (nN := 110) (nB := 116) (nC := 110) (SJ_if (p0 := 23) (pT := 35) (pF := 40) (nN := 40) (nB := 116) (nC := 110) (CJ_eq' (off := 8) (tgt := 40) (p0 := 23) (p1 := 30) (p2 := 32) (EJ_iald (p0 := 23) (p1 := 27) (p2 := 29) (EJ_getR (t := 12) (c := 11) (kf := 0) (r := (RX11, TX11, 16)) (p0 := 23) (p1 := 24) (EJ_aload_n (j := 0) (i := 0) (pc := 23) D_TL_text_23 rfl) D_TL_text_24 ⟨rfl, rfl, by decide, q_255⟩ (fun _ _ => rfl)) (EJ_iload (i := 4) (pc := 27) D_TL_text_27) D_TL_text_29) (EJ_bipush (n := 32) (v := (nI 32)) (pc := 30) D_TL_text_30 (by decide +kernel)) D_TL_text_32 rfl) (SJ_sq (p0 := 35) (p1 := 110) (nN := 40) (nB := 116) (nC := 110) (SJ_post (SJ_istore_n (i := 3) (j := 3) (p0 := 35) (p1 := 36) (EJ_iconst (n := 0) (v := (nI 0)) (pc := 35) D_TL_text_35 (by decide +kernel)) D_TL_text_36 rfl) (Lead.goto (K := K_TL_text) (pc := 37) (tgt := 110) D_TL_text_37 rfl))
 SJ_cnt) SJ_sk)
 (SJ_sq (p0 := 40) (p1 := 54) (nN := 110) (nB := 116) (nC := 110) (SJ_istore (i := 5) (p0 := 40) (p1 := 52) (EJ_callS (p0 := 40) (p1 := 49) (AJ_I (p0 := 40) (p1 := 47) (p2 := 49) (EJ_iald (p0 := 40) (p1 := 44) (p2 := 46) (EJ_getR (t := 12) (c := 11) (kf := 0) (r := (RX11, TX11, 16)) (p0 := 40) (p1 := 41) (EJ_aload_n (j := 0) (i := 0) (pc := 40) D_TL_text_40 rfl) D_TL_text_41 ⟨rfl, rfl, by decide, q_255⟩ (fun _ _ => rfl)) (EJ_iload (i := 4) (pc := 44) D_TL_text_44) D_TL_text_46) (AJ_I (p0 := 47) (p1 := 48) (p2 := 49) (EJ_iload_n (j := 3) (i := 3) (pc := 47) D_TL_text_47 rfl) (AJ_I (p0 := 48) (p1 := 49) (p2 := 49) (EJ_iload_n (j := 2) (i := 2) (pc := 48) D_TL_text_48 rfl) AJ_nil))) m_TL_faultInText E1_I D_TL_text_49 q_535 q_536 q_91 ⟨by decide +kernel, by decide +kernel, by decide +kernel⟩ (by decide) (show 2 + 1 ≤ 3 from by decide) (fun _ h => absurd h List.not_mem_nil)) D_TL_text_52)
 (SJ_sq (p0 := 54) (p1 := 67) (nN := 110) (nB := 116) (nC := 110) (SJ_if (p0 := 54) (pT := 59) (pF := 67) (nN := 67) (nB := 116) (nC := 110) (CZ_ne' (off := 11) (tgt := 67) (p0 := 54) (p1 := 56) (EJ_iload (i := 5) (pc := 54) D_TL_text_54) D_TL_text_56 rfl) (SJ_ret (p0 := 59) (p1 := 66) (EJ_callS (p0 := 59) (p1 := 63) (AJ_I (p0 := 59) (p1 := 61) (p2 := 63) (EJ_iload (i := 4) (pc := 59) D_TL_text_59) (AJ_I (p0 := 61) (p1 := 63) (p2 := 63) (EJ_iload (i := 5) (pc := 61) D_TL_text_61) AJ_nil)) m_TL_refusal E1_I D_TL_text_63 q_525 q_526 q_91 ⟨by decide +kernel, by decide +kernel, by decide +kernel⟩ (by decide) (show 1 + 1 ≤ 3 from by decide) (fun _ h => absurd h List.not_mem_nil)) D_TL_text_66) SJ_sk)
 (SJ_sq (p0 := 67) (p1 := 81) (nN := 110) (nB := 116) (nC := 110) (SJ_if (p0 := 67) (pT := 71) (pF := 81) (nN := 81) (nB := 116) (nC := 110) (CZ_eq' (off := 13) (tgt := 81) (p0 := 67) (p1 := 68) (EJ_iload_n (j := 3) (i := 3) (pc := 67) D_TL_text_67 rfl) D_TL_text_68 rfl) (SJ_sq (p0 := 71) (p1 := 78) (nN := 81) (nB := 116) (nC := 110) (SJ_last (ws := [22]) (p0 := 71) (p1 := 75) (p2 := 76) (p3 := 77) (EJ_getR (t := 12) (c := 11) (kf := 6) (r := (RX11, TX11, 16)) (p0 := 71) (p1 := 72) (EJ_aload_n (j := 0) (i := 0) (pc := 71) D_TL_text_71 rfl) D_TL_text_72 ⟨rfl, rfl, by decide, q_261⟩ (fun _ _ => rfl)) (EJ_iload_n (j := 2) (i := 2) (pc := 75) D_TL_text_75 rfl) (EJ_lconst (n := 0) (v := (lN 0)) (pc := 76) D_TL_text_76 (by decide +kernel)) D_TL_text_77 (show ∀ x_ ∈ ([22] : List Nat), x_ ∈ ([12, 21, 22] : List Nat) from by decide))
 (SJ_iinc (i := 2) (n := 1) (v := (nI 1)) (pc := 78) D_TL_text_78 (by decide +kernel))) SJ_sk)
 (SJ_sq (p0 := 81) (p1 := 107) (nN := 110) (nB := 116) (nC := 110) (SJ_last (ws := [22]) (p0 := 81) (p1 := 85) (p2 := 88) (p3 := 106) (EJ_getR (t := 12) (c := 11) (kf := 6) (r := (RX11, TX11, 16)) (p0 := 81) (p1 := 82) (EJ_aload_n (j := 0) (i := 0) (pc := 81) D_TL_text_81 rfl) D_TL_text_82 ⟨rfl, rfl, by decide, q_261⟩ (fun _ _ => rfl)) (EJ_isub (p0 := 85) (p1 := 86) (p2 := 87) (EJ_iload_n (j := 2) (i := 2) (pc := 85) D_TL_text_85 rfl) (EJ_iconst (n := 1) (v := (nI 1)) (pc := 86) D_TL_text_86 (by decide +kernel)) D_TL_text_87) (EJ_callS (p0 := 88) (p1 := 103) (AJ_J (p0 := 88) (p1 := 96) (p2 := 103) (EJ_lald (p0 := 88) (p1 := 92) (p2 := 95) (EJ_getR (t := 12) (c := 11) (kf := 6) (r := (RX11, TX11, 16)) (p0 := 88) (p1 := 89) (EJ_aload_n (j := 0) (i := 0) (pc := 88) D_TL_text_88 rfl) D_TL_text_89 ⟨rfl, rfl, by decide, q_261⟩ (fun _ _ => rfl)) (EJ_isub (p0 := 92) (p1 := 93) (p2 := 94) (EJ_iload_n (j := 2) (i := 2) (pc := 92) D_TL_text_92 rfl) (EJ_iconst (n := 1) (v := (nI 1)) (pc := 93) D_TL_text_93 (by decide +kernel)) D_TL_text_94) D_TL_text_95) (AJ_I (p0 := 96) (p1 := 103) (p2 := 103) (EJ_iald (p0 := 96) (p1 := 100) (p2 := 102) (EJ_getR (t := 12) (c := 11) (kf := 0) (r := (RX11, TX11, 16)) (p0 := 96) (p1 := 97) (EJ_aload_n (j := 0) (i := 0) (pc := 96) D_TL_text_96 rfl) D_TL_text_97 ⟨rfl, rfl, by decide, q_255⟩ (fun _ _ => rfl)) (EJ_iload (i := 4) (pc := 100) D_TL_text_100) D_TL_text_102) AJ_nil)) m_Rows_add E1_J D_TL_text_103 q_528 q_529 q_104 ⟨by decide +kernel, by decide +kernel, by decide +kernel⟩ (by decide) (show 1 + 1 ≤ 3 from by decide) (fun _ h => absurd h List.not_mem_nil)) D_TL_text_106 (show ∀ x_ ∈ ([22] : List Nat), x_ ∈ ([12, 21, 22] : List Nat) from by decide))
 (SJ_iinc (i := 3) (n := 1) (v := (nI 1)) (pc := 107) D_TL_text_107 (by decide +kernel)))))))
 (SJ_post (SJ_iinc (i := 4) (n := 1) (v := (nI 1)) (pc := 110) D_TL_text_110 (by decide +kernel)) (Lead.goto (K := K_TL_text) (pc := 113) (tgt := 17) D_TL_text_113 rfl))))
 (SJ_sq (p0 := 116) (p1 := 128) (nN := 0) (nB := 0) (nC := 0) (SJ_putR (t := 12) (c := 11) (kf := 5) (r := (RX11, TX11, 16)) (p0 := 116) (p1 := 117) (p2 := 125) (EJ_aload_n (j := 0) (i := 0) (pc := 116) D_TL_text_116 rfl) (EJ_callS (p0 := 117) (p1 := 122) (AJ_R (p0 := 117) (p1 := 121) (p2 := 122) (EJ_getR (t := 12) (c := 11) (kf := 6) (r := (RX11, TX11, 16)) (p0 := 117) (p1 := 118) (EJ_aload_n (j := 0) (i := 0) (pc := 117) D_TL_text_117 rfl) D_TL_text_118 ⟨rfl, rfl, by decide, q_261⟩ (fun _ _ => rfl)) (AJ_I (p0 := 121) (p1 := 122) (p2 := 122) (EJ_iload_n (j := 2) (i := 2) (pc := 121) D_TL_text_121 rfl) AJ_nil)) (m_Arrays_copyOfJ 21 rfl) E1_R D_TL_text_122 q_538 q_539 q_100 ⟨by decide +kernel, by decide +kernel, by decide +kernel⟩ (by decide) (show 2 + 1 ≤ 3 from by decide) (show ∀ x_ ∈ ([21] : List Nat), x_ ∈ ([12, 21, 22] : List Nat) from by decide)) D_TL_text_125 ⟨rfl, rfl, by decide, q_260⟩ (Or.inl rfl) (Or.inr ⟨_, rfl⟩) (fun _ _ => rfl) (show (12 : Nat) ∈ ([12, 21, 22] : List Nat) from by decide))
 (SJ_sq (p0 := 128) (p1 := 132) (nN := 0) (nB := 0) (nC := 0) (SJ_void (p0 := 128) (p1 := 132) (EJ_callV (t := 12) (c := 11) (r := (RX11, TX11, 16)) (p0 := 128) (p1 := 129) (p2 := 129) (EJ_aload_n (j := 0) (i := 0) (pc := 128) D_TL_text_128 rfl) AJ_nil m_TL_forget E1_U D_TL_text_129 rfl rfl rfl q_515 q_516 q_14 q_91 ⟨by decide +kernel, by decide +kernel, by decide +kernel⟩ (by decide) (show 1 + 1 ≤ 3 from by decide) (show ∀ x_ ∈ ([12] : List Nat), x_ ∈ ([12, 21, 22] : List Nat) from by decide)))
 (SJ_ret (p0 := 132) (p1 := 133) (EJ_iload_n (j := 2) (i := 2) (pc := 132) D_TL_text_132 rfl) D_TL_text_133))))))))
 RTm_int q_534 (by decide +kernel) rfl (fun h => by cases h) (show 6 ≤ 40 from by decide) (fun _ => trivial)
theorem D_TL_undo_0 : decode cX11_undo 0 = .ok (.aload_n 0, 1) := by decide +kernel
theorem D_TL_undo_1 : decode cX11_undo 1 = .ok (.getfield 112, 3) := by decide +kernel
theorem D_TL_undo_4 : decode cX11_undo 4 = .ok (.ifCond .ne (5), 3) := by decide +kernel
theorem D_TL_undo_7 : decode cX11_undo 7 = .ok (.iconst (-1), 1) := by decide +kernel
theorem D_TL_undo_8 : decode cX11_undo 8 = .ok (.ireturn, 1) := by decide +kernel
theorem D_TL_undo_9 : decode cX11_undo 9 = .ok (.aload_n 0, 1) := by decide +kernel
theorem D_TL_undo_10 : decode cX11_undo 10 = .ok (.dup, 1) := by decide +kernel
theorem D_TL_undo_11 : decode cX11_undo 11 = .ok (.getfield 112, 3) := by decide +kernel
theorem D_TL_undo_14 : decode cX11_undo 14 = .ok (.iconst (1), 1) := by decide +kernel
theorem D_TL_undo_15 : decode cX11_undo 15 = .ok (.isub, 1) := by decide +kernel
theorem D_TL_undo_16 : decode cX11_undo 16 = .ok (.putfield 112, 3) := by decide +kernel
theorem D_TL_undo_19 : decode cX11_undo 19 = .ok (.aload_n 0, 1) := by decide +kernel
theorem D_TL_undo_20 : decode cX11_undo 20 = .ok (.getfield 41, 3) := by decide +kernel
theorem D_TL_undo_23 : decode cX11_undo 23 = .ok (.aload_n 0, 1) := by decide +kernel
theorem D_TL_undo_24 : decode cX11_undo 24 = .ok (.getfield 112, 3) := by decide +kernel
theorem D_TL_undo_27 : decode cX11_undo 27 = .ok (.aaload, 1) := by decide +kernel
theorem D_TL_undo_28 : decode cX11_undo 28 = .ok (.astore_n 1, 1) := by decide +kernel
theorem D_TL_undo_29 : decode cX11_undo 29 = .ok (.aload_n 1, 1) := by decide +kernel
theorem D_TL_undo_30 : decode cX11_undo 30 = .ok (.ifnull (8), 3) := by decide +kernel
theorem D_TL_undo_33 : decode cX11_undo 33 = .ok (.aload_n 0, 1) := by decide +kernel
theorem D_TL_undo_34 : decode cX11_undo 34 = .ok (.aload_n 1, 1) := by decide +kernel
theorem D_TL_undo_35 : decode cX11_undo 35 = .ok (.putfield 30, 3) := by decide +kernel
theorem D_TL_undo_38 : decode cX11_undo 38 = .ok (.aload_n 0, 1) := by decide +kernel
theorem D_TL_undo_39 : decode cX11_undo 39 = .ok (.invokevirtual 115, 3) := by decide +kernel
theorem D_TL_undo_42 : decode cX11_undo 42 = .ok (.aload_n 0, 1) := by decide +kernel
theorem D_TL_undo_43 : decode cX11_undo 43 = .ok (.getfield 112, 3) := by decide +kernel
theorem D_TL_undo_46 : decode cX11_undo 46 = .ok (.ireturn, 1) := by decide +kernel
def K_TL_undo : SC := (cX11_undo, "TwoLevels", 2, 2, false, [12], NoQ)
def d_TL_undo : MD Int32 := mth tt 2 (sq (sIf (eh1 z_eq (eh1 (gI 12 8) (lR 0))) (rtn (eC (-1))) sk)
 (sq (su2 (gI 12 8) (uF false 12 8 (fun x y => x - y)) (lR 0) (eC (nI 1)))
 (sq (sR1 1 (eh2 (aR (.object "TwoLevels$State")) (eh1 (gR 12 7) (lR 0)) (eh1 (gI 12 8) (lR 0))))
 (sq (sIf (eh1 n_non (lR 1)) (sh2 (pR 12 3) (lR 0) (lR 1)) sk)
 (sq (sE (kV 12 d_TL_forget (lR 0) []))
 (rtn (eh1 (gI 12 8) (lR 0))))))))
theorem m_TL_undo : MJ 2 [12] yX11_undo (some .int) eI (d_TL_undo) := MJ_of (K := K_TL_undo) (ri := .ireturn) (n1 := 0) (n2 := 0) (n3 := 0)
 (SJ_sq (p0 := 0) (p1 := 9) (nN := 0) (nB := 0) (nC := 0) (SJ_if (p0 := 0) (pT := 7) (pF := 9) (nN := 9) (nB := 0) (nC := 0) (CZ_eq' (off := 5) (tgt := 9) (p0 := 0) (p1 := 4) (EJ_getI (t := 12) (c := 11) (kf := 8) (r := (RX11, TX11, 16)) (p0 := 0) (p1 := 1) (EJ_aload_n (j := 0) (i := 0) (pc := 0) D_TL_undo_0 rfl) D_TL_undo_1 ⟨rfl, rfl, by decide, q_263⟩ (fun _ _ => rfl)) D_TL_undo_4 rfl) (SJ_ret (p0 := 7) (p1 := 8) (EJ_iconst (n := -1) (v := (-1)) (pc := 7) D_TL_undo_7 (by decide +kernel)) D_TL_undo_8) SJ_sk)
 (SJ_sq (p0 := 9) (p1 := 19) (nN := 0) (nB := 0) (nC := 0) (SJ_upF (z := false) (t := 12) (c := 11) (kf := 8) (r := (RX11, TX11, 16)) (f := (fun x y => x - y)) (p0 := 9) (p1 := 10) (p3 := 15) (EJ_aload_n (j := 0) (i := 0) (pc := 9) D_TL_undo_9 rfl) D_TL_undo_10 D_TL_undo_11 (EJ_iconst (n := 1) (v := (nI 1)) (pc := 14) D_TL_undo_14 (by decide +kernel)) (Op2_isub D_TL_undo_15) D_TL_undo_16 ⟨rfl, rfl, by decide, q_263⟩ ⟨rfl, rfl, by decide, q_263⟩ (Or.inl rfl) (fun _ _ => ⟨rfl, rfl⟩) (fun _ _ => rfl) (show (12 : Nat) ∈ ([12] : List Nat) from by decide))
 (SJ_sq (p0 := 19) (p1 := 29) (nN := 0) (nB := 0) (nC := 0) (SJ_astore_n (i := 1) (j := 1) (p0 := 19) (p1 := 28) (EJ_aald (p0 := 19) (p1 := 23) (p2 := 27) (EJ_getR (t := 12) (c := 11) (kf := 7) (r := (RX11, TX11, 16)) (p0 := 19) (p1 := 20) (EJ_aload_n (j := 0) (i := 0) (pc := 19) D_TL_undo_19 rfl) D_TL_undo_20 ⟨rfl, rfl, by decide, q_262⟩ (fun _ _ => rfl)) (EJ_getI (t := 12) (c := 11) (kf := 8) (r := (RX11, TX11, 16)) (p0 := 23) (p1 := 24) (EJ_aload_n (j := 0) (i := 0) (pc := 23) D_TL_undo_23 rfl) D_TL_undo_24 ⟨rfl, rfl, by decide, q_263⟩ (fun _ _ => rfl)) D_TL_undo_27 (Or.inl ⟨_, rfl⟩)) D_TL_undo_28 rfl)
 (SJ_sq (p0 := 29) (p1 := 38) (nN := 0) (nB := 0) (nC := 0) (SJ_if (p0 := 29) (pT := 33) (pF := 38) (nN := 38) (nB := 0) (nC := 0) (CN_non' (off := 8) (tgt := 38) (p0 := 29) (p1 := 30) (EJ_aload_n (j := 1) (i := 1) (pc := 29) D_TL_undo_29 rfl) D_TL_undo_30 rfl) (SJ_putR (t := 12) (c := 11) (kf := 3) (r := (RX11, TX11, 16)) (p0 := 33) (p1 := 34) (p2 := 35) (EJ_aload_n (j := 0) (i := 0) (pc := 33) D_TL_undo_33 rfl) (EJ_aload_n (j := 1) (i := 1) (pc := 34) D_TL_undo_34 rfl) D_TL_undo_35 ⟨rfl, rfl, by decide, q_258⟩ (Or.inl rfl) (Or.inl ⟨_, rfl⟩) (fun _ _ => rfl) (show (12 : Nat) ∈ ([12] : List Nat) from by decide)) SJ_sk)
 (SJ_sq (p0 := 38) (p1 := 42) (nN := 0) (nB := 0) (nC := 0) (SJ_void (p0 := 38) (p1 := 42) (EJ_callV (t := 12) (c := 11) (r := (RX11, TX11, 16)) (p0 := 38) (p1 := 39) (p2 := 39) (EJ_aload_n (j := 0) (i := 0) (pc := 38) D_TL_undo_38 rfl) AJ_nil m_TL_forget E1_U D_TL_undo_39 rfl rfl rfl q_515 q_516 q_14 q_91 ⟨by decide +kernel, by decide +kernel, by decide +kernel⟩ (by decide) (show 1 + 1 ≤ 2 from by decide) (show ∀ x_ ∈ ([12] : List Nat), x_ ∈ ([12] : List Nat) from by decide)))
 (SJ_ret (p0 := 42) (p1 := 46) (EJ_getI (t := 12) (c := 11) (kf := 8) (r := (RX11, TX11, 16)) (p0 := 42) (p1 := 43) (EJ_aload_n (j := 0) (i := 0) (pc := 42) D_TL_undo_42 rfl) D_TL_undo_43 ⟨rfl, rfl, by decide, q_263⟩ (fun _ _ => rfl)) D_TL_undo_46))))))
 RTm_int q_583 (by decide +kernel) rfl (fun h => by cases h) (show 2 ≤ 40 from by decide) (fun _ => trivial)
theorem D_TL_word_0 : decode cX11_word 0 = .ok (.aload_n 0, 1) := by decide +kernel
theorem D_TL_word_1 : decode cX11_word 1 = .ok (.getfield 30, 3) := by decide +kernel
theorem D_TL_word_4 : decode cX11_word 4 = .ok (.getfield 53, 3) := by decide +kernel
theorem D_TL_word_7 : decode cX11_word 7 = .ok (.iload_n 1, 1) := by decide +kernel
theorem D_TL_word_8 : decode cX11_word 8 = .ok (.invokevirtual 182, 3) := by decide +kernel
theorem D_TL_word_11 : decode cX11_word 11 = .ok (.istore 4, 2) := by decide +kernel
theorem D_TL_word_13 : decode cX11_word 13 = .ok (.iload 4, 2) := by decide +kernel
theorem D_TL_word_15 : decode cX11_word 15 = .ok (.iconst (-1), 1) := by decide +kernel
theorem D_TL_word_16 : decode cX11_word 16 = .ok (.if_icmp .eq (12), 3) := by decide +kernel
theorem D_TL_word_19 : decode cX11_word 19 = .ok (.iload_n 2, 1) := by decide +kernel
theorem D_TL_word_20 : decode cX11_word 20 = .ok (.ifCond .lt (8), 3) := by decide +kernel
theorem D_TL_word_23 : decode cX11_word 23 = .ok (.iload_n 3, 1) := by decide +kernel
theorem D_TL_word_24 : decode cX11_word 24 = .ok (.iconst (-1), 1) := by decide +kernel
theorem D_TL_word_25 : decode cX11_word 25 = .ok (.if_icmp .ge (5), 3) := by decide +kernel
theorem D_TL_word_28 : decode cX11_word 28 = .ok (.iconst (-1), 1) := by decide +kernel
theorem D_TL_word_29 : decode cX11_word 29 = .ok (.ireturn, 1) := by decide +kernel
theorem D_TL_word_30 : decode cX11_word 30 = .ok (.iload_n 2, 1) := by decide +kernel
theorem D_TL_word_31 : decode cX11_word 31 = .ok (.aload_n 0, 1) := by decide +kernel
theorem D_TL_word_32 : decode cX11_word 32 = .ok (.getfield 30, 3) := by decide +kernel
theorem D_TL_word_35 : decode cX11_word 35 = .ok (.getfield 53, 3) := by decide +kernel
theorem D_TL_word_38 : decode cX11_word 38 = .ok (.iload 4, 2) := by decide +kernel
theorem D_TL_word_40 : decode cX11_word 40 = .ok (.aload_n 0, 1) := by decide +kernel
theorem D_TL_word_41 : decode cX11_word 41 = .ok (.getfield 30, 3) := by decide +kernel
theorem D_TL_word_44 : decode cX11_word 44 = .ok (.getfield 105, 3) := by decide +kernel
theorem D_TL_word_47 : decode cX11_word 47 = .ok (.invokevirtual 189, 3) := by decide +kernel
theorem D_TL_word_50 : decode cX11_word 50 = .ok (.if_icmp .lt (6), 3) := by decide +kernel
theorem D_TL_word_53 : decode cX11_word 53 = .ok (.bipush (-2), 2) := by decide +kernel
theorem D_TL_word_55 : decode cX11_word 55 = .ok (.ireturn, 1) := by decide +kernel
theorem D_TL_word_56 : decode cX11_word 56 = .ok (.aload_n 0, 1) := by decide +kernel
theorem D_TL_word_57 : decode cX11_word 57 = .ok (.getfield 30, 3) := by decide +kernel
theorem D_TL_word_60 : decode cX11_word 60 = .ok (.getfield 53, 3) := by decide +kernel
theorem D_TL_word_63 : decode cX11_word 63 = .ok (.iload 4, 2) := by decide +kernel
theorem D_TL_word_65 : decode cX11_word 65 = .ok (.iload_n 2, 1) := by decide +kernel
theorem D_TL_word_66 : decode cX11_word 66 = .ok (.invokevirtual 199, 3) := by decide +kernel
theorem D_TL_word_69 : decode cX11_word 69 = .ok (.i2l, 1) := by decide +kernel
theorem D_TL_word_70 : decode cX11_word 70 = .ok (.iload_n 3, 1) := by decide +kernel
theorem D_TL_word_71 : decode cX11_word 71 = .ok (.bipush (-2), 2) := by decide +kernel
theorem D_TL_word_73 : decode cX11_word 73 = .ok (.invokestatic 202, 3) := by decide +kernel
theorem D_TL_word_76 : decode cX11_word 76 = .ok (.ireturn, 1) := by decide +kernel
def K_TL_word : SC := (cX11_word, "TwoLevels", 5, 5, false, [], NoQ)
def d_TL_word : MD Int32 := mth tt 5 (sq (sI1 4 (kV 11 d_Upper_slotOf (eh1 (gR 10 0) (eh1 (gR 12 3) (lR 0))) [vI (lI 1)]))
 (sq (sIf (cOr (cOr (eh2 c_eq (lI 4) (eC (-1))) (eh1 z_lt (lI 2))) (eh2 c_lt (lI 3) (eC (-1)))) (rtn (eC (-1))) sk)
 (sq (sIf (eh2 c_ge (lI 2) (kV 11 d_Upper_hasMany (eh1 (gR 10 0) (eh1 (gR 12 3) (lR 0))) [vI (lI 4), vI (eh1 (gI 10 3) (eh1 (gR 12 3) (lR 0)))])) (rtn (eC (-2))) sk)
 (rtn (kS d_TL_letterOrSize [vJ (eh1 i2lF (kV 11 d_Upper_hasWord (eh1 (gR 10 0) (eh1 (gR 12 3) (lR 0))) [vI (lI 4), vI (lI 2)])), vI (lI 3), vI (eC (-2))])))))
theorem m_TL_word : MJ 5 [] yX11_word (some .int) eI (d_TL_word) := MJ_of (K := K_TL_word) (ri := .ireturn) (n1 := 0) (n2 := 0) (n3 := 0)
 (SJ_sq (p0 := 0) (p1 := 13) (nN := 0) (nB := 0) (nC := 0) (SJ_istore (i := 4) (p0 := 0) (p1 := 11) (EJ_callV (t := 11) (c := 10) (r := (RX10, TX10, 7)) (p0 := 0) (p1 := 7) (p2 := 8) (EJ_getR (t := 10) (c := 9) (kf := 0) (r := (RX9, TX9, 4)) (p0 := 0) (p1 := 4) (EJ_getR (t := 12) (c := 11) (kf := 3) (r := (RX11, TX11, 16)) (p0 := 0) (p1 := 1) (EJ_aload_n (j := 0) (i := 0) (pc := 0) D_TL_word_0 rfl) D_TL_word_1 ⟨rfl, rfl, by decide, q_258⟩ (fun _ _ => rfl)) D_TL_word_4 ⟨rfl, rfl, by decide, q_174⟩ (fun _ _ => rfl)) (AJ_I (p0 := 7) (p1 := 8) (p2 := 8) (EJ_iload_n (j := 1) (i := 1) (pc := 7) D_TL_word_7 rfl) AJ_nil) m_Upper_slotOf E1_I D_TL_word_8 rfl rfl rfl q_624 q_625 q_626 q_93 ⟨by decide +kernel, by decide +kernel, by decide +kernel⟩ (by decide) (show 1 + 1 ≤ 5 from by decide) (fun _ h => absurd h List.not_mem_nil)) D_TL_word_11)
 (SJ_sq (p0 := 13) (p1 := 30) (nN := 0) (nB := 0) (nC := 0) (SJ_if (p0 := 13) (pT := 28) (pF := 30) (nN := 30) (nB := 0) (nC := 0) (CJ_or (p0 := 13) (pM := 23) (pT := 28) (pF := 30) (CJ_or (p0 := 13) (pM := 19) (pT := 28) (pF := 23) (CJ_eq (off := 12) (tgt := 28) (p0 := 13) (p1 := 15) (p2 := 16) (EJ_iload (i := 4) (pc := 13) D_TL_word_13) (EJ_iconst (n := -1) (v := (-1)) (pc := 15) D_TL_word_15 (by decide +kernel)) D_TL_word_16 rfl) (CZ_lt (off := 8) (tgt := 28) (p0 := 19) (p1 := 20) (EJ_iload_n (j := 2) (i := 2) (pc := 19) D_TL_word_19 rfl) D_TL_word_20 rfl)) (CJ_lt' (off := 5) (tgt := 30) (p0 := 23) (p1 := 24) (p2 := 25) (EJ_iload_n (j := 3) (i := 3) (pc := 23) D_TL_word_23 rfl) (EJ_iconst (n := -1) (v := (-1)) (pc := 24) D_TL_word_24 (by decide +kernel)) D_TL_word_25 rfl)) (SJ_ret (p0 := 28) (p1 := 29) (EJ_iconst (n := -1) (v := (-1)) (pc := 28) D_TL_word_28 (by decide +kernel)) D_TL_word_29) SJ_sk)
 (SJ_sq (p0 := 30) (p1 := 56) (nN := 0) (nB := 0) (nC := 0) (SJ_if (p0 := 30) (pT := 53) (pF := 56) (nN := 56) (nB := 0) (nC := 0) (CJ_ge' (off := 6) (tgt := 56) (p0 := 30) (p1 := 31) (p2 := 50) (EJ_iload_n (j := 2) (i := 2) (pc := 30) D_TL_word_30 rfl) (EJ_callV (t := 11) (c := 10) (r := (RX10, TX10, 7)) (p0 := 31) (p1 := 38) (p2 := 47) (EJ_getR (t := 10) (c := 9) (kf := 0) (r := (RX9, TX9, 4)) (p0 := 31) (p1 := 35) (EJ_getR (t := 12) (c := 11) (kf := 3) (r := (RX11, TX11, 16)) (p0 := 31) (p1 := 32) (EJ_aload_n (j := 0) (i := 0) (pc := 31) D_TL_word_31 rfl) D_TL_word_32 ⟨rfl, rfl, by decide, q_258⟩ (fun _ _ => rfl)) D_TL_word_35 ⟨rfl, rfl, by decide, q_174⟩ (fun _ _ => rfl)) (AJ_I (p0 := 38) (p1 := 40) (p2 := 47) (EJ_iload (i := 4) (pc := 38) D_TL_word_38) (AJ_I (p0 := 40) (p1 := 47) (p2 := 47) (EJ_getI (t := 10) (c := 9) (kf := 3) (r := (RX9, TX9, 4)) (p0 := 40) (p1 := 44) (EJ_getR (t := 12) (c := 11) (kf := 3) (r := (RX11, TX11, 16)) (p0 := 40) (p1 := 41) (EJ_aload_n (j := 0) (i := 0) (pc := 40) D_TL_word_40 rfl) D_TL_word_41 ⟨rfl, rfl, by decide, q_258⟩ (fun _ _ => rfl)) D_TL_word_44 ⟨rfl, rfl, by decide, q_182⟩ (fun _ _ => rfl)) AJ_nil)) m_Upper_hasMany E1_I D_TL_word_47 rfl rfl rfl q_632 q_633 q_634 q_93 ⟨by decide +kernel, by decide +kernel, by decide +kernel⟩ (by decide) (show 1 + 1 ≤ 5 from by decide) (fun _ h => absurd h List.not_mem_nil)) D_TL_word_50 rfl) (SJ_ret (p0 := 53) (p1 := 55) (EJ_bipush (n := -2) (v := (-2)) (pc := 53) D_TL_word_53 (by decide +kernel)) D_TL_word_55) SJ_sk)
 (SJ_ret (p0 := 56) (p1 := 76) (EJ_callS (p0 := 56) (p1 := 73) (AJ_J (p0 := 56) (p1 := 70) (p2 := 73) (EJ_i2l (p0 := 56) (p1 := 69) (EJ_callV (t := 11) (c := 10) (r := (RX10, TX10, 7)) (p0 := 56) (p1 := 63) (p2 := 66) (EJ_getR (t := 10) (c := 9) (kf := 0) (r := (RX9, TX9, 4)) (p0 := 56) (p1 := 60) (EJ_getR (t := 12) (c := 11) (kf := 3) (r := (RX11, TX11, 16)) (p0 := 56) (p1 := 57) (EJ_aload_n (j := 0) (i := 0) (pc := 56) D_TL_word_56 rfl) D_TL_word_57 ⟨rfl, rfl, by decide, q_258⟩ (fun _ _ => rfl)) D_TL_word_60 ⟨rfl, rfl, by decide, q_174⟩ (fun _ _ => rfl)) (AJ_I (p0 := 63) (p1 := 65) (p2 := 66) (EJ_iload (i := 4) (pc := 63) D_TL_word_63) (AJ_I (p0 := 65) (p1 := 66) (p2 := 66) (EJ_iload_n (j := 2) (i := 2) (pc := 65) D_TL_word_65 rfl) AJ_nil)) m_Upper_hasWord E1_I D_TL_word_66 rfl rfl rfl q_653 q_654 q_655 q_93 ⟨by decide +kernel, by decide +kernel, by decide +kernel⟩ (by decide) (show 1 + 1 ≤ 5 from by decide) (fun _ h => absurd h List.not_mem_nil)) D_TL_word_69) (AJ_I (p0 := 70) (p1 := 71) (p2 := 73) (EJ_iload_n (j := 3) (i := 3) (pc := 70) D_TL_word_70 rfl) (AJ_I (p0 := 71) (p1 := 73) (p2 := 73) (EJ_bipush (n := -2) (v := (-2)) (pc := 71) D_TL_word_71 (by decide +kernel)) AJ_nil))) m_TL_letterOrSize E1_I D_TL_word_73 q_657 q_658 q_91 ⟨by decide +kernel, by decide +kernel, by decide +kernel⟩ (by decide) (show 4 + 1 ≤ 5 from by decide) (fun _ h => absurd h List.not_mem_nil)) D_TL_word_76))))
 RTm_int q_652 (by decide +kernel) rfl (fun h => by cases h) (show 5 ≤ 40 from by decide) (fun _ => trivial)
theorem D_M_clears_0 : decode cX12_clears 0 = .ok (.iconst (0), 1) := by decide +kernel
theorem D_M_clears_1 : decode cX12_clears 1 = .ok (.istore_n 2, 1) := by decide +kernel
theorem D_M_clears_2 : decode cX12_clears 2 = .ok (.iload_n 2, 1) := by decide +kernel
theorem D_M_clears_3 : decode cX12_clears 3 = .ok (.bipush (6), 2) := by decide +kernel
theorem D_M_clears_5 : decode cX12_clears 5 = .ok (.if_icmp .ge (21), 3) := by decide +kernel
theorem D_M_clears_8 : decode cX12_clears 8 = .ok (.aload_n 0, 1) := by decide +kernel
theorem D_M_clears_9 : decode cX12_clears 9 = .ok (.getfield 69, 3) := by decide +kernel
theorem D_M_clears_12 : decode cX12_clears 12 = .ok (.bipush (6), 2) := by decide +kernel
theorem D_M_clears_14 : decode cX12_clears 14 = .ok (.iload_n 1, 1) := by decide +kernel
theorem D_M_clears_15 : decode cX12_clears 15 = .ok (.imul, 1) := by decide +kernel
theorem D_M_clears_16 : decode cX12_clears 16 = .ok (.iload_n 2, 1) := by decide +kernel
theorem D_M_clears_17 : decode cX12_clears 17 = .ok (.iadd, 1) := by decide +kernel
theorem D_M_clears_18 : decode cX12_clears 18 = .ok (.iconst (-1), 1) := by decide +kernel
theorem D_M_clears_19 : decode cX12_clears 19 = .ok (.iastore, 1) := by decide +kernel
theorem D_M_clears_20 : decode cX12_clears 20 = .ok (.iinc 2 (1), 3) := by decide +kernel
theorem D_M_clears_23 : decode cX12_clears 23 = .ok (.goto (-21), 3) := by decide +kernel
theorem D_M_clears_26 : decode cX12_clears 26 = .ok (.return_, 1) := by decide +kernel
def K_M_clears : SC := (cX12_clears, "TwoLevelsModel", 3, 1, false, [89], NoQ)
def d_M_clears : MD Unit := mth tt 3 (sq (sq (sI1 2 (eC (nI 0)))
 (loop (eh2 c_lt (lI 2) (eC (nI 6)))
 (sh3 (stI [89]) (eh1 (gR 13 27) (lR 0)) (eh2 iaddF (eh2 imulF (eC (nI 6)) (lI 1)) (lI 2)) (eC (-1)))
 (sInc 2 (nI 1))))
 rtnU)
theorem m_M_clears : MJ 1 [89] yX12_clears none eU (d_M_clears) := MJ_of (K := K_M_clears) (ri := .return_) (n1 := 0) (n2 := 0) (n3 := 0)
 (SJ_sq (p0 := 0) (p1 := 26) (nN := 0) (nB := 0) (nC := 0) (SJ_sq (p0 := 0) (p1 := 2) (nN := 26) (nB := 0) (nC := 0) (SJ_istore_n (i := 2) (j := 2) (p0 := 0) (p1 := 1) (EJ_iconst (n := 0) (v := (nI 0)) (pc := 0) D_M_clears_0 (by decide +kernel)) D_M_clears_1 rfl)
 (SJ_loop (p0 := 2) (pB := 8) (pS := 20) (pE := 26) (CJ_lt' (off := 21) (tgt := 26) (p0 := 2) (p1 := 3) (p2 := 5) (EJ_iload_n (j := 2) (i := 2) (pc := 2) D_M_clears_2 rfl) (EJ_bipush (n := 6) (v := (nI 6)) (pc := 3) D_M_clears_3 (by decide +kernel)) D_M_clears_5 rfl)
 (SJ_iast (ws := [89]) (p0 := 8) (p1 := 12) (p2 := 18) (p3 := 19) (EJ_getR (t := 13) (c := 12) (kf := 27) (r := (RX12, TX12, 52)) (p0 := 8) (p1 := 9) (EJ_aload_n (j := 0) (i := 0) (pc := 8) D_M_clears_8 rfl) D_M_clears_9 ⟨rfl, rfl, by decide, q_959⟩ (fun _ _ => rfl)) (EJ_iadd (p0 := 12) (p1 := 16) (p2 := 17) (EJ_imul (p0 := 12) (p1 := 14) (p2 := 15) (EJ_bipush (n := 6) (v := (nI 6)) (pc := 12) D_M_clears_12 (by decide +kernel)) (EJ_iload_n (j := 1) (i := 1) (pc := 14) D_M_clears_14 rfl) D_M_clears_15) (EJ_iload_n (j := 2) (i := 2) (pc := 16) D_M_clears_16 rfl) D_M_clears_17) (EJ_iconst (n := -1) (v := (-1)) (pc := 18) D_M_clears_18 (by decide +kernel)) D_M_clears_19 (show ∀ x_ ∈ ([89] : List Nat), x_ ∈ ([89] : List Nat) from by decide))
 (SJ_post (SJ_iinc (i := 2) (n := 1) (v := (nI 1)) (pc := 20) D_M_clears_20 (by decide +kernel)) (Lead.goto (K := K_M_clears) (pc := 23) (tgt := 2) D_M_clears_23 rfl))))
 (SJ_retU (pc := 26) D_M_clears_26))
 RTm_void q_1271 (by decide +kernel) rfl (fun h => by cases h) (show 3 ≤ 40 from by decide) (fun _ => trivial)
theorem D_M_has_0 : decode cX12_has 0 = .ok (.iload_n 0, 1) := by decide +kernel
theorem D_M_has_1 : decode cX12_has 1 = .ok (.iload_n 1, 1) := by decide +kernel
theorem D_M_has_2 : decode cX12_has 2 = .ok (.ishr, 1) := by decide +kernel
theorem D_M_has_3 : decode cX12_has 3 = .ok (.iconst (1), 1) := by decide +kernel
theorem D_M_has_4 : decode cX12_has 4 = .ok (.iand, 1) := by decide +kernel
theorem D_M_has_5 : decode cX12_has 5 = .ok (.iconst (1), 1) := by decide +kernel
theorem D_M_has_6 : decode cX12_has 6 = .ok (.if_icmp .ne (7), 3) := by decide +kernel
theorem D_M_has_9 : decode cX12_has 9 = .ok (.iconst (1), 1) := by decide +kernel
theorem D_M_has_10 : decode cX12_has 10 = .ok (.goto (4), 3) := by decide +kernel
theorem D_M_has_13 : decode cX12_has 13 = .ok (.iconst (0), 1) := by decide +kernel
theorem D_M_has_14 : decode cX12_has 14 = .ok (.ireturn, 1) := by decide +kernel
def K_M_has : SC := (cX12_has, "TwoLevelsModel", 2, 1, false, [], NoQ)
def d_M_has : MD Int32 := mth zz 2 (rtn (eIf (eh2 c_eq (eh2 iandF (eh2 ishrF (lI 0) (lI 1)) (eC (nI 1))) (eC (nI 1))) (eC (nI 1)) (eC (nI 0))))
theorem m_M_has : MJ 1 [] yX12_has (some .boolean) eI (d_M_has) := MJ_of (K := K_M_has) (ri := .ireturn) (n1 := 0) (n2 := 0) (n3 := 0)
 (SJ_ret (p0 := 0) (p1 := 14) (EJ_if (p0 := 0) (pT := 9) (pF := 13) (pE := 10) (p1 := 14) (CJ_eq' (off := 7) (tgt := 13) (p0 := 0) (p1 := 5) (p2 := 6) (EJ_iand (p0 := 0) (p1 := 3) (p2 := 4) (EJ_ishr (p0 := 0) (p1 := 1) (p2 := 2) (EJ_iload_n (j := 0) (i := 0) (pc := 0) D_M_has_0 rfl) (EJ_iload_n (j := 1) (i := 1) (pc := 1) D_M_has_1 rfl) D_M_has_2) (EJ_iconst (n := 1) (v := (nI 1)) (pc := 3) D_M_has_3 (by decide +kernel)) D_M_has_4) (EJ_iconst (n := 1) (v := (nI 1)) (pc := 5) D_M_has_5 (by decide +kernel)) D_M_has_6 rfl) (EJ_iconst (n := 1) (v := (nI 1)) (pc := 9) D_M_has_9 (by decide +kernel)) (Lead.goto (K := K_M_has) (pc := 10) (tgt := 14) D_M_has_10 rfl) (EJ_iconst (n := 0) (v := (nI 0)) (pc := 13) D_M_has_13 (by decide +kernel))) D_M_has_14)
 RTm_bool q_1190 (by decide +kernel) rfl (fun h => by cases h) (show 2 ≤ 40 from by decide) (fun _ => trivial)
theorem D_M_letterAt_0 : decode cX12_letterAt 0 = .ok (.aload_n 0, 1) := by decide +kernel
theorem D_M_letterAt_1 : decode cX12_letterAt 1 = .ok (.getfield 39, 3) := by decide +kernel
theorem D_M_letterAt_4 : decode cX12_letterAt 4 = .ok (.bipush (10), 2) := by decide +kernel
theorem D_M_letterAt_6 : decode cX12_letterAt 6 = .ok (.iload_n 1, 1) := by decide +kernel
theorem D_M_letterAt_7 : decode cX12_letterAt 7 = .ok (.imul, 1) := by decide +kernel
theorem D_M_letterAt_8 : decode cX12_letterAt 8 = .ok (.iload_n 2, 1) := by decide +kernel
theorem D_M_letterAt_9 : decode cX12_letterAt 9 = .ok (.iadd, 1) := by decide +kernel
theorem D_M_letterAt_10 : decode cX12_letterAt 10 = .ok (.iaload, 1) := by decide +kernel
theorem D_M_letterAt_11 : decode cX12_letterAt 11 = .ok (.ireturn, 1) := by decide +kernel
def K_M_letterAt : SC := (cX12_letterAt, "TwoLevelsModel", 3, 1, false, [], NoQ)
def d_M_letterAt : MD Int32 := mth tt 3 (rtn (eh2 (aI .int) (eh1 (gR 13 15) (lR 0)) (eh2 iaddF (eh2 imulF (eC (nI 10)) (lI 1)) (lI 2))))
theorem m_M_letterAt : MJ 1 [] yX12_letterAt (some .int) eI (d_M_letterAt) := MJ_of (K := K_M_letterAt) (ri := .ireturn) (n1 := 0) (n2 := 0) (n3 := 0)
 (SJ_ret (p0 := 0) (p1 := 11) (EJ_iald (p0 := 0) (p1 := 4) (p2 := 10) (EJ_getR (t := 13) (c := 12) (kf := 15) (r := (RX12, TX12, 52)) (p0 := 0) (p1 := 1) (EJ_aload_n (j := 0) (i := 0) (pc := 0) D_M_letterAt_0 rfl) D_M_letterAt_1 ⟨rfl, rfl, by decide, q_947⟩ (fun _ _ => rfl)) (EJ_iadd (p0 := 4) (p1 := 8) (p2 := 9) (EJ_imul (p0 := 4) (p1 := 6) (p2 := 7) (EJ_bipush (n := 10) (v := (nI 10)) (pc := 4) D_M_letterAt_4 (by decide +kernel)) (EJ_iload_n (j := 1) (i := 1) (pc := 6) D_M_letterAt_6 rfl) D_M_letterAt_7) (EJ_iload_n (j := 2) (i := 2) (pc := 8) D_M_letterAt_8 rfl) D_M_letterAt_9) D_M_letterAt_10) D_M_letterAt_11)
 RTm_int q_1193 (by decide +kernel) rfl (fun h => by cases h) (show 3 ≤ 40 from by decide) (fun _ => trivial)
theorem D_M_isAlike_0 : decode cX12_isAlike 0 = .ok (.iconst (0), 1) := by decide +kernel
theorem D_M_isAlike_1 : decode cX12_isAlike 1 = .ok (.istore 5, 2) := by decide +kernel
theorem D_M_isAlike_3 : decode cX12_isAlike 3 = .ok (.iload 5, 2) := by decide +kernel
theorem D_M_isAlike_5 : decode cX12_isAlike 5 = .ok (.iload 4, 2) := by decide +kernel
theorem D_M_isAlike_7 : decode cX12_isAlike 7 = .ok (.if_icmp .ge (32), 3) := by decide +kernel
theorem D_M_isAlike_10 : decode cX12_isAlike 10 = .ok (.aload_n 0, 1) := by decide +kernel
theorem D_M_isAlike_11 : decode cX12_isAlike 11 = .ok (.iload_n 1, 1) := by decide +kernel
theorem D_M_isAlike_12 : decode cX12_isAlike 12 = .ok (.iload_n 2, 1) := by decide +kernel
theorem D_M_isAlike_13 : decode cX12_isAlike 13 = .ok (.iload 5, 2) := by decide +kernel
theorem D_M_isAlike_15 : decode cX12_isAlike 15 = .ok (.iadd, 1) := by decide +kernel
theorem D_M_isAlike_16 : decode cX12_isAlike 16 = .ok (.invokevirtual 230, 3) := by decide +kernel
theorem D_M_isAlike_19 : decode cX12_isAlike 19 = .ok (.aload_n 0, 1) := by decide +kernel
theorem D_M_isAlike_20 : decode cX12_isAlike 20 = .ok (.iload_n 1, 1) := by decide +kernel
theorem D_M_isAlike_21 : decode cX12_isAlike 21 = .ok (.iload_n 3, 1) := by decide +kernel
theorem D_M_isAlike_22 : decode cX12_isAlike 22 = .ok (.iload 5, 2) := by decide +kernel
theorem D_M_isAlike_24 : decode cX12_isAlike 24 = .ok (.iadd, 1) := by decide +kernel
theorem D_M_isAlike_25 : decode cX12_isAlike 25 = .ok (.invokevirtual 230, 3) := by decide +kernel
theorem D_M_isAlike_28 : decode cX12_isAlike 28 = .ok (.if_icmp .eq (5), 3) := by decide +kernel
theorem D_M_isAlike_31 : decode cX12_isAlike 31 = .ok (.iconst (0), 1) := by decide +kernel
theorem D_M_isAlike_32 : decode cX12_isAlike 32 = .ok (.ireturn, 1) := by decide +kernel
theorem D_M_isAlike_33 : decode cX12_isAlike 33 = .ok (.iinc 5 (1), 3) := by decide +kernel
theorem D_M_isAlike_36 : decode cX12_isAlike 36 = .ok (.goto (-33), 3) := by decide +kernel
theorem D_M_isAlike_39 : decode cX12_isAlike 39 = .ok (.iconst (1), 1) := by decide +kernel
theorem D_M_isAlike_40 : decode cX12_isAlike 40 = .ok (.ireturn, 1) := by decide +kernel
def K_M_isAlike : SC := (cX12_isAlike, "TwoLevelsModel", 6, 2, false, [], NoQ)
def d_M_isAlike : MD Int32 := mth zz 6 (sq (sq (sI1 5 (eC (nI 0)))
 (loop (eh2 c_lt (lI 5) (lI 4))
 (sIf (eh2 c_ne (kV 13 d_M_letterAt (lR 0) [vI (lI 1), vI (eh2 iaddF (lI 2) (lI 5))]) (kV 13 d_M_letterAt (lR 0) [vI (lI 1), vI (eh2 iaddF (lI 3) (lI 5))])) (rtn (eC (nI 0))) sk)
 (sInc 5 (nI 1))))
 (rtn (eC (nI 1))))
theorem m_M_isAlike : MJ 2 [] yX12_isAlike (some .boolean) eI (d_M_isAlike) := MJ_of (K := K_M_isAlike) (ri := .ireturn) (n1 := 0) (n2 := 0) (n3 := 0)
 (SJ_sq (p0 := 0) (p1 := 39) (nN := 0) (nB := 0) (nC := 0) (SJ_sq (p0 := 0) (p1 := 3) (nN := 39) (nB := 0) (nC := 0) (SJ_istore (i := 5) (p0 := 0) (p1 := 1) (EJ_iconst (n := 0) (v := (nI 0)) (pc := 0) D_M_isAlike_0 (by decide +kernel)) D_M_isAlike_1)
 (SJ_loop (p0 := 3) (pB := 10) (pS := 33) (pE := 39) (CJ_lt' (off := 32) (tgt := 39) (p0 := 3) (p1 := 5) (p2 := 7) (EJ_iload (i := 5) (pc := 3) D_M_isAlike_3) (EJ_iload (i := 4) (pc := 5) D_M_isAlike_5) D_M_isAlike_7 rfl)
 (SJ_if (p0 := 10) (pT := 31) (pF := 33) (nN := 33) (nB := 39) (nC := 33) (CJ_ne' (off := 5) (tgt := 33) (p0 := 10) (p1 := 19) (p2 := 28) (EJ_callV (t := 13) (c := 12) (r := (RX12, TX12, 52)) (p0 := 10) (p1 := 11) (p2 := 16) (EJ_aload_n (j := 0) (i := 0) (pc := 10) D_M_isAlike_10 rfl) (AJ_I (p0 := 11) (p1 := 12) (p2 := 16) (EJ_iload_n (j := 1) (i := 1) (pc := 11) D_M_isAlike_11 rfl) (AJ_I (p0 := 12) (p1 := 16) (p2 := 16) (EJ_iadd (p0 := 12) (p1 := 13) (p2 := 15) (EJ_iload_n (j := 2) (i := 2) (pc := 12) D_M_isAlike_12 rfl) (EJ_iload (i := 5) (pc := 13) D_M_isAlike_13) D_M_isAlike_15) AJ_nil)) m_M_letterAt E1_I D_M_isAlike_16 rfl rfl rfl q_1191 q_1192 q_63 q_97 ⟨by decide +kernel, by decide +kernel, by decide +kernel⟩ (by decide) (show 1 + 1 ≤ 2 from by decide) (fun _ h => absurd h List.not_mem_nil)) (EJ_callV (t := 13) (c := 12) (r := (RX12, TX12, 52)) (p0 := 19) (p1 := 20) (p2 := 25) (EJ_aload_n (j := 0) (i := 0) (pc := 19) D_M_isAlike_19 rfl) (AJ_I (p0 := 20) (p1 := 21) (p2 := 25) (EJ_iload_n (j := 1) (i := 1) (pc := 20) D_M_isAlike_20 rfl) (AJ_I (p0 := 21) (p1 := 25) (p2 := 25) (EJ_iadd (p0 := 21) (p1 := 22) (p2 := 24) (EJ_iload_n (j := 3) (i := 3) (pc := 21) D_M_isAlike_21 rfl) (EJ_iload (i := 5) (pc := 22) D_M_isAlike_22) D_M_isAlike_24) AJ_nil)) m_M_letterAt E1_I D_M_isAlike_25 rfl rfl rfl q_1191 q_1192 q_63 q_97 ⟨by decide +kernel, by decide +kernel, by decide +kernel⟩ (by decide) (show 1 + 1 ≤ 2 from by decide) (fun _ h => absurd h List.not_mem_nil)) D_M_isAlike_28 rfl) (SJ_ret (p0 := 31) (p1 := 32) (EJ_iconst (n := 0) (v := (nI 0)) (pc := 31) D_M_isAlike_31 (by decide +kernel)) D_M_isAlike_32) SJ_sk)
 (SJ_post (SJ_iinc (i := 5) (n := 1) (v := (nI 1)) (pc := 33) D_M_isAlike_33 (by decide +kernel)) (Lead.goto (K := K_M_isAlike) (pc := 36) (tgt := 3) D_M_isAlike_36 rfl))))
 (SJ_ret (p0 := 39) (p1 := 40) (EJ_iconst (n := 1) (v := (nI 1)) (pc := 39) D_M_isAlike_39 (by decide +kernel)) D_M_isAlike_40))
 RTm_bool q_1277 (by decide +kernel) rfl (fun h => by cases h) (show 6 ≤ 40 from by decide) (fun _ => trivial)
theorem D_M_in_0 : decode cX12_in 0 = .ok (.iload_n 0, 1) := by decide +kernel
theorem D_M_in_1 : decode cX12_in 1 = .ok (.iload_n 1, 1) := by decide +kernel
theorem D_M_in_2 : decode cX12_in 2 = .ok (.if_icmp .lt (12), 3) := by decide +kernel
theorem D_M_in_5 : decode cX12_in 5 = .ok (.iload_n 0, 1) := by decide +kernel
theorem D_M_in_6 : decode cX12_in 6 = .ok (.iload_n 2, 1) := by decide +kernel
theorem D_M_in_7 : decode cX12_in 7 = .ok (.if_icmp .gt (7), 3) := by decide +kernel
theorem D_M_in_10 : decode cX12_in 10 = .ok (.iconst (1), 1) := by decide +kernel
theorem D_M_in_11 : decode cX12_in 11 = .ok (.goto (4), 3) := by decide +kernel
theorem D_M_in_14 : decode cX12_in 14 = .ok (.iconst (0), 1) := by decide +kernel
theorem D_M_in_15 : decode cX12_in 15 = .ok (.ireturn, 1) := by decide +kernel
def K_M_in : SC := (cX12_in, "TwoLevelsModel", 3, 1, false, [], NoQ)
def d_M_in : MD Int32 := mth zz 3 (rtn (eIf (cAnd (eh2 c_ge (lI 0) (lI 1)) (eh2 c_le (lI 0) (lI 2))) (eC (nI 1)) (eC (nI 0))))
theorem m_M_in : MJ 1 [] yX12_in (some .boolean) eI (d_M_in) := MJ_of (K := K_M_in) (ri := .ireturn) (n1 := 0) (n2 := 0) (n3 := 0)
 (SJ_ret (p0 := 0) (p1 := 15) (EJ_if (p0 := 0) (pT := 10) (pF := 14) (pE := 11) (p1 := 15) (CJ_and (p0 := 0) (pM := 5) (pT := 10) (pF := 14) (CJ_ge' (off := 12) (tgt := 14) (p0 := 0) (p1 := 1) (p2 := 2) (EJ_iload_n (j := 0) (i := 0) (pc := 0) D_M_in_0 rfl) (EJ_iload_n (j := 1) (i := 1) (pc := 1) D_M_in_1 rfl) D_M_in_2 rfl) (CJ_le' (off := 7) (tgt := 14) (p0 := 5) (p1 := 6) (p2 := 7) (EJ_iload_n (j := 0) (i := 0) (pc := 5) D_M_in_5 rfl) (EJ_iload_n (j := 2) (i := 2) (pc := 6) D_M_in_6 rfl) D_M_in_7 rfl)) (EJ_iconst (n := 1) (v := (nI 1)) (pc := 10) D_M_in_10 (by decide +kernel)) (Lead.goto (K := K_M_in) (pc := 11) (tgt := 15) D_M_in_11 rfl) (EJ_iconst (n := 0) (v := (nI 0)) (pc := 14) D_M_in_14 (by decide +kernel))) D_M_in_15)
 RTm_bool q_1073 (by decide +kernel) rfl (fun h => by cases h) (show 3 ≤ 40 from by decide) (fun _ => trivial)
theorem D_M_isSmall_0 : decode cX12_isSmall 0 = .ok (.iload_n 0, 1) := by decide +kernel
theorem D_M_isSmall_1 : decode cX12_isSmall 1 = .ok (.bipush (97), 2) := by decide +kernel
theorem D_M_isSmall_3 : decode cX12_isSmall 3 = .ok (.bipush (122), 2) := by decide +kernel
theorem D_M_isSmall_5 : decode cX12_isSmall 5 = .ok (.invokestatic 108, 3) := by decide +kernel
theorem D_M_isSmall_8 : decode cX12_isSmall 8 = .ok (.ireturn, 1) := by decide +kernel
def K_M_isSmall : SC := (cX12_isSmall, "TwoLevelsModel", 1, 2, false, [], NoQ)
def d_M_isSmall : MD Int32 := mth zz 1 (rtn (kS d_M_in [vI (lI 0), vI (eC (nI 97)), vI (eC (nI 122))]))
theorem m_M_isSmall : MJ 2 [] yX12_isSmall (some .boolean) eI (d_M_isSmall) := MJ_of (K := K_M_isSmall) (ri := .ireturn) (n1 := 0) (n2 := 0) (n3 := 0)
 (SJ_ret (p0 := 0) (p1 := 8) (EJ_callS (p0 := 0) (p1 := 5) (AJ_I (p0 := 0) (p1 := 1) (p2 := 5) (EJ_iload_n (j := 0) (i := 0) (pc := 0) D_M_isSmall_0 rfl) (AJ_I (p0 := 1) (p1 := 3) (p2 := 5) (EJ_bipush (n := 97) (v := (nI 97)) (pc := 1) D_M_isSmall_1 (by decide +kernel)) (AJ_I (p0 := 3) (p1 := 5) (p2 := 5) (EJ_bipush (n := 122) (v := (nI 122)) (pc := 3) D_M_isSmall_3 (by decide +kernel)) AJ_nil))) m_M_in E1_I D_M_isSmall_5 q_1071 q_1072 q_97 ⟨by decide +kernel, by decide +kernel, by decide +kernel⟩ (by decide) (show 1 + 1 ≤ 2 from by decide) (fun _ h => absurd h List.not_mem_nil)) D_M_isSmall_8)
 RTm_bool q_1070 (by decide +kernel) rfl (fun h => by cases h) (show 1 ≤ 40 from by decide) (fun _ => trivial)
theorem D_M_metaOf_0 : decode cX12_metaOf 0 = .ok (.iconst (0), 1) := by decide +kernel
theorem D_M_metaOf_1 : decode cX12_metaOf 1 = .ok (.istore_n 2, 1) := by decide +kernel
theorem D_M_metaOf_2 : decode cX12_metaOf 2 = .ok (.iload_n 2, 1) := by decide +kernel
theorem D_M_metaOf_3 : decode cX12_metaOf 3 = .ok (.aload_n 0, 1) := by decide +kernel
theorem D_M_metaOf_4 : decode cX12_metaOf 4 = .ok (.getfield 9, 3) := by decide +kernel
theorem D_M_metaOf_7 : decode cX12_metaOf 7 = .ok (.iconst (0), 1) := by decide +kernel
theorem D_M_metaOf_8 : decode cX12_metaOf 8 = .ok (.iaload, 1) := by decide +kernel
theorem D_M_metaOf_9 : decode cX12_metaOf 9 = .ok (.if_icmp .ge (26), 3) := by decide +kernel
theorem D_M_metaOf_12 : decode cX12_metaOf 12 = .ok (.aload_n 0, 1) := by decide +kernel
theorem D_M_metaOf_13 : decode cX12_metaOf 13 = .ok (.getfield 9, 3) := by decide +kernel
theorem D_M_metaOf_16 : decode cX12_metaOf 16 = .ok (.iconst (4), 1) := by decide +kernel
theorem D_M_metaOf_17 : decode cX12_metaOf 17 = .ok (.bipush (30), 2) := by decide +kernel
theorem D_M_metaOf_19 : decode cX12_metaOf 19 = .ok (.iload_n 2, 1) := by decide +kernel
theorem D_M_metaOf_20 : decode cX12_metaOf 20 = .ok (.imul, 1) := by decide +kernel
theorem D_M_metaOf_21 : decode cX12_metaOf 21 = .ok (.iadd, 1) := by decide +kernel
theorem D_M_metaOf_22 : decode cX12_metaOf 22 = .ok (.iaload, 1) := by decide +kernel
theorem D_M_metaOf_23 : decode cX12_metaOf 23 = .ok (.iload_n 1, 1) := by decide +kernel
theorem D_M_metaOf_24 : decode cX12_metaOf 24 = .ok (.if_icmp .ne (5), 3) := by decide +kernel
theorem D_M_metaOf_27 : decode cX12_metaOf 27 = .ok (.iload_n 2, 1) := by decide +kernel
theorem D_M_metaOf_28 : decode cX12_metaOf 28 = .ok (.ireturn, 1) := by decide +kernel
theorem D_M_metaOf_29 : decode cX12_metaOf 29 = .ok (.iinc 2 (1), 3) := by decide +kernel
theorem D_M_metaOf_32 : decode cX12_metaOf 32 = .ok (.goto (-30), 3) := by decide +kernel
theorem D_M_metaOf_35 : decode cX12_metaOf 35 = .ok (.iconst (-1), 1) := by decide +kernel
theorem D_M_metaOf_36 : decode cX12_metaOf 36 = .ok (.ireturn, 1) := by decide +kernel
def K_M_metaOf : SC := (cX12_metaOf, "TwoLevelsModel", 3, 1, false, [], NoQ)
def d_M_metaOf : MD Int32 := mth tt 3 (sq (sq (sI1 2 (eC (nI 0)))
 (loop (eh2 c_lt (lI 2) (eh2 (aI .int) (eh1 (gR 13 0) (lR 0)) (eC (nI 0))))
 (sIf (eh2 c_eq (eh2 (aI .int) (eh1 (gR 13 0) (lR 0)) (eh2 iaddF (eC (nI 4)) (eh2 imulF (eC (nI 30)) (lI 2)))) (lI 1)) (rtn (lI 2)) sk)
 (sInc 2 (nI 1))))
 (rtn (eC (-1))))
theorem m_M_metaOf : MJ 1 [] yX12_metaOf (some .int) eI (d_M_metaOf) := MJ_of (K := K_M_metaOf) (ri := .ireturn) (n1 := 0) (n2 := 0) (n3 := 0)
 (SJ_sq (p0 := 0) (p1 := 35) (nN := 0) (nB := 0) (nC := 0) (SJ_sq (p0 := 0) (p1 := 2) (nN := 35) (nB := 0) (nC := 0) (SJ_istore_n (i := 2) (j := 2) (p0 := 0) (p1 := 1) (EJ_iconst (n := 0) (v := (nI 0)) (pc := 0) D_M_metaOf_0 (by decide +kernel)) D_M_metaOf_1 rfl)
 (SJ_loop (p0 := 2) (pB := 12) (pS := 29) (pE := 35) (CJ_lt' (off := 26) (tgt := 35) (p0 := 2) (p1 := 3) (p2 := 9) (EJ_iload_n (j := 2) (i := 2) (pc := 2) D_M_metaOf_2 rfl) (EJ_iald (p0 := 3) (p1 := 7) (p2 := 8) (EJ_getR (t := 13) (c := 12) (kf := 0) (r := (RX12, TX12, 52)) (p0 := 3) (p1 := 4) (EJ_aload_n (j := 0) (i := 0) (pc := 3) D_M_metaOf_3 rfl) D_M_metaOf_4 ⟨rfl, rfl, by decide, q_932⟩ (fun _ _ => rfl)) (EJ_iconst (n := 0) (v := (nI 0)) (pc := 7) D_M_metaOf_7 (by decide +kernel)) D_M_metaOf_8) D_M_metaOf_9 rfl)
 (SJ_if (p0 := 12) (pT := 27) (pF := 29) (nN := 29) (nB := 35) (nC := 29) (CJ_eq' (off := 5) (tgt := 29) (p0 := 12) (p1 := 23) (p2 := 24) (EJ_iald (p0 := 12) (p1 := 16) (p2 := 22) (EJ_getR (t := 13) (c := 12) (kf := 0) (r := (RX12, TX12, 52)) (p0 := 12) (p1 := 13) (EJ_aload_n (j := 0) (i := 0) (pc := 12) D_M_metaOf_12 rfl) D_M_metaOf_13 ⟨rfl, rfl, by decide, q_932⟩ (fun _ _ => rfl)) (EJ_iadd (p0 := 16) (p1 := 17) (p2 := 21) (EJ_iconst (n := 4) (v := (nI 4)) (pc := 16) D_M_metaOf_16 (by decide +kernel)) (EJ_imul (p0 := 17) (p1 := 19) (p2 := 20) (EJ_bipush (n := 30) (v := (nI 30)) (pc := 17) D_M_metaOf_17 (by decide +kernel)) (EJ_iload_n (j := 2) (i := 2) (pc := 19) D_M_metaOf_19 rfl) D_M_metaOf_20) D_M_metaOf_21) D_M_metaOf_22) (EJ_iload_n (j := 1) (i := 1) (pc := 23) D_M_metaOf_23 rfl) D_M_metaOf_24 rfl) (SJ_ret (p0 := 27) (p1 := 28) (EJ_iload_n (j := 2) (i := 2) (pc := 27) D_M_metaOf_27 rfl) D_M_metaOf_28) SJ_sk)
 (SJ_post (SJ_iinc (i := 2) (n := 1) (v := (nI 1)) (pc := 29) D_M_metaOf_29 (by decide +kernel)) (Lead.goto (K := K_M_metaOf) (pc := 32) (tgt := 2) D_M_metaOf_32 rfl))))
 (SJ_ret (p0 := 35) (p1 := 36) (EJ_iconst (n := -1) (v := (-1)) (pc := 35) D_M_metaOf_35 (by decide +kernel)) D_M_metaOf_36))
 RTm_int q_1163 (by decide +kernel) rfl (fun h => by cases h) (show 3 ≤ 40 from by decide) (fun _ => trivial)
theorem D_M_ruleAt_0 : decode cX12_ruleAt 0 = .ok (.sipush (184), 3) := by decide +kernel
theorem D_M_ruleAt_3 : decode cX12_ruleAt 3 = .ok (.sipush (140), 3) := by decide +kernel
theorem D_M_ruleAt_6 : decode cX12_ruleAt 6 = .ok (.iload_n 0, 1) := by decide +kernel
theorem D_M_ruleAt_7 : decode cX12_ruleAt 7 = .ok (.imul, 1) := by decide +kernel
theorem D_M_ruleAt_8 : decode cX12_ruleAt 8 = .ok (.iadd, 1) := by decide +kernel
theorem D_M_ruleAt_9 : decode cX12_ruleAt 9 = .ok (.ireturn, 1) := by decide +kernel
def K_M_ruleAt : SC := (cX12_ruleAt, "TwoLevelsModel", 1, 1, false, [], NoQ)
def d_M_ruleAt : MD Int32 := mth tt 1 (rtn (eh2 iaddF (eC (nI 184)) (eh2 imulF (eC (nI 140)) (lI 0))))
theorem m_M_ruleAt : MJ 1 [] yX12_ruleAt (some .int) eI (d_M_ruleAt) := MJ_of (K := K_M_ruleAt) (ri := .ireturn) (n1 := 0) (n2 := 0) (n3 := 0)
 (SJ_ret (p0 := 0) (p1 := 9) (EJ_iadd (p0 := 0) (p1 := 3) (p2 := 8) (EJ_sipush (n := 184) (v := (nI 184)) (pc := 0) D_M_ruleAt_0 (by decide +kernel)) (EJ_imul (p0 := 3) (p1 := 6) (p2 := 7) (EJ_sipush (n := 140) (v := (nI 140)) (pc := 3) D_M_ruleAt_3 (by decide +kernel)) (EJ_iload_n (j := 0) (i := 0) (pc := 6) D_M_ruleAt_6 rfl) D_M_ruleAt_7) D_M_ruleAt_8) D_M_ruleAt_9)
 RTm_int q_1211 (by decide +kernel) rfl (fun h => by cases h) (show 1 ≤ 40 from by decide) (fun _ => trivial)
theorem D_M_spanAt_0 : decode cX12_spanAt 0 = .ok (.bipush (6), 2) := by decide +kernel
theorem D_M_spanAt_2 : decode cX12_spanAt 2 = .ok (.iload_n 0, 1) := by decide +kernel
theorem D_M_spanAt_3 : decode cX12_spanAt 3 = .ok (.imul, 1) := by decide +kernel
theorem D_M_spanAt_4 : decode cX12_spanAt 4 = .ok (.iload_n 1, 1) := by decide +kernel
theorem D_M_spanAt_5 : decode cX12_spanAt 5 = .ok (.iadd, 1) := by decide +kernel
theorem D_M_spanAt_6 : decode cX12_spanAt 6 = .ok (.bipush (11), 2) := by decide +kernel
theorem D_M_spanAt_8 : decode cX12_spanAt 8 = .ok (.imul, 1) := by decide +kernel
theorem D_M_spanAt_9 : decode cX12_spanAt 9 = .ok (.iload_n 2, 1) := by decide +kernel
theorem D_M_spanAt_10 : decode cX12_spanAt 10 = .ok (.iadd, 1) := by decide +kernel
theorem D_M_spanAt_11 : decode cX12_spanAt 11 = .ok (.ireturn, 1) := by decide +kernel
def K_M_spanAt : SC := (cX12_spanAt, "TwoLevelsModel", 3, 1, false, [], NoQ)
def d_M_spanAt : MD Int32 := mth tt 3 (rtn (eh2 iaddF (eh2 imulF (eh2 iaddF (eh2 imulF (eC (nI 6)) (lI 0)) (lI 1)) (eC (nI 11))) (lI 2)))
theorem m_M_spanAt : MJ 1 [] yX12_spanAt (some .int) eI (d_M_spanAt) := MJ_of (K := K_M_spanAt) (ri := .ireturn) (n1 := 0) (n2 := 0) (n3 := 0)
 (SJ_ret (p0 := 0) (p1 := 11) (EJ_iadd (p0 := 0) (p1 := 9) (p2 := 10) (EJ_imul (p0 := 0) (p1 := 6) (p2 := 8) (EJ_iadd (p0 := 0) (p1 := 4) (p2 := 5) (EJ_imul (p0 := 0) (p1 := 2) (p2 := 3) (EJ_bipush (n := 6) (v := (nI 6)) (pc := 0) D_M_spanAt_0 (by decide +kernel)) (EJ_iload_n (j := 0) (i := 0) (pc := 2) D_M_spanAt_2 rfl) D_M_spanAt_3) (EJ_iload_n (j := 1) (i := 1) (pc := 4) D_M_spanAt_4 rfl) D_M_spanAt_5) (EJ_bipush (n := 11) (v := (nI 11)) (pc := 6) D_M_spanAt_6 (by decide +kernel)) D_M_spanAt_8) (EJ_iload_n (j := 2) (i := 2) (pc := 9) D_M_spanAt_9 rfl) D_M_spanAt_10) D_M_spanAt_11)
 RTm_int q_1184 (by decide +kernel) rfl (fun h => by cases h) (show 3 ≤ 40 from by decide) (fun _ => trivial)
theorem D_M_counts_0 : decode cX12_counts 0 = .ok (.iload_n 2, 1) := by decide +kernel
theorem D_M_counts_1 : decode cX12_counts 1 = .ok (.aload_n 0, 1) := by decide +kernel
theorem D_M_counts_2 : decode cX12_counts 2 = .ok (.getfield 9, 3) := by decide +kernel
theorem D_M_counts_5 : decode cX12_counts 5 = .ok (.iload_n 1, 1) := by decide +kernel
theorem D_M_counts_6 : decode cX12_counts 6 = .ok (.invokestatic 255, 3) := by decide +kernel
theorem D_M_counts_9 : decode cX12_counts 9 = .ok (.iaload, 1) := by decide +kernel
theorem D_M_counts_10 : decode cX12_counts 10 = .ok (.if_icmp .le (87), 3) := by decide +kernel
theorem D_M_counts_13 : decode cX12_counts 13 = .ok (.iload_n 3, 1) := by decide +kernel
theorem D_M_counts_14 : decode cX12_counts 14 = .ok (.aload_n 0, 1) := by decide +kernel
theorem D_M_counts_15 : decode cX12_counts 15 = .ok (.getfield 42, 3) := by decide +kernel
theorem D_M_counts_18 : decode cX12_counts 18 = .ok (.bipush (13), 2) := by decide +kernel
theorem D_M_counts_20 : decode cX12_counts 20 = .ok (.iaload, 1) := by decide +kernel
theorem D_M_counts_21 : decode cX12_counts 21 = .ok (.if_icmp .ge (4), 3) := by decide +kernel
theorem D_M_counts_24 : decode cX12_counts 24 = .ok (.return_, 1) := by decide +kernel
theorem D_M_counts_25 : decode cX12_counts 25 = .ok (.iconst (0), 1) := by decide +kernel
theorem D_M_counts_26 : decode cX12_counts 26 = .ok (.istore 4, 2) := by decide +kernel
theorem D_M_counts_28 : decode cX12_counts 28 = .ok (.iload 4, 2) := by decide +kernel
theorem D_M_counts_30 : decode cX12_counts 30 = .ok (.bipush (6), 2) := by decide +kernel
theorem D_M_counts_32 : decode cX12_counts 32 = .ok (.if_icmp .ge (54), 3) := by decide +kernel
theorem D_M_counts_35 : decode cX12_counts 35 = .ok (.aload_n 0, 1) := by decide +kernel
theorem D_M_counts_36 : decode cX12_counts 36 = .ok (.getfield 300, 3) := by decide +kernel
theorem D_M_counts_39 : decode cX12_counts 39 = .ok (.aload_n 0, 1) := by decide +kernel
theorem D_M_counts_40 : decode cX12_counts 40 = .ok (.getfield 303, 3) := by decide +kernel
theorem D_M_counts_43 : decode cX12_counts 43 = .ok (.if_icmp .ne (43), 3) := by decide +kernel
theorem D_M_counts_46 : decode cX12_counts 46 = .ok (.aload_n 0, 1) := by decide +kernel
theorem D_M_counts_47 : decode cX12_counts 47 = .ok (.getfield 72, 3) := by decide +kernel
theorem D_M_counts_50 : decode cX12_counts 50 = .ok (.iload 4, 2) := by decide +kernel
theorem D_M_counts_52 : decode cX12_counts 52 = .ok (.aload_n 0, 1) := by decide +kernel
theorem D_M_counts_53 : decode cX12_counts 53 = .ok (.getfield 66, 3) := by decide +kernel
theorem D_M_counts_56 : decode cX12_counts 56 = .ok (.bipush (78), 2) := by decide +kernel
theorem D_M_counts_58 : decode cX12_counts 58 = .ok (.iload 4, 2) := by decide +kernel
theorem D_M_counts_60 : decode cX12_counts 60 = .ok (.iadd, 1) := by decide +kernel
theorem D_M_counts_61 : decode cX12_counts 61 = .ok (.iaload, 1) := by decide +kernel
theorem D_M_counts_62 : decode cX12_counts 62 = .ok (.iastore, 1) := by decide +kernel
theorem D_M_counts_63 : decode cX12_counts 63 = .ok (.aload_n 0, 1) := by decide +kernel
theorem D_M_counts_64 : decode cX12_counts 64 = .ok (.getfield 75, 3) := by decide +kernel
theorem D_M_counts_67 : decode cX12_counts 67 = .ok (.iload 4, 2) := by decide +kernel
theorem D_M_counts_69 : decode cX12_counts 69 = .ok (.aload_n 0, 1) := by decide +kernel
theorem D_M_counts_70 : decode cX12_counts 70 = .ok (.getfield 69, 3) := by decide +kernel
theorem D_M_counts_73 : decode cX12_counts 73 = .ok (.bipush (78), 2) := by decide +kernel
theorem D_M_counts_75 : decode cX12_counts 75 = .ok (.iload 4, 2) := by decide +kernel
theorem D_M_counts_77 : decode cX12_counts 77 = .ok (.iadd, 1) := by decide +kernel
theorem D_M_counts_78 : decode cX12_counts 78 = .ok (.iaload, 1) := by decide +kernel
theorem D_M_counts_79 : decode cX12_counts 79 = .ok (.iastore, 1) := by decide +kernel
theorem D_M_counts_80 : decode cX12_counts 80 = .ok (.iinc 4 (1), 3) := by decide +kernel
theorem D_M_counts_83 : decode cX12_counts 83 = .ok (.goto (-55), 3) := by decide +kernel
theorem D_M_counts_86 : decode cX12_counts 86 = .ok (.aload_n 0, 1) := by decide +kernel
theorem D_M_counts_87 : decode cX12_counts 87 = .ok (.dup, 1) := by decide +kernel
theorem D_M_counts_88 : decode cX12_counts 88 = .ok (.getfield 300, 3) := by decide +kernel
theorem D_M_counts_91 : decode cX12_counts 91 = .ok (.iconst (1), 1) := by decide +kernel
theorem D_M_counts_92 : decode cX12_counts 92 = .ok (.iadd, 1) := by decide +kernel
theorem D_M_counts_93 : decode cX12_counts 93 = .ok (.putfield 300, 3) := by decide +kernel
theorem D_M_counts_96 : decode cX12_counts 96 = .ok (.return_, 1) := by decide +kernel
theorem D_M_counts_97 : decode cX12_counts 97 = .ok (.aload_n 0, 1) := by decide +kernel
theorem D_M_counts_98 : decode cX12_counts 98 = .ok (.getfield 9, 3) := by decide +kernel
theorem D_M_counts_101 : decode cX12_counts 101 = .ok (.iload_n 1, 1) := by decide +kernel
theorem D_M_counts_102 : decode cX12_counts 102 = .ok (.invokestatic 255, 3) := by decide +kernel
theorem D_M_counts_105 : decode cX12_counts 105 = .ok (.iload_n 2, 1) := by decide +kernel
theorem D_M_counts_106 : decode cX12_counts 106 = .ok (.iadd, 1) := by decide +kernel
theorem D_M_counts_107 : decode cX12_counts 107 = .ok (.iaload, 1) := by decide +kernel
theorem D_M_counts_108 : decode cX12_counts 108 = .ok (.istore 4, 2) := by decide +kernel
theorem D_M_counts_110 : decode cX12_counts 110 = .ok (.iload 4, 2) := by decide +kernel
theorem D_M_counts_112 : decode cX12_counts 112 = .ok (.invokestatic 137, 3) := by decide +kernel
theorem D_M_counts_115 : decode cX12_counts 115 = .ok (.ifCond .eq (38), 3) := by decide +kernel
theorem D_M_counts_118 : decode cX12_counts 118 = .ok (.iload_n 3, 1) := by decide +kernel
theorem D_M_counts_119 : decode cX12_counts 119 = .ok (.aload_n 0, 1) := by decide +kernel
theorem D_M_counts_120 : decode cX12_counts 120 = .ok (.getfield 42, 3) := by decide +kernel
theorem D_M_counts_123 : decode cX12_counts 123 = .ok (.bipush (13), 2) := by decide +kernel
theorem D_M_counts_125 : decode cX12_counts 125 = .ok (.iaload, 1) := by decide +kernel
theorem D_M_counts_126 : decode cX12_counts 126 = .ok (.if_icmp .ge (26), 3) := by decide +kernel
theorem D_M_counts_129 : decode cX12_counts 129 = .ok (.aload_n 0, 1) := by decide +kernel
theorem D_M_counts_130 : decode cX12_counts 130 = .ok (.bipush (13), 2) := by decide +kernel
theorem D_M_counts_132 : decode cX12_counts 132 = .ok (.iload_n 3, 1) := by decide +kernel
theorem D_M_counts_133 : decode cX12_counts 133 = .ok (.invokevirtual 230, 3) := by decide +kernel
theorem D_M_counts_136 : decode cX12_counts 136 = .ok (.iload 4, 2) := by decide +kernel
theorem D_M_counts_138 : decode cX12_counts 138 = .ok (.if_icmp .ne (14), 3) := by decide +kernel
theorem D_M_counts_141 : decode cX12_counts 141 = .ok (.aload_n 0, 1) := by decide +kernel
theorem D_M_counts_142 : decode cX12_counts 142 = .ok (.iload_n 1, 1) := by decide +kernel
theorem D_M_counts_143 : decode cX12_counts 143 = .ok (.iload_n 2, 1) := by decide +kernel
theorem D_M_counts_144 : decode cX12_counts 144 = .ok (.iconst (1), 1) := by decide +kernel
theorem D_M_counts_145 : decode cX12_counts 145 = .ok (.iadd, 1) := by decide +kernel
theorem D_M_counts_146 : decode cX12_counts 146 = .ok (.iload_n 3, 1) := by decide +kernel
theorem D_M_counts_147 : decode cX12_counts 147 = .ok (.iconst (1), 1) := by decide +kernel
theorem D_M_counts_148 : decode cX12_counts 148 = .ok (.iadd, 1) := by decide +kernel
theorem D_M_counts_149 : decode cX12_counts 149 = .ok (.invokevirtual 306, 3) := by decide +kernel
theorem D_M_counts_152 : decode cX12_counts 152 = .ok (.return_, 1) := by decide +kernel
theorem D_M_counts_153 : decode cX12_counts 153 = .ok (.bipush (78), 2) := by decide +kernel
theorem D_M_counts_155 : decode cX12_counts 155 = .ok (.aload_n 0, 1) := by decide +kernel
theorem D_M_counts_156 : decode cX12_counts 156 = .ok (.iload 4, 2) := by decide +kernel
theorem D_M_counts_158 : decode cX12_counts 158 = .ok (.invokevirtual 220, 3) := by decide +kernel
theorem D_M_counts_161 : decode cX12_counts 161 = .ok (.iadd, 1) := by decide +kernel
theorem D_M_counts_162 : decode cX12_counts 162 = .ok (.istore 5, 2) := by decide +kernel
theorem D_M_counts_164 : decode cX12_counts 164 = .ok (.aload_n 0, 1) := by decide +kernel
theorem D_M_counts_165 : decode cX12_counts 165 = .ok (.getfield 69, 3) := by decide +kernel
theorem D_M_counts_168 : decode cX12_counts 168 = .ok (.iload 5, 2) := by decide +kernel
theorem D_M_counts_170 : decode cX12_counts 170 = .ok (.iaload, 1) := by decide +kernel
theorem D_M_counts_171 : decode cX12_counts 171 = .ok (.iconst (-1), 1) := by decide +kernel
theorem D_M_counts_172 : decode cX12_counts 172 = .ok (.if_icmp .eq (64), 3) := by decide +kernel
theorem D_M_counts_175 : decode cX12_counts 175 = .ok (.iload_n 3, 1) := by decide +kernel
theorem D_M_counts_176 : decode cX12_counts 176 = .ok (.aload_n 0, 1) := by decide +kernel
theorem D_M_counts_177 : decode cX12_counts 177 = .ok (.getfield 69, 3) := by decide +kernel
theorem D_M_counts_180 : decode cX12_counts 180 = .ok (.iload 5, 2) := by decide +kernel
theorem D_M_counts_182 : decode cX12_counts 182 = .ok (.iaload, 1) := by decide +kernel
theorem D_M_counts_183 : decode cX12_counts 183 = .ok (.iadd, 1) := by decide +kernel
theorem D_M_counts_184 : decode cX12_counts 184 = .ok (.aload_n 0, 1) := by decide +kernel
theorem D_M_counts_185 : decode cX12_counts 185 = .ok (.getfield 42, 3) := by decide +kernel
theorem D_M_counts_188 : decode cX12_counts 188 = .ok (.bipush (13), 2) := by decide +kernel
theorem D_M_counts_190 : decode cX12_counts 190 = .ok (.iaload, 1) := by decide +kernel
theorem D_M_counts_191 : decode cX12_counts 191 = .ok (.if_icmp .gt (44), 3) := by decide +kernel
theorem D_M_counts_194 : decode cX12_counts 194 = .ok (.aload_n 0, 1) := by decide +kernel
theorem D_M_counts_195 : decode cX12_counts 195 = .ok (.bipush (13), 2) := by decide +kernel
theorem D_M_counts_197 : decode cX12_counts 197 = .ok (.aload_n 0, 1) := by decide +kernel
theorem D_M_counts_198 : decode cX12_counts 198 = .ok (.getfield 66, 3) := by decide +kernel
theorem D_M_counts_201 : decode cX12_counts 201 = .ok (.iload 5, 2) := by decide +kernel
theorem D_M_counts_203 : decode cX12_counts 203 = .ok (.iaload, 1) := by decide +kernel
theorem D_M_counts_204 : decode cX12_counts 204 = .ok (.iload_n 3, 1) := by decide +kernel
theorem D_M_counts_205 : decode cX12_counts 205 = .ok (.aload_n 0, 1) := by decide +kernel
theorem D_M_counts_206 : decode cX12_counts 206 = .ok (.getfield 69, 3) := by decide +kernel
theorem D_M_counts_209 : decode cX12_counts 209 = .ok (.iload 5, 2) := by decide +kernel
theorem D_M_counts_211 : decode cX12_counts 211 = .ok (.iaload, 1) := by decide +kernel
theorem D_M_counts_212 : decode cX12_counts 212 = .ok (.invokevirtual 310, 3) := by decide +kernel
theorem D_M_counts_215 : decode cX12_counts 215 = .ok (.ifCond .eq (20), 3) := by decide +kernel
theorem D_M_counts_218 : decode cX12_counts 218 = .ok (.aload_n 0, 1) := by decide +kernel
theorem D_M_counts_219 : decode cX12_counts 219 = .ok (.iload_n 1, 1) := by decide +kernel
theorem D_M_counts_220 : decode cX12_counts 220 = .ok (.iload_n 2, 1) := by decide +kernel
theorem D_M_counts_221 : decode cX12_counts 221 = .ok (.iconst (1), 1) := by decide +kernel
theorem D_M_counts_222 : decode cX12_counts 222 = .ok (.iadd, 1) := by decide +kernel
theorem D_M_counts_223 : decode cX12_counts 223 = .ok (.iload_n 3, 1) := by decide +kernel
theorem D_M_counts_224 : decode cX12_counts 224 = .ok (.aload_n 0, 1) := by decide +kernel
theorem D_M_counts_225 : decode cX12_counts 225 = .ok (.getfield 69, 3) := by decide +kernel
theorem D_M_counts_228 : decode cX12_counts 228 = .ok (.iload 5, 2) := by decide +kernel
theorem D_M_counts_230 : decode cX12_counts 230 = .ok (.iaload, 1) := by decide +kernel
theorem D_M_counts_231 : decode cX12_counts 231 = .ok (.iadd, 1) := by decide +kernel
theorem D_M_counts_232 : decode cX12_counts 232 = .ok (.invokevirtual 306, 3) := by decide +kernel
theorem D_M_counts_235 : decode cX12_counts 235 = .ok (.return_, 1) := by decide +kernel
theorem D_M_counts_236 : decode cX12_counts 236 = .ok (.iconst (0), 1) := by decide +kernel
theorem D_M_counts_237 : decode cX12_counts 237 = .ok (.istore 6, 2) := by decide +kernel
theorem D_M_counts_239 : decode cX12_counts 239 = .ok (.iload_n 3, 1) := by decide +kernel
theorem D_M_counts_240 : decode cX12_counts 240 = .ok (.iload 6, 2) := by decide +kernel
theorem D_M_counts_242 : decode cX12_counts 242 = .ok (.iadd, 1) := by decide +kernel
theorem D_M_counts_243 : decode cX12_counts 243 = .ok (.aload_n 0, 1) := by decide +kernel
theorem D_M_counts_244 : decode cX12_counts 244 = .ok (.getfield 42, 3) := by decide +kernel
theorem D_M_counts_247 : decode cX12_counts 247 = .ok (.bipush (13), 2) := by decide +kernel
theorem D_M_counts_249 : decode cX12_counts 249 = .ok (.iaload, 1) := by decide +kernel
theorem D_M_counts_250 : decode cX12_counts 250 = .ok (.if_icmp .gt (65), 3) := by decide +kernel
theorem D_M_counts_253 : decode cX12_counts 253 = .ok (.aload_n 0, 1) := by decide +kernel
theorem D_M_counts_254 : decode cX12_counts 254 = .ok (.getfield 45, 3) := by decide +kernel
theorem D_M_counts_257 : decode cX12_counts 257 = .ok (.bipush (13), 2) := by decide +kernel
theorem D_M_counts_259 : decode cX12_counts 259 = .ok (.aload_n 0, 1) := by decide +kernel
theorem D_M_counts_260 : decode cX12_counts 260 = .ok (.iload 4, 2) := by decide +kernel
theorem D_M_counts_262 : decode cX12_counts 262 = .ok (.invokevirtual 220, 3) := by decide +kernel
theorem D_M_counts_265 : decode cX12_counts 265 = .ok (.iload_n 3, 1) := by decide +kernel
theorem D_M_counts_266 : decode cX12_counts 266 = .ok (.invokestatic 226, 3) := by decide +kernel
theorem D_M_counts_269 : decode cX12_counts 269 = .ok (.iaload, 1) := by decide +kernel
theorem D_M_counts_270 : decode cX12_counts 270 = .ok (.iload_n 3, 1) := by decide +kernel
theorem D_M_counts_271 : decode cX12_counts 271 = .ok (.iload 6, 2) := by decide +kernel
theorem D_M_counts_273 : decode cX12_counts 273 = .ok (.iadd, 1) := by decide +kernel
theorem D_M_counts_274 : decode cX12_counts 274 = .ok (.invokestatic 223, 3) := by decide +kernel
theorem D_M_counts_277 : decode cX12_counts 277 = .ok (.ifCond .eq (32), 3) := by decide +kernel
theorem D_M_counts_280 : decode cX12_counts 280 = .ok (.aload_n 0, 1) := by decide +kernel
theorem D_M_counts_281 : decode cX12_counts 281 = .ok (.getfield 66, 3) := by decide +kernel
theorem D_M_counts_284 : decode cX12_counts 284 = .ok (.iload 5, 2) := by decide +kernel
theorem D_M_counts_286 : decode cX12_counts 286 = .ok (.iload_n 3, 1) := by decide +kernel
theorem D_M_counts_287 : decode cX12_counts 287 = .ok (.iastore, 1) := by decide +kernel
theorem D_M_counts_288 : decode cX12_counts 288 = .ok (.aload_n 0, 1) := by decide +kernel
theorem D_M_counts_289 : decode cX12_counts 289 = .ok (.getfield 69, 3) := by decide +kernel
theorem D_M_counts_292 : decode cX12_counts 292 = .ok (.iload 5, 2) := by decide +kernel
theorem D_M_counts_294 : decode cX12_counts 294 = .ok (.iload 6, 2) := by decide +kernel
theorem D_M_counts_296 : decode cX12_counts 296 = .ok (.iastore, 1) := by decide +kernel
theorem D_M_counts_297 : decode cX12_counts 297 = .ok (.aload_n 0, 1) := by decide +kernel
theorem D_M_counts_298 : decode cX12_counts 298 = .ok (.iload_n 1, 1) := by decide +kernel
theorem D_M_counts_299 : decode cX12_counts 299 = .ok (.iload_n 2, 1) := by decide +kernel
theorem D_M_counts_300 : decode cX12_counts 300 = .ok (.iconst (1), 1) := by decide +kernel
theorem D_M_counts_301 : decode cX12_counts 301 = .ok (.iadd, 1) := by decide +kernel
theorem D_M_counts_302 : decode cX12_counts 302 = .ok (.iload_n 3, 1) := by decide +kernel
theorem D_M_counts_303 : decode cX12_counts 303 = .ok (.iload 6, 2) := by decide +kernel
theorem D_M_counts_305 : decode cX12_counts 305 = .ok (.iadd, 1) := by decide +kernel
theorem D_M_counts_306 : decode cX12_counts 306 = .ok (.invokevirtual 306, 3) := by decide +kernel
theorem D_M_counts_309 : decode cX12_counts 309 = .ok (.iinc 6 (1), 3) := by decide +kernel
theorem D_M_counts_312 : decode cX12_counts 312 = .ok (.goto (-73), 3) := by decide +kernel
theorem D_M_counts_315 : decode cX12_counts 315 = .ok (.aload_n 0, 1) := by decide +kernel
theorem D_M_counts_316 : decode cX12_counts 316 = .ok (.getfield 69, 3) := by decide +kernel
theorem D_M_counts_319 : decode cX12_counts 319 = .ok (.iload 5, 2) := by decide +kernel
theorem D_M_counts_321 : decode cX12_counts 321 = .ok (.iconst (-1), 1) := by decide +kernel
theorem D_M_counts_322 : decode cX12_counts 322 = .ok (.iastore, 1) := by decide +kernel
theorem D_M_counts_323 : decode cX12_counts 323 = .ok (.return_, 1) := by decide +kernel
def K_M_counts (n : Nat) : SC := (cX12_counts, "TwoLevelsModel", 7, 2 + n + 1, false, [13, 88, 89, 90, 91], NoQ)
def b_M_counts (R : Nat → MD Unit) : MD Unit := mth tt 7 (sq (sIf (eh2 c_gt (lI 2) (eh2 (aI .int) (eh1 (gR 13 0) (lR 0)) (kS d_M_ruleAt [vI (lI 1)]))) (sq (sIf (eh2 c_lt (lI 3) (eh2 (aI .int) (eh1 (gR 13 16) (lR 0)) (eC (nI 13)))) rtnU sk)
 (sq (sq (sI1 4 (eC (nI 0)))
 (loop (cAnd (eh2 c_lt (lI 4) (eC (nI 6))) (eh2 c_eq (eh1 (gI 13 28) (lR 0)) (eh1 (gI 13 29) (lR 0))))
 (sq (sh3 (stI [90]) (eh1 (gR 13 30) (lR 0)) (lI 4) (eh2 (aI .int) (eh1 (gR 13 26) (lR 0)) (eh2 iaddF (eC (nI 78)) (lI 4))))
 (sh3 (stI [91]) (eh1 (gR 13 31) (lR 0)) (lI 4) (eh2 (aI .int) (eh1 (gR 13 27) (lR 0)) (eh2 iaddF (eC (nI 78)) (lI 4)))))
 (sInc 4 (nI 1))))
 (sq (su2 (gI 13 28) (uF false 13 28 (fun x y => x + y)) (lR 0) (eC (nI 1)))
 rtnU))) sk)
 (sq (sI1 4 (eh2 (aI .int) (eh1 (gR 13 0) (lR 0)) (eh2 iaddF (kS d_M_ruleAt [vI (lI 1)]) (lI 2))))
 (sq (sIf (eh1 z_ne (kS d_M_isSmall [vI (lI 4)])) (sq (sIf (cAnd (eh2 c_lt (lI 3) (eh2 (aI .int) (eh1 (gR 13 16) (lR 0)) (eC (nI 13)))) (eh2 c_eq (kV 13 d_M_letterAt (lR 0) [vI (eC (nI 13)), vI (lI 3)]) (lI 4))) (sE (kV 13 (R 0) (lR 0) [vI (lI 1), vI (eh2 iaddF (lI 2) (eC (nI 1))), vI (eh2 iaddF (lI 3) (eC (nI 1)))])) sk)
 rtnU) sk)
 (sq (sI1 5 (eh2 iaddF (eC (nI 78)) (kV 13 d_M_metaOf (lR 0) [vI (lI 4)])))
 (sq (sIf (eh2 c_ne (eh2 (aI .int) (eh1 (gR 13 27) (lR 0)) (lI 5)) (eC (-1))) (sq (sIf (cAnd (eh2 c_le (eh2 iaddF (lI 3) (eh2 (aI .int) (eh1 (gR 13 27) (lR 0)) (lI 5))) (eh2 (aI .int) (eh1 (gR 13 16) (lR 0)) (eC (nI 13)))) (eh1 z_ne (kV 13 d_M_isAlike (lR 0) [vI (eC (nI 13)), vI (eh2 (aI .int) (eh1 (gR 13 26) (lR 0)) (lI 5)), vI (lI 3), vI (eh2 (aI .int) (eh1 (gR 13 27) (lR 0)) (lI 5))]))) (sE (kV 13 (R 0) (lR 0) [vI (lI 1), vI (eh2 iaddF (lI 2) (eC (nI 1))), vI (eh2 iaddF (lI 3) (eh2 (aI .int) (eh1 (gR 13 27) (lR 0)) (lI 5)))])) sk)
 rtnU) sk)
 (sq (sq (sI1 6 (eC (nI 0)))
 (loop (eh2 c_le (eh2 iaddF (lI 3) (lI 6)) (eh2 (aI .int) (eh1 (gR 13 16) (lR 0)) (eC (nI 13))))
 (sIf (eh1 z_ne (kS d_M_has [vI (eh2 (aI .int) (eh1 (gR 13 17) (lR 0)) (kS d_M_spanAt [vI (eC (nI 13)), vI (kV 13 d_M_metaOf (lR 0) [vI (lI 4)]), vI (lI 3)])), vI (eh2 iaddF (lI 3) (lI 6))])) (sq (sh3 (stI [88]) (eh1 (gR 13 26) (lR 0)) (lI 5) (lI 3))
 (sq (sh3 (stI [89]) (eh1 (gR 13 27) (lR 0)) (lI 5) (lI 6))
 (sE (kV 13 (R 0) (lR 0) [vI (lI 1), vI (eh2 iaddF (lI 2) (eC (nI 1))), vI (eh2 iaddF (lI 3) (lI 6))])))) sk)
 (sInc 6 (nI 1))))
 (sq (sh3 (stI [89]) (eh1 (gR 13 27) (lR 0)) (lI 5) (eC (-1)))
 rtnU)))))))
theorem s_M_counts (n : Nat) (R : Nat → MD Unit) (h0 : MJ (2 + n) [13, 88, 89, 90, 91] yX12_counts none eU (R 0)) : MJ (2 + n + 1) [13, 88, 89, 90, 91] yX12_counts none eU (b_M_counts R) := MJ_of (K := K_M_counts n) (ri := .return_) (n1 := 0) (n2 := 0) (n3 := 0)
 (SJ_sq (p0 := 0) (p1 := 97) (nN := 0) (nB := 0) (nC := 0) (SJ_if (p0 := 0) (pT := 13) (pF := 97) (nN := 97) (nB := 0) (nC := 0) (CJ_gt' (off := 87) (tgt := 97) (p0 := 0) (p1 := 1) (p2 := 10) (EJ_iload_n (j := 2) (i := 2) (pc := 0) D_M_counts_0 rfl) (EJ_iald (p0 := 1) (p1 := 5) (p2 := 9) (EJ_getR (t := 13) (c := 12) (kf := 0) (r := (RX12, TX12, 52)) (p0 := 1) (p1 := 2) (EJ_aload_n (j := 0) (i := 0) (pc := 1) D_M_counts_1 rfl) D_M_counts_2 ⟨rfl, rfl, by decide, q_932⟩ (fun _ _ => rfl)) (EJ_callS (p0 := 5) (p1 := 6) (AJ_I (p0 := 5) (p1 := 6) (p2 := 6) (EJ_iload_n (j := 1) (i := 1) (pc := 5) D_M_counts_5 rfl) AJ_nil) m_M_ruleAt E1_I D_M_counts_6 q_1209 q_1210 q_97 ⟨by decide +kernel, by decide +kernel, by decide +kernel⟩ (by decide) (show 1 + 1 ≤ 2 + n + 1 from by omega) (fun _ h => absurd h List.not_mem_nil)) D_M_counts_9) D_M_counts_10 rfl) (SJ_sq (p0 := 13) (p1 := 25) (nN := 97) (nB := 0) (nC := 0) (SJ_if (p0 := 13) (pT := 24) (pF := 25) (nN := 25) (nB := 0) (nC := 0) (CJ_lt' (off := 4) (tgt := 25) (p0 := 13) (p1 := 14) (p2 := 21) (EJ_iload_n (j := 3) (i := 3) (pc := 13) D_M_counts_13 rfl) (EJ_iald (p0 := 14) (p1 := 18) (p2 := 20) (EJ_getR (t := 13) (c := 12) (kf := 16) (r := (RX12, TX12, 52)) (p0 := 14) (p1 := 15) (EJ_aload_n (j := 0) (i := 0) (pc := 14) D_M_counts_14 rfl) D_M_counts_15 ⟨rfl, rfl, by decide, q_948⟩ (fun _ _ => rfl)) (EJ_bipush (n := 13) (v := (nI 13)) (pc := 18) D_M_counts_18 (by decide +kernel)) D_M_counts_20) D_M_counts_21 rfl) (SJ_retU (pc := 24) D_M_counts_24) SJ_sk)
 (SJ_sq (p0 := 25) (p1 := 86) (nN := 97) (nB := 0) (nC := 0) (SJ_sq (p0 := 25) (p1 := 28) (nN := 86) (nB := 0) (nC := 0) (SJ_istore (i := 4) (p0 := 25) (p1 := 26) (EJ_iconst (n := 0) (v := (nI 0)) (pc := 25) D_M_counts_25 (by decide +kernel)) D_M_counts_26)
 (SJ_loop (p0 := 28) (pB := 46) (pS := 80) (pE := 86) (CJ_and (p0 := 28) (pM := 35) (pT := 46) (pF := 86) (CJ_lt' (off := 54) (tgt := 86) (p0 := 28) (p1 := 30) (p2 := 32) (EJ_iload (i := 4) (pc := 28) D_M_counts_28) (EJ_bipush (n := 6) (v := (nI 6)) (pc := 30) D_M_counts_30 (by decide +kernel)) D_M_counts_32 rfl) (CJ_eq' (off := 43) (tgt := 86) (p0 := 35) (p1 := 39) (p2 := 43) (EJ_getI (t := 13) (c := 12) (kf := 28) (r := (RX12, TX12, 52)) (p0 := 35) (p1 := 36) (EJ_aload_n (j := 0) (i := 0) (pc := 35) D_M_counts_35 rfl) D_M_counts_36 ⟨rfl, rfl, by decide, q_960⟩ (fun _ _ => rfl)) (EJ_getI (t := 13) (c := 12) (kf := 29) (r := (RX12, TX12, 52)) (p0 := 39) (p1 := 40) (EJ_aload_n (j := 0) (i := 0) (pc := 39) D_M_counts_39 rfl) D_M_counts_40 ⟨rfl, rfl, by decide, q_961⟩ (fun _ _ => rfl)) D_M_counts_43 rfl))
 (SJ_sq (p0 := 46) (p1 := 63) (nN := 80) (nB := 86) (nC := 80) (SJ_iast (ws := [90]) (p0 := 46) (p1 := 50) (p2 := 52) (p3 := 62) (EJ_getR (t := 13) (c := 12) (kf := 30) (r := (RX12, TX12, 52)) (p0 := 46) (p1 := 47) (EJ_aload_n (j := 0) (i := 0) (pc := 46) D_M_counts_46 rfl) D_M_counts_47 ⟨rfl, rfl, by decide, q_962⟩ (fun _ _ => rfl)) (EJ_iload (i := 4) (pc := 50) D_M_counts_50) (EJ_iald (p0 := 52) (p1 := 56) (p2 := 61) (EJ_getR (t := 13) (c := 12) (kf := 26) (r := (RX12, TX12, 52)) (p0 := 52) (p1 := 53) (EJ_aload_n (j := 0) (i := 0) (pc := 52) D_M_counts_52 rfl) D_M_counts_53 ⟨rfl, rfl, by decide, q_958⟩ (fun _ _ => rfl)) (EJ_iadd (p0 := 56) (p1 := 58) (p2 := 60) (EJ_bipush (n := 78) (v := (nI 78)) (pc := 56) D_M_counts_56 (by decide +kernel)) (EJ_iload (i := 4) (pc := 58) D_M_counts_58) D_M_counts_60) D_M_counts_61) D_M_counts_62 (show ∀ x_ ∈ ([90] : List Nat), x_ ∈ ([13, 88, 89, 90, 91] : List Nat) from by decide))
 (SJ_iast (ws := [91]) (p0 := 63) (p1 := 67) (p2 := 69) (p3 := 79) (EJ_getR (t := 13) (c := 12) (kf := 31) (r := (RX12, TX12, 52)) (p0 := 63) (p1 := 64) (EJ_aload_n (j := 0) (i := 0) (pc := 63) D_M_counts_63 rfl) D_M_counts_64 ⟨rfl, rfl, by decide, q_963⟩ (fun _ _ => rfl)) (EJ_iload (i := 4) (pc := 67) D_M_counts_67) (EJ_iald (p0 := 69) (p1 := 73) (p2 := 78) (EJ_getR (t := 13) (c := 12) (kf := 27) (r := (RX12, TX12, 52)) (p0 := 69) (p1 := 70) (EJ_aload_n (j := 0) (i := 0) (pc := 69) D_M_counts_69 rfl) D_M_counts_70 ⟨rfl, rfl, by decide, q_959⟩ (fun _ _ => rfl)) (EJ_iadd (p0 := 73) (p1 := 75) (p2 := 77) (EJ_bipush (n := 78) (v := (nI 78)) (pc := 73) D_M_counts_73 (by decide +kernel)) (EJ_iload (i := 4) (pc := 75) D_M_counts_75) D_M_counts_77) D_M_counts_78) D_M_counts_79 (show ∀ x_ ∈ ([91] : List Nat), x_ ∈ ([13, 88, 89, 90, 91] : List Nat) from by decide)))
 (SJ_post (SJ_iinc (i := 4) (n := 1) (v := (nI 1)) (pc := 80) D_M_counts_80 (by decide +kernel)) (Lead.goto (K := (K_M_counts n)) (pc := 83) (tgt := 28) D_M_counts_83 rfl))))
 (SJ_sq (p0 := 86) (p1 := 96) (nN := 97) (nB := 0) (nC := 0) (SJ_upF (z := false) (t := 13) (c := 12) (kf := 28) (r := (RX12, TX12, 52)) (f := (fun x y => x + y)) (p0 := 86) (p1 := 87) (p3 := 92) (EJ_aload_n (j := 0) (i := 0) (pc := 86) D_M_counts_86 rfl) D_M_counts_87 D_M_counts_88 (EJ_iconst (n := 1) (v := (nI 1)) (pc := 91) D_M_counts_91 (by decide +kernel)) (Op2_iadd D_M_counts_92) D_M_counts_93 ⟨rfl, rfl, by decide, q_960⟩ ⟨rfl, rfl, by decide, q_960⟩ (Or.inl rfl) (fun _ _ => ⟨rfl, rfl⟩) (fun _ _ => rfl) (show (13 : Nat) ∈ ([13, 88, 89, 90, 91] : List Nat) from by decide))
 (SJ_retU (pc := 96) D_M_counts_96)))) SJ_sk)
 (SJ_sq (p0 := 97) (p1 := 110) (nN := 0) (nB := 0) (nC := 0) (SJ_istore (i := 4) (p0 := 97) (p1 := 108) (EJ_iald (p0 := 97) (p1 := 101) (p2 := 107) (EJ_getR (t := 13) (c := 12) (kf := 0) (r := (RX12, TX12, 52)) (p0 := 97) (p1 := 98) (EJ_aload_n (j := 0) (i := 0) (pc := 97) D_M_counts_97 rfl) D_M_counts_98 ⟨rfl, rfl, by decide, q_932⟩ (fun _ _ => rfl)) (EJ_iadd (p0 := 101) (p1 := 105) (p2 := 106) (EJ_callS (p0 := 101) (p1 := 102) (AJ_I (p0 := 101) (p1 := 102) (p2 := 102) (EJ_iload_n (j := 1) (i := 1) (pc := 101) D_M_counts_101 rfl) AJ_nil) m_M_ruleAt E1_I D_M_counts_102 q_1209 q_1210 q_97 ⟨by decide +kernel, by decide +kernel, by decide +kernel⟩ (by decide) (show 1 + 1 ≤ 2 + n + 1 from by omega) (fun _ h => absurd h List.not_mem_nil)) (EJ_iload_n (j := 2) (i := 2) (pc := 105) D_M_counts_105 rfl) D_M_counts_106) D_M_counts_107) D_M_counts_108)
 (SJ_sq (p0 := 110) (p1 := 153) (nN := 0) (nB := 0) (nC := 0) (SJ_if (p0 := 110) (pT := 118) (pF := 153) (nN := 153) (nB := 0) (nC := 0) (CZ_ne' (off := 38) (tgt := 153) (p0 := 110) (p1 := 115) (EJ_callS (p0 := 110) (p1 := 112) (AJ_I (p0 := 110) (p1 := 112) (p2 := 112) (EJ_iload (i := 4) (pc := 110) D_M_counts_110) AJ_nil) m_M_isSmall E1_I D_M_counts_112 q_1068 q_1069 q_97 ⟨by decide +kernel, by decide +kernel, by decide +kernel⟩ (by decide) (show 2 + 1 ≤ 2 + n + 1 from by omega) (fun _ h => absurd h List.not_mem_nil)) D_M_counts_115 rfl) (SJ_sq (p0 := 118) (p1 := 152) (nN := 153) (nB := 0) (nC := 0) (SJ_if (p0 := 118) (pT := 141) (pF := 152) (nN := 152) (nB := 0) (nC := 0) (CJ_and (p0 := 118) (pM := 129) (pT := 141) (pF := 152) (CJ_lt' (off := 26) (tgt := 152) (p0 := 118) (p1 := 119) (p2 := 126) (EJ_iload_n (j := 3) (i := 3) (pc := 118) D_M_counts_118 rfl) (EJ_iald (p0 := 119) (p1 := 123) (p2 := 125) (EJ_getR (t := 13) (c := 12) (kf := 16) (r := (RX12, TX12, 52)) (p0 := 119) (p1 := 120) (EJ_aload_n (j := 0) (i := 0) (pc := 119) D_M_counts_119 rfl) D_M_counts_120 ⟨rfl, rfl, by decide, q_948⟩ (fun _ _ => rfl)) (EJ_bipush (n := 13) (v := (nI 13)) (pc := 123) D_M_counts_123 (by decide +kernel)) D_M_counts_125) D_M_counts_126 rfl) (CJ_eq' (off := 14) (tgt := 152) (p0 := 129) (p1 := 136) (p2 := 138) (EJ_callV (t := 13) (c := 12) (r := (RX12, TX12, 52)) (p0 := 129) (p1 := 130) (p2 := 133) (EJ_aload_n (j := 0) (i := 0) (pc := 129) D_M_counts_129 rfl) (AJ_I (p0 := 130) (p1 := 132) (p2 := 133) (EJ_bipush (n := 13) (v := (nI 13)) (pc := 130) D_M_counts_130 (by decide +kernel)) (AJ_I (p0 := 132) (p1 := 133) (p2 := 133) (EJ_iload_n (j := 3) (i := 3) (pc := 132) D_M_counts_132 rfl) AJ_nil)) m_M_letterAt E1_I D_M_counts_133 rfl rfl rfl q_1191 q_1192 q_63 q_97 ⟨by decide +kernel, by decide +kernel, by decide +kernel⟩ (by decide) (show 1 + 1 ≤ 2 + n + 1 from by omega) (fun _ h => absurd h List.not_mem_nil)) (EJ_iload (i := 4) (pc := 136) D_M_counts_136) D_M_counts_138 rfl)) (SJ_void (p0 := 141) (p1 := 152) (EJ_callV (t := 13) (c := 12) (r := (RX12, TX12, 52)) (p0 := 141) (p1 := 142) (p2 := 149) (EJ_aload_n (j := 0) (i := 0) (pc := 141) D_M_counts_141 rfl) (AJ_I (p0 := 142) (p1 := 143) (p2 := 149) (EJ_iload_n (j := 1) (i := 1) (pc := 142) D_M_counts_142 rfl) (AJ_I (p0 := 143) (p1 := 146) (p2 := 149) (EJ_iadd (p0 := 143) (p1 := 144) (p2 := 145) (EJ_iload_n (j := 2) (i := 2) (pc := 143) D_M_counts_143 rfl) (EJ_iconst (n := 1) (v := (nI 1)) (pc := 144) D_M_counts_144 (by decide +kernel)) D_M_counts_145) (AJ_I (p0 := 146) (p1 := 149) (p2 := 149) (EJ_iadd (p0 := 146) (p1 := 147) (p2 := 148) (EJ_iload_n (j := 3) (i := 3) (pc := 146) D_M_counts_146 rfl) (EJ_iconst (n := 1) (v := (nI 1)) (pc := 147) D_M_counts_147 (by decide +kernel)) D_M_counts_148) AJ_nil))) h0 E1_U D_M_counts_149 rfl rfl rfl q_1272 q_1273 q_76 q_97 ⟨by decide +kernel, by decide +kernel, by decide +kernel⟩ (by decide) (Nat.le_refl _) (show ∀ x_ ∈ ([13, 88, 89, 90, 91] : List Nat), x_ ∈ ([13, 88, 89, 90, 91] : List Nat) from by decide))) SJ_sk)
 (SJ_retU (pc := 152) D_M_counts_152)) SJ_sk)
 (SJ_sq (p0 := 153) (p1 := 164) (nN := 0) (nB := 0) (nC := 0) (SJ_istore (i := 5) (p0 := 153) (p1 := 162) (EJ_iadd (p0 := 153) (p1 := 155) (p2 := 161) (EJ_bipush (n := 78) (v := (nI 78)) (pc := 153) D_M_counts_153 (by decide +kernel)) (EJ_callV (t := 13) (c := 12) (r := (RX12, TX12, 52)) (p0 := 155) (p1 := 156) (p2 := 158) (EJ_aload_n (j := 0) (i := 0) (pc := 155) D_M_counts_155 rfl) (AJ_I (p0 := 156) (p1 := 158) (p2 := 158) (EJ_iload (i := 4) (pc := 156) D_M_counts_156) AJ_nil) m_M_metaOf E1_I D_M_counts_158 rfl rfl rfl q_1161 q_1162 q_56 q_97 ⟨by decide +kernel, by decide +kernel, by decide +kernel⟩ (by decide) (show 1 + 1 ≤ 2 + n + 1 from by omega) (fun _ h => absurd h List.not_mem_nil)) D_M_counts_161) D_M_counts_162)
 (SJ_sq (p0 := 164) (p1 := 236) (nN := 0) (nB := 0) (nC := 0) (SJ_if (p0 := 164) (pT := 175) (pF := 236) (nN := 236) (nB := 0) (nC := 0) (CJ_ne' (off := 64) (tgt := 236) (p0 := 164) (p1 := 171) (p2 := 172) (EJ_iald (p0 := 164) (p1 := 168) (p2 := 170) (EJ_getR (t := 13) (c := 12) (kf := 27) (r := (RX12, TX12, 52)) (p0 := 164) (p1 := 165) (EJ_aload_n (j := 0) (i := 0) (pc := 164) D_M_counts_164 rfl) D_M_counts_165 ⟨rfl, rfl, by decide, q_959⟩ (fun _ _ => rfl)) (EJ_iload (i := 5) (pc := 168) D_M_counts_168) D_M_counts_170) (EJ_iconst (n := -1) (v := (-1)) (pc := 171) D_M_counts_171 (by decide +kernel)) D_M_counts_172 rfl) (SJ_sq (p0 := 175) (p1 := 235) (nN := 236) (nB := 0) (nC := 0) (SJ_if (p0 := 175) (pT := 218) (pF := 235) (nN := 235) (nB := 0) (nC := 0) (CJ_and (p0 := 175) (pM := 194) (pT := 218) (pF := 235) (CJ_le' (off := 44) (tgt := 235) (p0 := 175) (p1 := 184) (p2 := 191) (EJ_iadd (p0 := 175) (p1 := 176) (p2 := 183) (EJ_iload_n (j := 3) (i := 3) (pc := 175) D_M_counts_175 rfl) (EJ_iald (p0 := 176) (p1 := 180) (p2 := 182) (EJ_getR (t := 13) (c := 12) (kf := 27) (r := (RX12, TX12, 52)) (p0 := 176) (p1 := 177) (EJ_aload_n (j := 0) (i := 0) (pc := 176) D_M_counts_176 rfl) D_M_counts_177 ⟨rfl, rfl, by decide, q_959⟩ (fun _ _ => rfl)) (EJ_iload (i := 5) (pc := 180) D_M_counts_180) D_M_counts_182) D_M_counts_183) (EJ_iald (p0 := 184) (p1 := 188) (p2 := 190) (EJ_getR (t := 13) (c := 12) (kf := 16) (r := (RX12, TX12, 52)) (p0 := 184) (p1 := 185) (EJ_aload_n (j := 0) (i := 0) (pc := 184) D_M_counts_184 rfl) D_M_counts_185 ⟨rfl, rfl, by decide, q_948⟩ (fun _ _ => rfl)) (EJ_bipush (n := 13) (v := (nI 13)) (pc := 188) D_M_counts_188 (by decide +kernel)) D_M_counts_190) D_M_counts_191 rfl) (CZ_ne' (off := 20) (tgt := 235) (p0 := 194) (p1 := 215) (EJ_callV (t := 13) (c := 12) (r := (RX12, TX12, 52)) (p0 := 194) (p1 := 195) (p2 := 212) (EJ_aload_n (j := 0) (i := 0) (pc := 194) D_M_counts_194 rfl) (AJ_I (p0 := 195) (p1 := 197) (p2 := 212) (EJ_bipush (n := 13) (v := (nI 13)) (pc := 195) D_M_counts_195 (by decide +kernel)) (AJ_I (p0 := 197) (p1 := 204) (p2 := 212) (EJ_iald (p0 := 197) (p1 := 201) (p2 := 203) (EJ_getR (t := 13) (c := 12) (kf := 26) (r := (RX12, TX12, 52)) (p0 := 197) (p1 := 198) (EJ_aload_n (j := 0) (i := 0) (pc := 197) D_M_counts_197 rfl) D_M_counts_198 ⟨rfl, rfl, by decide, q_958⟩ (fun _ _ => rfl)) (EJ_iload (i := 5) (pc := 201) D_M_counts_201) D_M_counts_203) (AJ_I (p0 := 204) (p1 := 205) (p2 := 212) (EJ_iload_n (j := 3) (i := 3) (pc := 204) D_M_counts_204 rfl) (AJ_I (p0 := 205) (p1 := 212) (p2 := 212) (EJ_iald (p0 := 205) (p1 := 209) (p2 := 211) (EJ_getR (t := 13) (c := 12) (kf := 27) (r := (RX12, TX12, 52)) (p0 := 205) (p1 := 206) (EJ_aload_n (j := 0) (i := 0) (pc := 205) D_M_counts_205 rfl) D_M_counts_206 ⟨rfl, rfl, by decide, q_959⟩ (fun _ _ => rfl)) (EJ_iload (i := 5) (pc := 209) D_M_counts_209) D_M_counts_211) AJ_nil)))) m_M_isAlike E1_I D_M_counts_212 rfl rfl rfl q_1275 q_1276 q_77 q_97 ⟨by decide +kernel, by decide +kernel, by decide +kernel⟩ (by decide) (show 2 + 1 ≤ 2 + n + 1 from by omega) (fun _ h => absurd h List.not_mem_nil)) D_M_counts_215 rfl)) (SJ_void (p0 := 218) (p1 := 235) (EJ_callV (t := 13) (c := 12) (r := (RX12, TX12, 52)) (p0 := 218) (p1 := 219) (p2 := 232) (EJ_aload_n (j := 0) (i := 0) (pc := 218) D_M_counts_218 rfl) (AJ_I (p0 := 219) (p1 := 220) (p2 := 232) (EJ_iload_n (j := 1) (i := 1) (pc := 219) D_M_counts_219 rfl) (AJ_I (p0 := 220) (p1 := 223) (p2 := 232) (EJ_iadd (p0 := 220) (p1 := 221) (p2 := 222) (EJ_iload_n (j := 2) (i := 2) (pc := 220) D_M_counts_220 rfl) (EJ_iconst (n := 1) (v := (nI 1)) (pc := 221) D_M_counts_221 (by decide +kernel)) D_M_counts_222) (AJ_I (p0 := 223) (p1 := 232) (p2 := 232) (EJ_iadd (p0 := 223) (p1 := 224) (p2 := 231) (EJ_iload_n (j := 3) (i := 3) (pc := 223) D_M_counts_223 rfl) (EJ_iald (p0 := 224) (p1 := 228) (p2 := 230) (EJ_getR (t := 13) (c := 12) (kf := 27) (r := (RX12, TX12, 52)) (p0 := 224) (p1 := 225) (EJ_aload_n (j := 0) (i := 0) (pc := 224) D_M_counts_224 rfl) D_M_counts_225 ⟨rfl, rfl, by decide, q_959⟩ (fun _ _ => rfl)) (EJ_iload (i := 5) (pc := 228) D_M_counts_228) D_M_counts_230) D_M_counts_231) AJ_nil))) h0 E1_U D_M_counts_232 rfl rfl rfl q_1272 q_1273 q_76 q_97 ⟨by decide +kernel, by decide +kernel, by decide +kernel⟩ (by decide) (Nat.le_refl _) (show ∀ x_ ∈ ([13, 88, 89, 90, 91] : List Nat), x_ ∈ ([13, 88, 89, 90, 91] : List Nat) from by decide))) SJ_sk)
 (SJ_retU (pc := 235) D_M_counts_235)) SJ_sk)
 (SJ_sq (p0 := 236) (p1 := 315) (nN := 0) (nB := 0) (nC := 0) (SJ_sq (p0 := 236) (p1 := 239) (nN := 315) (nB := 0) (nC := 0) (SJ_istore (i := 6) (p0 := 236) (p1 := 237) (EJ_iconst (n := 0) (v := (nI 0)) (pc := 236) D_M_counts_236 (by decide +kernel)) D_M_counts_237)
 (SJ_loop (p0 := 239) (pB := 253) (pS := 309) (pE := 315) (CJ_le' (off := 65) (tgt := 315) (p0 := 239) (p1 := 243) (p2 := 250) (EJ_iadd (p0 := 239) (p1 := 240) (p2 := 242) (EJ_iload_n (j := 3) (i := 3) (pc := 239) D_M_counts_239 rfl) (EJ_iload (i := 6) (pc := 240) D_M_counts_240) D_M_counts_242) (EJ_iald (p0 := 243) (p1 := 247) (p2 := 249) (EJ_getR (t := 13) (c := 12) (kf := 16) (r := (RX12, TX12, 52)) (p0 := 243) (p1 := 244) (EJ_aload_n (j := 0) (i := 0) (pc := 243) D_M_counts_243 rfl) D_M_counts_244 ⟨rfl, rfl, by decide, q_948⟩ (fun _ _ => rfl)) (EJ_bipush (n := 13) (v := (nI 13)) (pc := 247) D_M_counts_247 (by decide +kernel)) D_M_counts_249) D_M_counts_250 rfl)
 (SJ_if (p0 := 253) (pT := 280) (pF := 309) (nN := 309) (nB := 315) (nC := 309) (CZ_ne' (off := 32) (tgt := 309) (p0 := 253) (p1 := 277) (EJ_callS (p0 := 253) (p1 := 274) (AJ_I (p0 := 253) (p1 := 270) (p2 := 274) (EJ_iald (p0 := 253) (p1 := 257) (p2 := 269) (EJ_getR (t := 13) (c := 12) (kf := 17) (r := (RX12, TX12, 52)) (p0 := 253) (p1 := 254) (EJ_aload_n (j := 0) (i := 0) (pc := 253) D_M_counts_253 rfl) D_M_counts_254 ⟨rfl, rfl, by decide, q_949⟩ (fun _ _ => rfl)) (EJ_callS (p0 := 257) (p1 := 266) (AJ_I (p0 := 257) (p1 := 259) (p2 := 266) (EJ_bipush (n := 13) (v := (nI 13)) (pc := 257) D_M_counts_257 (by decide +kernel)) (AJ_I (p0 := 259) (p1 := 265) (p2 := 266) (EJ_callV (t := 13) (c := 12) (r := (RX12, TX12, 52)) (p0 := 259) (p1 := 260) (p2 := 262) (EJ_aload_n (j := 0) (i := 0) (pc := 259) D_M_counts_259 rfl) (AJ_I (p0 := 260) (p1 := 262) (p2 := 262) (EJ_iload (i := 4) (pc := 260) D_M_counts_260) AJ_nil) m_M_metaOf E1_I D_M_counts_262 rfl rfl rfl q_1161 q_1162 q_56 q_97 ⟨by decide +kernel, by decide +kernel, by decide +kernel⟩ (by decide) (show 1 + 1 ≤ 2 + n + 1 from by omega) (fun _ h => absurd h List.not_mem_nil)) (AJ_I (p0 := 265) (p1 := 266) (p2 := 266) (EJ_iload_n (j := 3) (i := 3) (pc := 265) D_M_counts_265 rfl) AJ_nil))) m_M_spanAt E1_I D_M_counts_266 q_1182 q_1183 q_97 ⟨by decide +kernel, by decide +kernel, by decide +kernel⟩ (by decide) (show 1 + 1 ≤ 2 + n + 1 from by omega) (fun _ h => absurd h List.not_mem_nil)) D_M_counts_269) (AJ_I (p0 := 270) (p1 := 274) (p2 := 274) (EJ_iadd (p0 := 270) (p1 := 271) (p2 := 273) (EJ_iload_n (j := 3) (i := 3) (pc := 270) D_M_counts_270 rfl) (EJ_iload (i := 6) (pc := 271) D_M_counts_271) D_M_counts_273) AJ_nil)) m_M_has E1_I D_M_counts_274 q_1188 q_1189 q_97 ⟨by decide +kernel, by decide +kernel, by decide +kernel⟩ (by decide) (show 1 + 1 ≤ 2 + n + 1 from by omega) (fun _ h => absurd h List.not_mem_nil)) D_M_counts_277 rfl) (SJ_sq (p0 := 280) (p1 := 288) (nN := 309) (nB := 315) (nC := 309) (SJ_iast (ws := [88]) (p0 := 280) (p1 := 284) (p2 := 286) (p3 := 287) (EJ_getR (t := 13) (c := 12) (kf := 26) (r := (RX12, TX12, 52)) (p0 := 280) (p1 := 281) (EJ_aload_n (j := 0) (i := 0) (pc := 280) D_M_counts_280 rfl) D_M_counts_281 ⟨rfl, rfl, by decide, q_958⟩ (fun _ _ => rfl)) (EJ_iload (i := 5) (pc := 284) D_M_counts_284) (EJ_iload_n (j := 3) (i := 3) (pc := 286) D_M_counts_286 rfl) D_M_counts_287 (show ∀ x_ ∈ ([88] : List Nat), x_ ∈ ([13, 88, 89, 90, 91] : List Nat) from by decide))
 (SJ_sq (p0 := 288) (p1 := 297) (nN := 309) (nB := 315) (nC := 309) (SJ_iast (ws := [89]) (p0 := 288) (p1 := 292) (p2 := 294) (p3 := 296) (EJ_getR (t := 13) (c := 12) (kf := 27) (r := (RX12, TX12, 52)) (p0 := 288) (p1 := 289) (EJ_aload_n (j := 0) (i := 0) (pc := 288) D_M_counts_288 rfl) D_M_counts_289 ⟨rfl, rfl, by decide, q_959⟩ (fun _ _ => rfl)) (EJ_iload (i := 5) (pc := 292) D_M_counts_292) (EJ_iload (i := 6) (pc := 294) D_M_counts_294) D_M_counts_296 (show ∀ x_ ∈ ([89] : List Nat), x_ ∈ ([13, 88, 89, 90, 91] : List Nat) from by decide))
 (SJ_void (p0 := 297) (p1 := 309) (EJ_callV (t := 13) (c := 12) (r := (RX12, TX12, 52)) (p0 := 297) (p1 := 298) (p2 := 306) (EJ_aload_n (j := 0) (i := 0) (pc := 297) D_M_counts_297 rfl) (AJ_I (p0 := 298) (p1 := 299) (p2 := 306) (EJ_iload_n (j := 1) (i := 1) (pc := 298) D_M_counts_298 rfl) (AJ_I (p0 := 299) (p1 := 302) (p2 := 306) (EJ_iadd (p0 := 299) (p1 := 300) (p2 := 301) (EJ_iload_n (j := 2) (i := 2) (pc := 299) D_M_counts_299 rfl) (EJ_iconst (n := 1) (v := (nI 1)) (pc := 300) D_M_counts_300 (by decide +kernel)) D_M_counts_301) (AJ_I (p0 := 302) (p1 := 306) (p2 := 306) (EJ_iadd (p0 := 302) (p1 := 303) (p2 := 305) (EJ_iload_n (j := 3) (i := 3) (pc := 302) D_M_counts_302 rfl) (EJ_iload (i := 6) (pc := 303) D_M_counts_303) D_M_counts_305) AJ_nil))) h0 E1_U D_M_counts_306 rfl rfl rfl q_1272 q_1273 q_76 q_97 ⟨by decide +kernel, by decide +kernel, by decide +kernel⟩ (by decide) (Nat.le_refl _) (show ∀ x_ ∈ ([13, 88, 89, 90, 91] : List Nat), x_ ∈ ([13, 88, 89, 90, 91] : List Nat) from by decide))))) SJ_sk)
 (SJ_post (SJ_iinc (i := 6) (n := 1) (v := (nI 1)) (pc := 309) D_M_counts_309 (by decide +kernel)) (Lead.goto (K := (K_M_counts n)) (pc := 312) (tgt := 239) D_M_counts_312 rfl))))
 (SJ_sq (p0 := 315) (p1 := 323) (nN := 0) (nB := 0) (nC := 0) (SJ_iast (ws := [89]) (p0 := 315) (p1 := 319) (p2 := 321) (p3 := 322) (EJ_getR (t := 13) (c := 12) (kf := 27) (r := (RX12, TX12, 52)) (p0 := 315) (p1 := 316) (EJ_aload_n (j := 0) (i := 0) (pc := 315) D_M_counts_315 rfl) D_M_counts_316 ⟨rfl, rfl, by decide, q_959⟩ (fun _ _ => rfl)) (EJ_iload (i := 5) (pc := 319) D_M_counts_319) (EJ_iconst (n := -1) (v := (-1)) (pc := 321) D_M_counts_321 (by decide +kernel)) D_M_counts_322 (show ∀ x_ ∈ ([89] : List Nat), x_ ∈ ([13, 88, 89, 90, 91] : List Nat) from by decide))
 (SJ_retU (pc := 323) D_M_counts_323))))))))
 RTm_void q_1274 (by decide +kernel) rfl (fun h => by cases h) (show 7 ≤ 40 from by decide) (fun _ => trivial)
def R_M_counts : Nat → Nat → MD Unit
  | 0 => fun _ _ _ => none
  | n + 1 => fun _ => b_M_counts (R_M_counts n)
theorem g_M_counts : ∀ n, MJ (2 + n) [13, 88, 89, 90, 91] yX12_counts none eU (R_M_counts n 0) := by
  intro n
  induction n with
  | zero => exact MJ_none q_1274 (by decide)
  | succ n ih => exact s_M_counts n (R_M_counts n) ih
def d_M_counts : MD Unit := R_M_counts 200 0
theorem m_M_counts : MJ 202 [13, 88, 89, 90, 91] yX12_counts none eU d_M_counts := g_M_counts 200
