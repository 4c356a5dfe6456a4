/-! the program: part 5 -/
theorem D_Search_run_0 : decode cX7_run 0 = .ok (.aload_n 0, 1) := by decide +kernel
theorem D_Search_run_1 : decode cX7_run 1 = .ok (.aload_n 1, 1) := by decide +kernel
theorem D_Search_run_2 : decode cX7_run 2 = .ok (.putfield 21, 3) := by decide +kernel
theorem D_Search_run_5 : decode cX7_run 5 = .ok (.aload_n 0, 1) := by decide +kernel
theorem D_Search_run_6 : decode cX7_run 6 = .ok (.iload_n 2, 1) := by decide +kernel
theorem D_Search_run_7 : decode cX7_run 7 = .ok (.aload_n 0, 1) := by decide +kernel
theorem D_Search_run_8 : decode cX7_run 8 = .ok (.getfield 25, 3) := by decide +kernel
theorem D_Search_run_11 : decode cX7_run 11 = .ok (.arraylength, 1) := by decide +kernel
theorem D_Search_run_12 : decode cX7_run 12 = .ok (.invokestatic 29, 3) := by decide +kernel
theorem D_Search_run_15 : decode cX7_run 15 = .ok (.putfield 35, 3) := by decide +kernel
theorem D_Search_run_18 : decode cX7_run 18 = .ok (.aload_n 0, 1) := by decide +kernel
theorem D_Search_run_19 : decode cX7_run 19 = .ok (.aload 5, 2) := by decide +kernel
theorem D_Search_run_21 : decode cX7_run 21 = .ok (.putfield 9, 3) := by decide +kernel
theorem D_Search_run_24 : decode cX7_run 24 = .ok (.aload_n 0, 1) := by decide +kernel
theorem D_Search_run_25 : decode cX7_run 25 = .ok (.iconst (0), 1) := by decide +kernel
theorem D_Search_run_26 : decode cX7_run 26 = .ok (.putfield 39, 3) := by decide +kernel
theorem D_Search_run_29 : decode cX7_run 29 = .ok (.aload_n 0, 1) := by decide +kernel
theorem D_Search_run_30 : decode cX7_run 30 = .ok (.iconst (0), 1) := by decide +kernel
theorem D_Search_run_31 : decode cX7_run 31 = .ok (.putfield 43, 3) := by decide +kernel
theorem D_Search_run_34 : decode cX7_run 34 = .ok (.aload_n 0, 1) := by decide +kernel
theorem D_Search_run_35 : decode cX7_run 35 = .ok (.iconst (0), 1) := by decide +kernel
theorem D_Search_run_36 : decode cX7_run 36 = .ok (.putfield 46, 3) := by decide +kernel
theorem D_Search_run_39 : decode cX7_run 39 = .ok (.aload_n 0, 1) := by decide +kernel
theorem D_Search_run_40 : decode cX7_run 40 = .ok (.iconst (0), 1) := by decide +kernel
theorem D_Search_run_41 : decode cX7_run 41 = .ok (.putfield 49, 3) := by decide +kernel
theorem D_Search_run_44 : decode cX7_run 44 = .ok (.aload_n 0, 1) := by decide +kernel
theorem D_Search_run_45 : decode cX7_run 45 = .ok (.iconst (0), 1) := by decide +kernel
theorem D_Search_run_46 : decode cX7_run 46 = .ok (.putfield 52, 3) := by decide +kernel
theorem D_Search_run_49 : decode cX7_run 49 = .ok (.aload_n 0, 1) := by decide +kernel
theorem D_Search_run_50 : decode cX7_run 50 = .ok (.iconst (0), 1) := by decide +kernel
theorem D_Search_run_51 : decode cX7_run 51 = .ok (.putfield 55, 3) := by decide +kernel
theorem D_Search_run_54 : decode cX7_run 54 = .ok (.aload_n 0, 1) := by decide +kernel
theorem D_Search_run_55 : decode cX7_run 55 = .ok (.iconst (0), 1) := by decide +kernel
theorem D_Search_run_56 : decode cX7_run 56 = .ok (.lload_n 3, 1) := by decide +kernel
theorem D_Search_run_57 : decode cX7_run 57 = .ok (.iconst (0), 1) := by decide +kernel
theorem D_Search_run_58 : decode cX7_run 58 = .ok (.iload 6, 2) := by decide +kernel
theorem D_Search_run_60 : decode cX7_run 60 = .ok (.aload 5, 2) := by decide +kernel
theorem D_Search_run_62 : decode cX7_run 62 = .ok (.arraylength, 1) := by decide +kernel
theorem D_Search_run_63 : decode cX7_run 63 = .ok (.invokestatic 29, 3) := by decide +kernel
theorem D_Search_run_66 : decode cX7_run 66 = .ok (.iconst (-1), 1) := by decide +kernel
theorem D_Search_run_67 : decode cX7_run 67 = .ok (.invokevirtual 58, 3) := by decide +kernel
theorem D_Search_run_70 : decode cX7_run 70 = .ok (.istore 7, 2) := by decide +kernel
theorem D_Search_run_72 : decode cX7_run 72 = .ok (.aload_n 0, 1) := by decide +kernel
theorem D_Search_run_73 : decode cX7_run 73 = .ok (.getfield 39, 3) := by decide +kernel
theorem D_Search_run_76 : decode cX7_run 76 = .ok (.ifCond .eq (8), 3) := by decide +kernel
theorem D_Search_run_79 : decode cX7_run 79 = .ok (.bipush (-3), 2) := by decide +kernel
theorem D_Search_run_81 : decode cX7_run 81 = .ok (.goto (13), 3) := by decide +kernel
theorem D_Search_run_84 : decode cX7_run 84 = .ok (.iload 7, 2) := by decide +kernel
theorem D_Search_run_86 : decode cX7_run 86 = .ok (.ifCond .eq (7), 3) := by decide +kernel
theorem D_Search_run_89 : decode cX7_run 89 = .ok (.iconst (1), 1) := by decide +kernel
theorem D_Search_run_90 : decode cX7_run 90 = .ok (.goto (4), 3) := by decide +kernel
theorem D_Search_run_93 : decode cX7_run 93 = .ok (.iconst (0), 1) := by decide +kernel
theorem D_Search_run_94 : decode cX7_run 94 = .ok (.ireturn, 1) := by decide +kernel
def K_Search_run : SC := (cX7_run, "TwoLevels$Search", 8, 205, false, [3, 4, 8, 43, 44, 45, 46, 47, 48, 49, 51], NoQ)
def d_Search_run : MD Int32 := mth tt 8 (sq (sh2 (pR 8 0) (lR 0) (lR 1))
 (sq (sh2 (pI false 8 1) (lR 0) (kS d_Math_min [vI (lI 2), vI (eh1 aL (eh1 (gR 8 3) (lR 0)))]))
 (sq (sh2 (pR 8 2) (lR 0) (lR 5))
 (sq (sh2 (pI true 8 4) (lR 0) (eC (nI 0)))
 (sq (sh2 (pI false 8 5) (lR 0) (eC (nI 0)))
 (sq (sh2 (pI false 8 6) (lR 0) (eC (nI 0)))
 (sq (sh2 (pI false 8 7) (lR 0) (eC (nI 0)))
 (sq (sh2 (pI false 8 8) (lR 0) (eC (nI 0)))
 (sq (sh2 (pI false 8 10) (lR 0) (eC (nI 0)))
 (sq (sI1 7 (kV 8 d_Search_ask (lR 0) [vI (eC (nI 0)), vJ (lJ 3), vI (eC (nI 0)), vI (kS d_Math_min [vI (lI 6), vI (eh1 aL (lR 5))]), vI (eC (-1))]))
 (rtn (eIf (eh1 z_ne (eh1 (gI 8 4) (lR 0))) (eC (-3)) (eIf (eh1 z_ne (lI 7)) (eC (nI 1)) (eC (nI 0)))))))))))))))
theorem m_Search_run : MJ 205 [3, 4, 8, 43, 44, 45, 46, 47, 48, 49, 51] yX7_run (some .int) eI (d_Search_run) := MJ_of (K := K_Search_run) (ri := .ireturn) (n1 := 0) (n2 := 0) (n3 := 0)
 (SJ_sq (p0 := 0) (p1 := 5) (nN := 0) (nB := 0) (nC := 0) (SJ_putR (t := 8) (c := 7) (kf := 0) (r := (RX7, TX7, 11)) (p0 := 0) (p1 := 1) (p2 := 2) (EJ_aload_n (j := 0) (i := 0) (pc := 0) D_Search_run_0 rfl) (EJ_aload_n (j := 1) (i := 1) (pc := 1) D_Search_run_1 rfl) D_Search_run_2 ⟨rfl, rfl, by decide, q_228⟩ (Or.inl rfl) (Or.inl ⟨_, rfl⟩) (fun _ _ => rfl) (show (8 : Nat) ∈ ([3, 4, 8, 43, 44, 45, 46, 47, 48, 49, 51] : List Nat) from by decide))
 (SJ_sq (p0 := 5) (p1 := 18) (nN := 0) (nB := 0) (nC := 0) (SJ_putI (z := false) (t := 8) (c := 7) (kf := 1) (r := (RX7, TX7, 11)) (p0 := 5) (p1 := 6) (p2 := 15) (EJ_aload_n (j := 0) (i := 0) (pc := 5) D_Search_run_5 rfl) (EJ_callS (p0 := 6) (p1 := 12) (AJ_I (p0 := 6) (p1 := 7) (p2 := 12) (EJ_iload_n (j := 2) (i := 2) (pc := 6) D_Search_run_6 rfl) (AJ_I (p0 := 7) (p1 := 12) (p2 := 12) (EJ_alen (p0 := 7) (p1 := 11) (EJ_getR (t := 8) (c := 7) (kf := 3) (r := (RX7, TX7, 11)) (p0 := 7) (p1 := 8) (EJ_aload_n (j := 0) (i := 0) (pc := 7) D_Search_run_7 rfl) D_Search_run_8 ⟨rfl, rfl, by decide, q_231⟩ (fun _ _ => rfl)) D_Search_run_11) AJ_nil)) m_Math_min E1_I D_Search_run_12 q_780 q_307 q_98 ⟨by decide +kernel, by decide +kernel, by decide +kernel⟩ (by decide) (show 1 + 1 ≤ 205 from by decide) (fun _ h => absurd h List.not_mem_nil)) D_Search_run_15 ⟨rfl, rfl, by decide, q_229⟩ (Or.inl rfl) (fun _ _ => ⟨rfl, rfl⟩) (fun _ _ => rfl) (show (8 : Nat) ∈ ([3, 4, 8, 43, 44, 45, 46, 47, 48, 49, 51] : List Nat) from by decide))
 (SJ_sq (p0 := 18) (p1 := 24) (nN := 0) (nB := 0) (nC := 0) (SJ_putR (t := 8) (c := 7) (kf := 2) (r := (RX7, TX7, 11)) (p0 := 18) (p1 := 19) (p2 := 21) (EJ_aload_n (j := 0) (i := 0) (pc := 18) D_Search_run_18 rfl) (EJ_aload (i := 5) (pc := 19) D_Search_run_19) D_Search_run_21 ⟨rfl, rfl, by decide, q_230⟩ (Or.inl rfl) (Or.inr ⟨_, rfl⟩) (fun _ _ => rfl) (show (8 : Nat) ∈ ([3, 4, 8, 43, 44, 45, 46, 47, 48, 49, 51] : List Nat) from by decide))
 (SJ_sq (p0 := 24) (p1 := 29) (nN := 0) (nB := 0) (nC := 0) (SJ_putI (z := true) (t := 8) (c := 7) (kf := 4) (r := (RX7, TX7, 11)) (p0 := 24) (p1 := 25) (p2 := 26) (EJ_aload_n (j := 0) (i := 0) (pc := 24) D_Search_run_24 rfl) (EJ_iconst (n := 0) (v := (nI 0)) (pc := 25) D_Search_run_25 (by decide +kernel)) D_Search_run_26 ⟨rfl, rfl, by decide, q_232⟩ (Or.inl rfl) (okZ_bool rfl) (fun _ _ => rfl) (show (8 : Nat) ∈ ([3, 4, 8, 43, 44, 45, 46, 47, 48, 49, 51] : List Nat) from by decide))
 (SJ_sq (p0 := 29) (p1 := 34) (nN := 0) (nB := 0) (nC := 0) (SJ_putI (z := false) (t := 8) (c := 7) (kf := 5) (r := (RX7, TX7, 11)) (p0 := 29) (p1 := 30) (p2 := 31) (EJ_aload_n (j := 0) (i := 0) (pc := 29) D_Search_run_29 rfl) (EJ_iconst (n := 0) (v := (nI 0)) (pc := 30) D_Search_run_30 (by decide +kernel)) D_Search_run_31 ⟨rfl, rfl, by decide, q_233⟩ (Or.inl rfl) (fun _ _ => ⟨rfl, rfl⟩) (fun _ _ => rfl) (show (8 : Nat) ∈ ([3, 4, 8, 43, 44, 45, 46, 47, 48, 49, 51] : List Nat) from by decide))
 (SJ_sq (p0 := 34) (p1 := 39) (nN := 0) (nB := 0) (nC := 0) (SJ_putI (z := false) (t := 8) (c := 7) (kf := 6) (r := (RX7, TX7, 11)) (p0 := 34) (p1 := 35) (p2 := 36) (EJ_aload_n (j := 0) (i := 0) (pc := 34) D_Search_run_34 rfl) (EJ_iconst (n := 0) (v := (nI 0)) (pc := 35) D_Search_run_35 (by decide +kernel)) D_Search_run_36 ⟨rfl, rfl, by decide, q_235⟩ (Or.inl rfl) (fun _ _ => ⟨rfl, rfl⟩) (fun _ _ => rfl) (show (8 : Nat) ∈ ([3, 4, 8, 43, 44, 45, 46, 47, 48, 49, 51] : List Nat) from by decide))
 (SJ_sq (p0 := 39) (p1 := 44) (nN := 0) (nB := 0) (nC := 0) (SJ_putI (z := false) (t := 8) (c := 7) (kf := 7) (r := (RX7, TX7, 11)) (p0 := 39) (p1 := 40) (p2 := 41) (EJ_aload_n (j := 0) (i := 0) (pc := 39) D_Search_run_39 rfl) (EJ_iconst (n := 0) (v := (nI 0)) (pc := 40) D_Search_run_40 (by decide +kernel)) D_Search_run_41 ⟨rfl, rfl, by decide, q_237⟩ (Or.inl rfl) (fun _ _ => ⟨rfl, rfl⟩) (fun _ _ => rfl) (show (8 : Nat) ∈ ([3, 4, 8, 43, 44, 45, 46, 47, 48, 49, 51] : List Nat) from by decide))
 (SJ_sq (p0 := 44) (p1 := 49) (nN := 0) (nB := 0) (nC := 0) (SJ_putI (z := false) (t := 8) (c := 7) (kf := 8) (r := (RX7, TX7, 11)) (p0 := 44) (p1 := 45) (p2 := 46) (EJ_aload_n (j := 0) (i := 0) (pc := 44) D_Search_run_44 rfl) (EJ_iconst (n := 0) (v := (nI 0)) (pc := 45) D_Search_run_45 (by decide +kernel)) D_Search_run_46 ⟨rfl, rfl, by decide, q_239⟩ (Or.inl rfl) (fun _ _ => ⟨rfl, rfl⟩) (fun _ _ => rfl) (show (8 : Nat) ∈ ([3, 4, 8, 43, 44, 45, 46, 47, 48, 49, 51] : List Nat) from by decide))
 (SJ_sq (p0 := 49) (p1 := 54) (nN := 0) (nB := 0) (nC := 0) (SJ_putI (z := false) (t := 8) (c := 7) (kf := 10) (r := (RX7, TX7, 11)) (p0 := 49) (p1 := 50) (p2 := 51) (EJ_aload_n (j := 0) (i := 0) (pc := 49) D_Search_run_49 rfl) (EJ_iconst (n := 0) (v := (nI 0)) (pc := 50) D_Search_run_50 (by decide +kernel)) D_Search_run_51 ⟨rfl, rfl, by decide, q_242⟩ (Or.inl rfl) (fun _ _ => ⟨rfl, rfl⟩) (fun _ _ => rfl) (show (8 : Nat) ∈ ([3, 4, 8, 43, 44, 45, 46, 47, 48, 49, 51] : List Nat) from by decide))
 (SJ_sq (p0 := 54) (p1 := 72) (nN := 0) (nB := 0) (nC := 0) (SJ_istore (i := 7) (p0 := 54) (p1 := 70) (EJ_callV (t := 8) (c := 7) (r := (RX7, TX7, 11)) (p0 := 54) (p1 := 55) (p2 := 67) (EJ_aload_n (j := 0) (i := 0) (pc := 54) D_Search_run_54 rfl) (AJ_I (p0 := 55) (p1 := 56) (p2 := 67) (EJ_iconst (n := 0) (v := (nI 0)) (pc := 55) D_Search_run_55 (by decide +kernel)) (AJ_J (p0 := 56) (p1 := 57) (p2 := 67) (EJ_lload_n (j := 3) (i := 3) (pc := 56) D_Search_run_56 rfl) (AJ_I (p0 := 57) (p1 := 58) (p2 := 67) (EJ_iconst (n := 0) (v := (nI 0)) (pc := 57) D_Search_run_57 (by decide +kernel)) (AJ_I (p0 := 58) (p1 := 66) (p2 := 67) (EJ_callS (p0 := 58) (p1 := 63) (AJ_I (p0 := 58) (p1 := 60) (p2 := 63) (EJ_iload (i := 6) (pc := 58) D_Search_run_58) (AJ_I (p0 := 60) (p1 := 63) (p2 := 63) (EJ_alen (p0 := 60) (p1 := 62) (EJ_aload (i := 5) (pc := 60) D_Search_run_60) D_Search_run_62) AJ_nil)) m_Math_min E1_I D_Search_run_63 q_780 q_307 q_98 ⟨by decide +kernel, by decide +kernel, by decide +kernel⟩ (by decide) (show 1 + 1 ≤ 205 from by decide) (fun _ h => absurd h List.not_mem_nil)) (AJ_I (p0 := 66) (p1 := 67) (p2 := 67) (EJ_iconst (n := -1) (v := (-1)) (pc := 66) D_Search_run_66 (by decide +kernel)) AJ_nil))))) m_Search_ask E1_I D_Search_run_67 rfl rfl rfl q_781 q_782 q_24 q_96 ⟨by decide +kernel, by decide +kernel, by decide +kernel⟩ (by decide) (show 204 + 1 ≤ 205 from by decide) (show ∀ x_ ∈ ([3, 4, 8, 43, 44, 45, 46, 47, 48, 49, 51] : List Nat), x_ ∈ ([3, 4, 8, 43, 44, 45, 46, 47, 48, 49, 51] : List Nat) from by decide)) D_Search_run_70)
 (SJ_ret (p0 := 72) (p1 := 94) (EJ_if (p0 := 72) (pT := 79) (pF := 84) (pE := 81) (p1 := 94) (CZ_ne' (off := 8) (tgt := 84) (p0 := 72) (p1 := 76) (EJ_getI (t := 8) (c := 7) (kf := 4) (r := (RX7, TX7, 11)) (p0 := 72) (p1 := 73) (EJ_aload_n (j := 0) (i := 0) (pc := 72) D_Search_run_72 rfl) D_Search_run_73 ⟨rfl, rfl, by decide, q_232⟩ (fun _ _ => rfl)) D_Search_run_76 rfl) (EJ_bipush (n := -3) (v := (-3)) (pc := 79) D_Search_run_79 (by decide +kernel)) (Lead.goto (K := K_Search_run) (pc := 81) (tgt := 94) D_Search_run_81 rfl) (EJ_if (p0 := 84) (pT := 89) (pF := 93) (pE := 90) (p1 := 94) (CZ_ne' (off := 7) (tgt := 93) (p0 := 84) (p1 := 86) (EJ_iload (i := 7) (pc := 84) D_Search_run_84) D_Search_run_86 rfl) (EJ_iconst (n := 1) (v := (nI 1)) (pc := 89) D_Search_run_89 (by decide +kernel)) (Lead.goto (K := K_Search_run) (pc := 90) (tgt := 94) D_Search_run_90 rfl) (EJ_iconst (n := 0) (v := (nI 0)) (pc := 93) D_Search_run_93 (by decide +kernel)))) D_Search_run_94)))))))))))
 RTm_int q_779 (by decide +kernel) rfl (fun h => by cases h) (show 8 ≤ 40 from by decide) (fun _ => trivial)
theorem D_TL_derives_0 : decode cX11_derives 0 = .ok (.aload_n 0, 1) := by decide +kernel
theorem D_TL_derives_1 : decode cX11_derives 1 = .ok (.getfield 64, 3) := by decide +kernel
theorem D_TL_derives_4 : decode cX11_derives 4 = .ok (.bipush (-4), 2) := by decide +kernel
theorem D_TL_derives_6 : decode cX11_derives 6 = .ok (.if_icmp .ne (38), 3) := by decide +kernel
theorem D_TL_derives_9 : decode cX11_derives 9 = .ok (.aload_n 0, 1) := by decide +kernel
theorem D_TL_derives_10 : decode cX11_derives 10 = .ok (.aload_n 0, 1) := by decide +kernel
theorem D_TL_derives_11 : decode cX11_derives 11 = .ok (.getfield 79, 3) := by decide +kernel
theorem D_TL_derives_14 : decode cX11_derives 14 = .ok (.aload_n 0, 1) := by decide +kernel
theorem D_TL_derives_15 : decode cX11_derives 15 = .ok (.getfield 30, 3) := by decide +kernel
theorem D_TL_derives_18 : decode cX11_derives 18 = .ok (.aload_n 0, 1) := by decide +kernel
theorem D_TL_derives_19 : decode cX11_derives 19 = .ok (.getfield 30, 3) := by decide +kernel
theorem D_TL_derives_22 : decode cX11_derives 22 = .ok (.getfield 102, 3) := by decide +kernel
theorem D_TL_derives_25 : decode cX11_derives 25 = .ok (.aload_n 0, 1) := by decide +kernel
theorem D_TL_derives_26 : decode cX11_derives 26 = .ok (.getfield 108, 3) := by decide +kernel
theorem D_TL_derives_29 : decode cX11_derives 29 = .ok (.aload_n 0, 1) := by decide +kernel
theorem D_TL_derives_30 : decode cX11_derives 30 = .ok (.getfield 34, 3) := by decide +kernel
theorem D_TL_derives_33 : decode cX11_derives 33 = .ok (.aload_n 0, 1) := by decide +kernel
theorem D_TL_derives_34 : decode cX11_derives 34 = .ok (.getfield 34, 3) := by decide +kernel
theorem D_TL_derives_37 : decode cX11_derives 37 = .ok (.arraylength, 1) := by decide +kernel
theorem D_TL_derives_38 : decode cX11_derives 38 = .ok (.invokevirtual 267, 3) := by decide +kernel
theorem D_TL_derives_41 : decode cX11_derives 41 = .ok (.putfield 64, 3) := by decide +kernel
theorem D_TL_derives_44 : decode cX11_derives 44 = .ok (.aload_n 0, 1) := by decide +kernel
theorem D_TL_derives_45 : decode cX11_derives 45 = .ok (.getfield 64, 3) := by decide +kernel
theorem D_TL_derives_48 : decode cX11_derives 48 = .ok (.ireturn, 1) := by decide +kernel
def K_TL_derives : SC := (cX11_derives, "TwoLevels", 1, 206, false, [3, 4, 8, 12, 43, 44, 45, 46, 47, 48, 49, 51], NoQ)
def d_TL_derives : MD Int32 := mth tt 1 (sq (sIf (eh2 c_eq (eh1 (gI 12 13) (lR 0)) (eC (-4))) (sh2 (pI false 12 13) (lR 0) (kV 8 d_Search_run (eh1 (gR 12 11) (lR 0)) [vR (eh1 (gR 12 3) (lR 0)), vI (eh1 (gI 10 2) (eh1 (gR 12 3) (lR 0))), vJ (eh1 (gJ 12 4) (lR 0)), vR (eh1 (gR 12 5) (lR 0)), vI (eh1 aL (eh1 (gR 12 5) (lR 0)))])) sk)
 (rtn (eh1 (gI 12 13) (lR 0))))
theorem m_TL_derives : MJ 206 [3, 4, 8, 12, 43, 44, 45, 46, 47, 48, 49, 51] yX11_derives (some .int) eI (d_TL_derives) := MJ_of (K := K_TL_derives) (ri := .ireturn) (n1 := 0) (n2 := 0) (n3 := 0)
 (SJ_sq (p0 := 0) (p1 := 44) (nN := 0) (nB := 0) (nC := 0) (SJ_if (p0 := 0) (pT := 9) (pF := 44) (nN := 44) (nB := 0) (nC := 0) (CJ_eq' (off := 38) (tgt := 44) (p0 := 0) (p1 := 4) (p2 := 6) (EJ_getI (t := 12) (c := 11) (kf := 13) (r := (RX11, TX11, 16)) (p0 := 0) (p1 := 1) (EJ_aload_n (j := 0) (i := 0) (pc := 0) D_TL_derives_0 rfl) D_TL_derives_1 ⟨rfl, rfl, by decide, q_268⟩ (fun _ _ => rfl)) (EJ_bipush (n := -4) (v := (-4)) (pc := 4) D_TL_derives_4 (by decide +kernel)) D_TL_derives_6 rfl) (SJ_putI (z := false) (t := 12) (c := 11) (kf := 13) (r := (RX11, TX11, 16)) (p0 := 9) (p1 := 10) (p2 := 41) (EJ_aload_n (j := 0) (i := 0) (pc := 9) D_TL_derives_9 rfl) (EJ_callV (t := 8) (c := 7) (r := (RX7, TX7, 11)) (p0 := 10) (p1 := 14) (p2 := 38) (EJ_getR (t := 12) (c := 11) (kf := 11) (r := (RX11, TX11, 16)) (p0 := 10) (p1 := 11) (EJ_aload_n (j := 0) (i := 0) (pc := 10) D_TL_derives_10 rfl) D_TL_derives_11 ⟨rfl, rfl, by decide, q_266⟩ (fun _ _ => rfl)) (AJ_R (p0 := 14) (p1 := 18) (p2 := 38) (EJ_getR (t := 12) (c := 11) (kf := 3) (r := (RX11, TX11, 16)) (p0 := 14) (p1 := 15) (EJ_aload_n (j := 0) (i := 0) (pc := 14) D_TL_derives_14 rfl) D_TL_derives_15 ⟨rfl, rfl, by decide, q_258⟩ (fun _ _ => rfl)) (AJ_I (p0 := 18) (p1 := 25) (p2 := 38) (EJ_getI (t := 10) (c := 9) (kf := 2) (r := (RX9, TX9, 4)) (p0 := 18) (p1 := 22) (EJ_getR (t := 12) (c := 11) (kf := 3) (r := (RX11, TX11, 16)) (p0 := 18) (p1 := 19) (EJ_aload_n (j := 0) (i := 0) (pc := 18) D_TL_derives_18 rfl) D_TL_derives_19 ⟨rfl, rfl, by decide, q_258⟩ (fun _ _ => rfl)) D_TL_derives_22 ⟨rfl, rfl, by decide, q_180⟩ (fun _ _ => rfl)) (AJ_J (p0 := 25) (p1 := 29) (p2 := 38) (EJ_getJ (t := 12) (c := 11) (kf := 4) (r := (RX11, TX11, 16)) (p0 := 25) (p1 := 26) (EJ_aload_n (j := 0) (i := 0) (pc := 25) D_TL_derives_25 rfl) D_TL_derives_26 ⟨rfl, rfl, by decide, q_259⟩ (fun _ _ => rfl)) (AJ_R (p0 := 29) (p1 := 33) (p2 := 38) (EJ_getR (t := 12) (c := 11) (kf := 5) (r := (RX11, TX11, 16)) (p0 := 29) (p1 := 30) (EJ_aload_n (j := 0) (i := 0) (pc := 29) D_TL_derives_29 rfl) D_TL_derives_30 ⟨rfl, rfl, by decide, q_260⟩ (fun _ _ => rfl)) (AJ_I (p0 := 33) (p1 := 38) (p2 := 38) (EJ_alen (p0 := 33) (p1 := 37) (EJ_getR (t := 12) (c := 11) (kf := 5) (r := (RX11, TX11, 16)) (p0 := 33) (p1 := 34) (EJ_aload_n (j := 0) (i := 0) (pc := 33) D_TL_derives_33 rfl) D_TL_derives_34 ⟨rfl, rfl, by decide, q_260⟩ (fun _ _ => rfl)) D_TL_derives_37) AJ_nil))))) m_Search_run E1_I D_TL_derives_38 rfl rfl rfl q_776 q_777 q_778 q_96 ⟨by decide +kernel, by decide +kernel, by decide +kernel⟩ (by decide) (show 205 + 1 ≤ 206 from by decide) (show ∀ x_ ∈ ([3, 4, 8, 43, 44, 45, 46, 47, 48, 49, 51] : List Nat), x_ ∈ ([3, 4, 8, 12, 43, 44, 45, 46, 47, 48, 49, 51] : List Nat) from by decide)) D_TL_derives_41 ⟨rfl, rfl, by decide, q_268⟩ (Or.inl rfl) (fun _ _ => ⟨rfl, rfl⟩) (fun _ _ => rfl) (show (12 : Nat) ∈ ([3, 4, 8, 12, 43, 44, 45, 46, 47, 48, 49, 51] : List Nat) from by decide)) SJ_sk)
 (SJ_ret (p0 := 44) (p1 := 48) (EJ_getI (t := 12) (c := 11) (kf := 13) (r := (RX11, TX11, 16)) (p0 := 44) (p1 := 45) (EJ_aload_n (j := 0) (i := 0) (pc := 44) D_TL_derives_44 rfl) D_TL_derives_45 ⟨rfl, rfl, by decide, q_268⟩ (fun _ _ => rfl)) D_TL_derives_48))
 RTm_int q_867 (by decide +kernel) rfl (fun h => by cases h) (show 1 ≤ 40 from by decide) (fun _ => trivial)
theorem D_TL_checked_0 : decode cX11_checked 0 = .ok (.aload_n 0, 1) := by decide +kernel
theorem D_TL_checked_1 : decode cX11_checked 1 = .ok (.invokevirtual 271, 3) := by decide +kernel
theorem D_TL_checked_4 : decode cX11_checked 4 = .ok (.iconst (1), 1) := by decide +kernel
theorem D_TL_checked_5 : decode cX11_checked 5 = .ok (.if_icmp .ne (22), 3) := by decide +kernel
theorem D_TL_checked_8 : decode cX11_checked 8 = .ok (.aload_n 0, 1) := by decide +kernel
theorem D_TL_checked_9 : decode cX11_checked 9 = .ok (.getfield 79, 3) := by decide +kernel
theorem D_TL_checked_12 : decode cX11_checked 12 = .ok (.aload_n 0, 1) := by decide +kernel
theorem D_TL_checked_13 : decode cX11_checked 13 = .ok (.getfield 108, 3) := by decide +kernel
theorem D_TL_checked_16 : decode cX11_checked 16 = .ok (.aload_n 0, 1) := by decide +kernel
theorem D_TL_checked_17 : decode cX11_checked 17 = .ok (.getfield 34, 3) := by decide +kernel
theorem D_TL_checked_20 : decode cX11_checked 20 = .ok (.arraylength, 1) := by decide +kernel
theorem D_TL_checked_21 : decode cX11_checked 21 = .ok (.invokevirtual 328, 3) := by decide +kernel
theorem D_TL_checked_24 : decode cX11_checked 24 = .ok (.goto (5), 3) := by decide +kernel
theorem D_TL_checked_27 : decode cX11_checked 27 = .ok (.bipush (-2), 2) := by decide +kernel
theorem D_TL_checked_29 : decode cX11_checked 29 = .ok (.ireturn, 1) := by decide +kernel
def K_TL_checked : SC := (cX11_checked, "TwoLevels", 1, 207, false, [3, 4, 8, 12, 43, 44, 45, 46, 47, 48, 49, 51], NoQ)
def d_TL_checked : MD Int32 := mth tt 1 (rtn (eIf (eh2 c_eq (kV 12 d_TL_derives (lR 0) []) (eC (nI 1))) (kV 8 d_Search_firstWrong (eh1 (gR 12 11) (lR 0)) [vJ (eh1 (gJ 12 4) (lR 0)), vI (eh1 aL (eh1 (gR 12 5) (lR 0)))]) (eC (-2))))
theorem m_TL_checked : MJ 207 [3, 4, 8, 12, 43, 44, 45, 46, 47, 48, 49, 51] yX11_checked (some .int) eI (d_TL_checked) := MJ_of (K := K_TL_checked) (ri := .ireturn) (n1 := 0) (n2 := 0) (n3 := 0)
 (SJ_ret (p0 := 0) (p1 := 29) (EJ_if (p0 := 0) (pT := 8) (pF := 27) (pE := 24) (p1 := 29) (CJ_eq' (off := 22) (tgt := 27) (p0 := 0) (p1 := 4) (p2 := 5) (EJ_callV (t := 12) (c := 11) (r := (RX11, TX11, 16)) (p0 := 0) (p1 := 1) (p2 := 1) (EJ_aload_n (j := 0) (i := 0) (pc := 0) D_TL_checked_0 rfl) AJ_nil m_TL_derives E1_I D_TL_checked_1 rfl rfl rfl q_872 q_865 q_866 q_91 ⟨by decide +kernel, by decide +kernel, by decide +kernel⟩ (by decide) (show 206 + 1 ≤ 207 from by decide) (show ∀ x_ ∈ ([3, 4, 8, 12, 43, 44, 45, 46, 47, 48, 49, 51] : List Nat), x_ ∈ ([3, 4, 8, 12, 43, 44, 45, 46, 47, 48, 49, 51] : List Nat) from by decide)) (EJ_iconst (n := 1) (v := (nI 1)) (pc := 4) D_TL_checked_4 (by decide +kernel)) D_TL_checked_5 rfl) (EJ_callV (t := 8) (c := 7) (r := (RX7, TX7, 11)) (p0 := 8) (p1 := 12) (p2 := 21) (EJ_getR (t := 12) (c := 11) (kf := 11) (r := (RX11, TX11, 16)) (p0 := 8) (p1 := 9) (EJ_aload_n (j := 0) (i := 0) (pc := 8) D_TL_checked_8 rfl) D_TL_checked_9 ⟨rfl, rfl, by decide, q_266⟩ (fun _ _ => rfl)) (AJ_J (p0 := 12) (p1 := 16) (p2 := 21) (EJ_getJ (t := 12) (c := 11) (kf := 4) (r := (RX11, TX11, 16)) (p0 := 12) (p1 := 13) (EJ_aload_n (j := 0) (i := 0) (pc := 12) D_TL_checked_12 rfl) D_TL_checked_13 ⟨rfl, rfl, by decide, q_259⟩ (fun _ _ => rfl)) (AJ_I (p0 := 16) (p1 := 21) (p2 := 21) (EJ_alen (p0 := 16) (p1 := 20) (EJ_getR (t := 12) (c := 11) (kf := 5) (r := (RX11, TX11, 16)) (p0 := 16) (p1 := 17) (EJ_aload_n (j := 0) (i := 0) (pc := 16) D_TL_checked_16 rfl) D_TL_checked_17 ⟨rfl, rfl, by decide, q_260⟩ (fun _ _ => rfl)) D_TL_checked_20) AJ_nil)) m_Search_firstWrong E1_I D_TL_checked_21 rfl rfl rfl q_904 q_905 q_906 q_96 ⟨by decide +kernel, by decide +kernel, by decide +kernel⟩ (by decide) (show 7 + 1 ≤ 207 from by decide) (show ∀ x_ ∈ ([3, 43, 44, 45, 46, 47, 48] : List Nat), x_ ∈ ([3, 4, 8, 12, 43, 44, 45, 46, 47, 48, 49, 51] : List Nat) from by decide)) (Lead.goto (K := K_TL_checked) (pc := 24) (tgt := 29) D_TL_checked_24 rfl) (EJ_bipush (n := -2) (v := (-2)) (pc := 27) D_TL_checked_27 (by decide +kernel))) D_TL_checked_29)
 RTm_int q_903 (by decide +kernel) rfl (fun h => by cases h) (show 1 ≤ 40 from by decide) (fun _ => trivial)
theorem D_Upper_letterBits_0 : decode cX10_letterBits 0 = .ok (.iconst (0), 1) := by decide +kernel
theorem D_Upper_letterBits_1 : decode cX10_letterBits 1 = .ok (.istore_n 2, 1) := by decide +kernel
theorem D_Upper_letterBits_2 : decode cX10_letterBits 2 = .ok (.iconst (0), 1) := by decide +kernel
theorem D_Upper_letterBits_3 : decode cX10_letterBits 3 = .ok (.istore_n 3, 1) := by decide +kernel
theorem D_Upper_letterBits_4 : decode cX10_letterBits 4 = .ok (.iload_n 3, 1) := by decide +kernel
theorem D_Upper_letterBits_5 : decode cX10_letterBits 5 = .ok (.aload_n 0, 1) := by decide +kernel
theorem D_Upper_letterBits_6 : decode cX10_letterBits 6 = .ok (.getfield 32, 3) := by decide +kernel
theorem D_Upper_letterBits_9 : decode cX10_letterBits 9 = .ok (.if_icmp .ge (27), 3) := by decide +kernel
theorem D_Upper_letterBits_12 : decode cX10_letterBits 12 = .ok (.iload_n 2, 1) := by decide +kernel
theorem D_Upper_letterBits_13 : decode cX10_letterBits 13 = .ok (.iload_n 1, 1) := by decide +kernel
theorem D_Upper_letterBits_14 : decode cX10_letterBits 14 = .ok (.iload_n 3, 1) := by decide +kernel
theorem D_Upper_letterBits_15 : decode cX10_letterBits 15 = .ok (.ishr, 1) := by decide +kernel
theorem D_Upper_letterBits_16 : decode cX10_letterBits 16 = .ok (.iconst (1), 1) := by decide +kernel
theorem D_Upper_letterBits_17 : decode cX10_letterBits 17 = .ok (.iand, 1) := by decide +kernel
theorem D_Upper_letterBits_18 : decode cX10_letterBits 18 = .ok (.aload_n 0, 1) := by decide +kernel
theorem D_Upper_letterBits_19 : decode cX10_letterBits 19 = .ok (.getfield 15, 3) := by decide +kernel
theorem D_Upper_letterBits_22 : decode cX10_letterBits 22 = .ok (.iload_n 3, 1) := by decide +kernel
theorem D_Upper_letterBits_23 : decode cX10_letterBits 23 = .ok (.iaload, 1) := by decide +kernel
theorem D_Upper_letterBits_24 : decode cX10_letterBits 24 = .ok (.bipush (65), 2) := by decide +kernel
theorem D_Upper_letterBits_26 : decode cX10_letterBits 26 = .ok (.isub, 1) := by decide +kernel
theorem D_Upper_letterBits_27 : decode cX10_letterBits 27 = .ok (.ishl, 1) := by decide +kernel
theorem D_Upper_letterBits_28 : decode cX10_letterBits 28 = .ok (.ior, 1) := by decide +kernel
theorem D_Upper_letterBits_29 : decode cX10_letterBits 29 = .ok (.istore_n 2, 1) := by decide +kernel
theorem D_Upper_letterBits_30 : decode cX10_letterBits 30 = .ok (.iinc 3 (1), 3) := by decide +kernel
theorem D_Upper_letterBits_33 : decode cX10_letterBits 33 = .ok (.goto (-29), 3) := by decide +kernel
theorem D_Upper_letterBits_36 : decode cX10_letterBits 36 = .ok (.iload_n 2, 1) := by decide +kernel
theorem D_Upper_letterBits_37 : decode cX10_letterBits 37 = .ok (.ireturn, 1) := by decide +kernel
def K_Upper_letterBits : SC := (cX10_letterBits, "TwoLevels$Upper", 4, 1, false, [], NoQ)
def d_Upper_letterBits : MD Int32 := mth tt 4 (sq (sI1 2 (eC (nI 0)))
 (sq (sq (sI1 3 (eC (nI 0)))
 (loop (eh2 c_lt (lI 3) (eh1 (gI 11 6) (lR 0)))
 (sI1 2 (eh2 iorF (lI 2) (eh2 ishlF (eh2 iandF (eh2 ishrF (lI 1) (lI 3)) (eC (nI 1))) (eh2 isubF (eh2 (aI .int) (eh1 (gR 11 1) (lR 0)) (lI 3)) (eC (nI 65))))))
 (sInc 3 (nI 1))))
 (rtn (lI 2))))
theorem m_Upper_letterBits : MJ 1 [] yX10_letterBits (some .int) eI (d_Upper_letterBits) := MJ_of (K := K_Upper_letterBits) (ri := .ireturn) (n1 := 0) (n2 := 0) (n3 := 0)
 (SJ_sq (p0 := 0) (p1 := 2) (nN := 0) (nB := 0) (nC := 0) (SJ_istore_n (i := 2) (j := 2) (p0 := 0) (p1 := 1) (EJ_iconst (n := 0) (v := (nI 0)) (pc := 0) D_Upper_letterBits_0 (by decide +kernel)) D_Upper_letterBits_1 rfl)
 (SJ_sq (p0 := 2) (p1 := 36) (nN := 0) (nB := 0) (nC := 0) (SJ_sq (p0 := 2) (p1 := 4) (nN := 36) (nB := 0) (nC := 0) (SJ_istore_n (i := 3) (j := 3) (p0 := 2) (p1 := 3) (EJ_iconst (n := 0) (v := (nI 0)) (pc := 2) D_Upper_letterBits_2 (by decide +kernel)) D_Upper_letterBits_3 rfl)
 (SJ_loop (p0 := 4) (pB := 12) (pS := 30) (pE := 36) (CJ_lt' (off := 27) (tgt := 36) (p0 := 4) (p1 := 5) (p2 := 9) (EJ_iload_n (j := 3) (i := 3) (pc := 4) D_Upper_letterBits_4 rfl) (EJ_getI (t := 11) (c := 10) (kf := 6) (r := (RX10, TX10, 7)) (p0 := 5) (p1 := 6) (EJ_aload_n (j := 0) (i := 0) (pc := 5) D_Upper_letterBits_5 rfl) D_Upper_letterBits_6 ⟨rfl, rfl, by decide, q_135⟩ (fun _ _ => rfl)) D_Upper_letterBits_9 rfl)
 (SJ_istore_n (i := 2) (j := 2) (p0 := 12) (p1 := 29) (EJ_ior (p0 := 12) (p1 := 13) (p2 := 28) (EJ_iload_n (j := 2) (i := 2) (pc := 12) D_Upper_letterBits_12 rfl) (EJ_ishl (p0 := 13) (p1 := 18) (p2 := 27) (EJ_iand (p0 := 13) (p1 := 16) (p2 := 17) (EJ_ishr (p0 := 13) (p1 := 14) (p2 := 15) (EJ_iload_n (j := 1) (i := 1) (pc := 13) D_Upper_letterBits_13 rfl) (EJ_iload_n (j := 3) (i := 3) (pc := 14) D_Upper_letterBits_14 rfl) D_Upper_letterBits_15) (EJ_iconst (n := 1) (v := (nI 1)) (pc := 16) D_Upper_letterBits_16 (by decide +kernel)) D_Upper_letterBits_17) (EJ_isub (p0 := 18) (p1 := 24) (p2 := 26) (EJ_iald (p0 := 18) (p1 := 22) (p2 := 23) (EJ_getR (t := 11) (c := 10) (kf := 1) (r := (RX10, TX10, 7)) (p0 := 18) (p1 := 19) (EJ_aload_n (j := 0) (i := 0) (pc := 18) D_Upper_letterBits_18 rfl) D_Upper_letterBits_19 ⟨rfl, rfl, by decide, q_130⟩ (fun _ _ => rfl)) (EJ_iload_n (j := 3) (i := 3) (pc := 22) D_Upper_letterBits_22 rfl) D_Upper_letterBits_23) (EJ_bipush (n := 65) (v := (nI 65)) (pc := 24) D_Upper_letterBits_24 (by decide +kernel)) D_Upper_letterBits_26) D_Upper_letterBits_27) D_Upper_letterBits_28) D_Upper_letterBits_29 rfl)
 (SJ_post (SJ_iinc (i := 3) (n := 1) (v := (nI 1)) (pc := 30) D_Upper_letterBits_30 (by decide +kernel)) (Lead.goto (K := K_Upper_letterBits) (pc := 33) (tgt := 4) D_Upper_letterBits_33 rfl))))
 (SJ_ret (p0 := 36) (p1 := 37) (EJ_iload_n (j := 2) (i := 2) (pc := 36) D_Upper_letterBits_36 rfl) D_Upper_letterBits_37)))
 RTm_int q_703 (by decide +kernel) rfl (fun h => by cases h) (show 4 ≤ 40 from by decide) (fun _ => trivial)
theorem D_TL_choice_0 : decode cX11_choice 0 = .ok (.aload_n 0, 1) := by decide +kernel
theorem D_TL_choice_1 : decode cX11_choice 1 = .ok (.getfield 30, 3) := by decide +kernel
theorem D_TL_choice_4 : decode cX11_choice 4 = .ok (.iload_n 1, 1) := by decide +kernel
theorem D_TL_choice_5 : decode cX11_choice 5 = .ok (.invokevirtual 150, 3) := by decide +kernel
theorem D_TL_choice_8 : decode cX11_choice 8 = .ok (.ifCond .eq (23), 3) := by decide +kernel
theorem D_TL_choice_11 : decode cX11_choice 11 = .ok (.iload_n 2, 1) := by decide +kernel
theorem D_TL_choice_12 : decode cX11_choice 12 = .ok (.ifCond .lt (19), 3) := by decide +kernel
theorem D_TL_choice_15 : decode cX11_choice 15 = .ok (.iload_n 2, 1) := by decide +kernel
theorem D_TL_choice_16 : decode cX11_choice 16 = .ok (.aload_n 0, 1) := by decide +kernel
theorem D_TL_choice_17 : decode cX11_choice 17 = .ok (.getfield 30, 3) := by decide +kernel
theorem D_TL_choice_20 : decode cX11_choice 20 = .ok (.getfield 118, 3) := by decide +kernel
theorem D_TL_choice_23 : decode cX11_choice 23 = .ok (.iload_n 1, 1) := by decide +kernel
theorem D_TL_choice_24 : decode cX11_choice 24 = .ok (.aaload, 1) := by decide +kernel
theorem D_TL_choice_25 : decode cX11_choice 25 = .ok (.getfield 219, 3) := by decide +kernel
theorem D_TL_choice_28 : decode cX11_choice 28 = .ok (.if_icmp .lt (5), 3) := by decide +kernel
theorem D_TL_choice_31 : decode cX11_choice 31 = .ok (.iconst (-1), 1) := by decide +kernel
theorem D_TL_choice_32 : decode cX11_choice 32 = .ok (.ireturn, 1) := by decide +kernel
theorem D_TL_choice_33 : decode cX11_choice 33 = .ok (.aload_n 0, 1) := by decide +kernel
theorem D_TL_choice_34 : decode cX11_choice 34 = .ok (.getfield 30, 3) := by decide +kernel
theorem D_TL_choice_37 : decode cX11_choice 37 = .ok (.getfield 118, 3) := by decide +kernel
theorem D_TL_choice_40 : decode cX11_choice 40 = .ok (.iload_n 1, 1) := by decide +kernel
theorem D_TL_choice_41 : decode cX11_choice 41 = .ok (.aaload, 1) := by decide +kernel
theorem D_TL_choice_42 : decode cX11_choice 42 = .ok (.getfield 230, 3) := by decide +kernel
theorem D_TL_choice_45 : decode cX11_choice 45 = .ok (.iload_n 2, 1) := by decide +kernel
theorem D_TL_choice_46 : decode cX11_choice 46 = .ok (.aaload, 1) := by decide +kernel
theorem D_TL_choice_47 : decode cX11_choice 47 = .ok (.astore 4, 2) := by decide +kernel
theorem D_TL_choice_49 : decode cX11_choice 49 = .ok (.iload_n 3, 1) := by decide +kernel
theorem D_TL_choice_50 : decode cX11_choice 50 = .ok (.tableswitch 57 0 2 #[26, 32, 48], 26) := by decide +kernel
theorem D_TL_choice_76 : decode cX11_choice 76 = .ok (.aload 4, 2) := by decide +kernel
theorem D_TL_choice_78 : decode cX11_choice 78 = .ok (.getfield 234, 3) := by decide +kernel
theorem D_TL_choice_81 : decode cX11_choice 81 = .ok (.ireturn, 1) := by decide +kernel
theorem D_TL_choice_82 : decode cX11_choice 82 = .ok (.aload_n 0, 1) := by decide +kernel
theorem D_TL_choice_83 : decode cX11_choice 83 = .ok (.getfield 30, 3) := by decide +kernel
theorem D_TL_choice_86 : decode cX11_choice 86 = .ok (.getfield 53, 3) := by decide +kernel
theorem D_TL_choice_89 : decode cX11_choice 89 = .ok (.aload 4, 2) := by decide +kernel
theorem D_TL_choice_91 : decode cX11_choice 91 = .ok (.getfield 237, 3) := by decide +kernel
theorem D_TL_choice_94 : decode cX11_choice 94 = .ok (.invokevirtual 224, 3) := by decide +kernel
theorem D_TL_choice_97 : decode cX11_choice 97 = .ok (.ireturn, 1) := by decide +kernel
theorem D_TL_choice_98 : decode cX11_choice 98 = .ok (.aload 4, 2) := by decide +kernel
theorem D_TL_choice_100 : decode cX11_choice 100 = .ok (.getfield 240, 3) := by decide +kernel
theorem D_TL_choice_103 : decode cX11_choice 103 = .ok (.invokestatic 243, 3) := by decide +kernel
theorem D_TL_choice_106 : decode cX11_choice 106 = .ok (.ireturn, 1) := by decide +kernel
theorem D_TL_choice_107 : decode cX11_choice 107 = .ok (.iconst (-1), 1) := by decide +kernel
theorem D_TL_choice_108 : decode cX11_choice 108 = .ok (.ireturn, 1) := by decide +kernel
def K_TL_choice : SC := (cX11_choice, "TwoLevels", 5, 2, false, [], NoQ)
def d_TL_choice : MD Int32 := mth tt 5 (sq (sIf (cOr (cOr (cNot (eh1 z_ne (kV 10 d_State_hasRule (eh1 (gR 12 3) (lR 0)) [vI (lI 1)]))) (eh1 z_lt (lI 2))) (eh2 c_ge (lI 2) (eh1 (gI 7 4) (eh2 (aR (.object "TwoLevels$Rule")) (eh1 (gR 10 1) (eh1 (gR 12 3) (lR 0))) (lI 1))))) (rtn (eC (-1))) sk)
 (sq (sR1 4 (eh2 (aR (.object "TwoLevels$Choice")) (eh1 (gR 7 3) (eh2 (aR (.object "TwoLevels$Rule")) (eh1 (gR 10 1) (eh1 (gR 12 3) (lR 0))) (lI 1))) (lI 2)))
 (sSw (lI 3) [((rtn (eh1 (gI 1 2) (lR 4))), 76),
 ((rtn (kV 11 d_Upper_letterBits (eh1 (gR 10 0) (eh1 (gR 12 3) (lR 0))) [vI (eh1 (gI 1 7) (lR 4))])), 82),
 ((rtn (kS d_Integer_bitCount [vI (eh1 (gI 1 3) (lR 4))])), 98)]
 (rtn (eC (-1))))))
theorem m_TL_choice : MJ 2 [] yX11_choice (some .int) eI (d_TL_choice) := MJ_of (K := K_TL_choice) (ri := .ireturn) (n1 := 0) (n2 := 0) (n3 := 0)
 (SJ_sq (p0 := 0) (p1 := 33) (nN := 0) (nB := 0) (nC := 0) (SJ_if (p0 := 0) (pT := 31) (pF := 33) (nN := 33) (nB := 0) (nC := 0) (CJ_or (p0 := 0) (pM := 15) (pT := 31) (pF := 33) (CJ_or (p0 := 0) (pM := 11) (pT := 31) (pF := 15) (CJ_not (p0 := 0) (pT := 31) (pF := 11) (CZ_ne' (off := 23) (tgt := 31) (p0 := 0) (p1 := 8) (EJ_callV (t := 10) (c := 9) (r := (RX9, TX9, 4)) (p0 := 0) (p1 := 4) (p2 := 5) (EJ_getR (t := 12) (c := 11) (kf := 3) (r := (RX11, TX11, 16)) (p0 := 0) (p1 := 1) (EJ_aload_n (j := 0) (i := 0) (pc := 0) D_TL_choice_0 rfl) D_TL_choice_1 ⟨rfl, rfl, by decide, q_258⟩ (fun _ _ => rfl)) (AJ_I (p0 := 4) (p1 := 5) (p2 := 5) (EJ_iload_n (j := 1) (i := 1) (pc := 4) D_TL_choice_4 rfl) AJ_nil) m_State_hasRule E1_I D_TL_choice_5 rfl rfl rfl q_556 q_557 q_558 q_94 ⟨by decide +kernel, by decide +kernel, by decide +kernel⟩ (by decide) (show 1 + 1 ≤ 2 from by decide) (fun _ h => absurd h List.not_mem_nil)) D_TL_choice_8 rfl)) (CZ_lt (off := 19) (tgt := 31) (p0 := 11) (p1 := 12) (EJ_iload_n (j := 2) (i := 2) (pc := 11) D_TL_choice_11 rfl) D_TL_choice_12 rfl)) (CJ_ge' (off := 5) (tgt := 33) (p0 := 15) (p1 := 16) (p2 := 28) (EJ_iload_n (j := 2) (i := 2) (pc := 15) D_TL_choice_15 rfl) (EJ_getI (t := 7) (c := 6) (kf := 4) (r := (RX6, TX6, 5)) (p0 := 16) (p1 := 25) (EJ_aald (p0 := 16) (p1 := 23) (p2 := 24) (EJ_getR (t := 10) (c := 9) (kf := 1) (r := (RX9, TX9, 4)) (p0 := 16) (p1 := 20) (EJ_getR (t := 12) (c := 11) (kf := 3) (r := (RX11, TX11, 16)) (p0 := 16) (p1 := 17) (EJ_aload_n (j := 0) (i := 0) (pc := 16) D_TL_choice_16 rfl) D_TL_choice_17 ⟨rfl, rfl, by decide, q_258⟩ (fun _ _ => rfl)) D_TL_choice_20 ⟨rfl, rfl, by decide, q_177⟩ (fun _ _ => rfl)) (EJ_iload_n (j := 1) (i := 1) (pc := 23) D_TL_choice_23 rfl) D_TL_choice_24 (Or.inl ⟨_, rfl⟩)) D_TL_choice_25 ⟨rfl, rfl, by decide, q_403⟩ (fun _ _ => rfl)) D_TL_choice_28 rfl)) (SJ_ret (p0 := 31) (p1 := 32) (EJ_iconst (n := -1) (v := (-1)) (pc := 31) D_TL_choice_31 (by decide +kernel)) D_TL_choice_32) SJ_sk)
 (SJ_sq (p0 := 33) (p1 := 49) (nN := 0) (nB := 0) (nC := 0) (SJ_astore (i := 4) (p0 := 33) (p1 := 47) (EJ_aald (p0 := 33) (p1 := 45) (p2 := 46) (EJ_getR (t := 7) (c := 6) (kf := 3) (r := (RX6, TX6, 5)) (p0 := 33) (p1 := 42) (EJ_aald (p0 := 33) (p1 := 40) (p2 := 41) (EJ_getR (t := 10) (c := 9) (kf := 1) (r := (RX9, TX9, 4)) (p0 := 33) (p1 := 37) (EJ_getR (t := 12) (c := 11) (kf := 3) (r := (RX11, TX11, 16)) (p0 := 33) (p1 := 34) (EJ_aload_n (j := 0) (i := 0) (pc := 33) D_TL_choice_33 rfl) D_TL_choice_34 ⟨rfl, rfl, by decide, q_258⟩ (fun _ _ => rfl)) D_TL_choice_37 ⟨rfl, rfl, by decide, q_177⟩ (fun _ _ => rfl)) (EJ_iload_n (j := 1) (i := 1) (pc := 40) D_TL_choice_40 rfl) D_TL_choice_41 (Or.inl ⟨_, rfl⟩)) D_TL_choice_42 ⟨rfl, rfl, by decide, q_399⟩ (fun _ _ => rfl)) (EJ_iload_n (j := 2) (i := 2) (pc := 45) D_TL_choice_45 rfl) D_TL_choice_46 (Or.inl ⟨_, rfl⟩)) D_TL_choice_47)
 (SJ_sw (p0 := 49) (p1 := 50) (pD := 107) (EJ_iload_n (j := 3) (i := 3) (pc := 49) D_TL_choice_49 rfl) D_TL_choice_50 (by decide) (fun j qq hq => match j, hq with | 0, hq => (by cases hq; exact ⟨⟨_, rfl, rfl⟩, (SJ_ret (p0 := 76) (p1 := 81) (EJ_getI (t := 1) (c := 0) (kf := 2) (r := (RX0, TX0, 11)) (p0 := 76) (p1 := 78) (EJ_aload (i := 4) (pc := 76) D_TL_choice_76) D_TL_choice_78 ⟨rfl, rfl, by decide, q_424⟩ (fun _ _ => rfl)) D_TL_choice_81)⟩) | 1, hq => (by cases hq; exact ⟨⟨_, rfl, rfl⟩, (SJ_ret (p0 := 82) (p1 := 97) (EJ_callV (t := 11) (c := 10) (r := (RX10, TX10, 7)) (p0 := 82) (p1 := 89) (p2 := 94) (EJ_getR (t := 10) (c := 9) (kf := 0) (r := (RX9, TX9, 4)) (p0 := 82) (p1 := 86) (EJ_getR (t := 12) (c := 11) (kf := 3) (r := (RX11, TX11, 16)) (p0 := 82) (p1 := 83) (EJ_aload_n (j := 0) (i := 0) (pc := 82) D_TL_choice_82 rfl) D_TL_choice_83 ⟨rfl, rfl, by decide, q_258⟩ (fun _ _ => rfl)) D_TL_choice_86 ⟨rfl, rfl, by decide, q_174⟩ (fun _ _ => rfl)) (AJ_I (p0 := 89) (p1 := 94) (p2 := 94) (EJ_getI (t := 1) (c := 0) (kf := 7) (r := (RX0, TX0, 11)) (p0 := 89) (p1 := 91) (EJ_aload (i := 4) (pc := 89) D_TL_choice_89) D_TL_choice_91 ⟨rfl, rfl, by decide, q_434⟩ (fun _ _ => rfl)) AJ_nil) m_Upper_letterBits E1_I D_TL_choice_94 rfl rfl rfl q_700 q_701 q_702 q_93 ⟨by decide +kernel, by decide +kernel, by decide +kernel⟩ (by decide) (show 1 + 1 ≤ 2 from by decide) (fun _ h => absurd h List.not_mem_nil)) D_TL_choice_97)⟩) | 2, hq => (by cases hq; exact ⟨⟨_, rfl, rfl⟩, (SJ_ret (p0 := 98) (p1 := 106) (EJ_callS (p0 := 98) (p1 := 103) (AJ_I (p0 := 98) (p1 := 103) (p2 := 103) (EJ_getI (t := 1) (c := 0) (kf := 3) (r := (RX0, TX0, 11)) (p0 := 98) (p1 := 100) (EJ_aload (i := 4) (pc := 98) D_TL_choice_98) D_TL_choice_100 ⟨rfl, rfl, by decide, q_426⟩ (fun _ _ => rfl)) AJ_nil) m_Integer_bitCount E1_I D_TL_choice_103 q_716 q_347 q_99 ⟨by decide +kernel, by decide +kernel, by decide +kernel⟩ (by decide) (show 1 + 1 ≤ 2 from by decide) (fun _ h => absurd h List.not_mem_nil)) D_TL_choice_106)⟩) | (_ + 3), hq => by simp at hq) rfl (SJ_ret (p0 := 107) (p1 := 108) (EJ_iconst (n := -1) (v := (-1)) (pc := 107) D_TL_choice_107 (by decide +kernel)) D_TL_choice_108))))
 RTm_int q_715 (by decide +kernel) rfl (fun h => by cases h) (show 5 ≤ 40 from by decide) (fun _ => trivial)
theorem D_State_alternatives_0 : decode cX9_alternatives 0 = .ok (.iconst (0), 1) := by decide +kernel
theorem D_State_alternatives_1 : decode cX9_alternatives 1 = .ok (.istore_n 1, 1) := by decide +kernel
theorem D_State_alternatives_2 : decode cX9_alternatives 2 = .ok (.aload_n 0, 1) := by decide +kernel
theorem D_State_alternatives_3 : decode cX9_alternatives 3 = .ok (.getfield 13, 3) := by decide +kernel
theorem D_State_alternatives_6 : decode cX9_alternatives 6 = .ok (.astore_n 2, 1) := by decide +kernel
theorem D_State_alternatives_7 : decode cX9_alternatives 7 = .ok (.aload_n 2, 1) := by decide +kernel
theorem D_State_alternatives_8 : decode cX9_alternatives 8 = .ok (.arraylength, 1) := by decide +kernel
theorem D_State_alternatives_9 : decode cX9_alternatives 9 = .ok (.istore_n 3, 1) := by decide +kernel
theorem D_State_alternatives_10 : decode cX9_alternatives 10 = .ok (.iconst (0), 1) := by decide +kernel
theorem D_State_alternatives_11 : decode cX9_alternatives 11 = .ok (.istore 4, 2) := by decide +kernel
theorem D_State_alternatives_13 : decode cX9_alternatives 13 = .ok (.iload 4, 2) := by decide +kernel
theorem D_State_alternatives_15 : decode cX9_alternatives 15 = .ok (.iload_n 3, 1) := by decide +kernel
theorem D_State_alternatives_16 : decode cX9_alternatives 16 = .ok (.if_icmp .ge (23), 3) := by decide +kernel
theorem D_State_alternatives_19 : decode cX9_alternatives 19 = .ok (.aload_n 2, 1) := by decide +kernel
theorem D_State_alternatives_20 : decode cX9_alternatives 20 = .ok (.iload 4, 2) := by decide +kernel
theorem D_State_alternatives_22 : decode cX9_alternatives 22 = .ok (.aaload, 1) := by decide +kernel
theorem D_State_alternatives_23 : decode cX9_alternatives 23 = .ok (.astore 5, 2) := by decide +kernel
theorem D_State_alternatives_25 : decode cX9_alternatives 25 = .ok (.iload_n 1, 1) := by decide +kernel
theorem D_State_alternatives_26 : decode cX9_alternatives 26 = .ok (.aload 5, 2) := by decide +kernel
theorem D_State_alternatives_28 : decode cX9_alternatives 28 = .ok (.getfield 42, 3) := by decide +kernel
theorem D_State_alternatives_31 : decode cX9_alternatives 31 = .ok (.iadd, 1) := by decide +kernel
theorem D_State_alternatives_32 : decode cX9_alternatives 32 = .ok (.istore_n 1, 1) := by decide +kernel
theorem D_State_alternatives_33 : decode cX9_alternatives 33 = .ok (.iinc 4 (1), 3) := by decide +kernel
theorem D_State_alternatives_36 : decode cX9_alternatives 36 = .ok (.goto (-23), 3) := by decide +kernel
theorem D_State_alternatives_39 : decode cX9_alternatives 39 = .ok (.iload_n 1, 1) := by decide +kernel
theorem D_State_alternatives_40 : decode cX9_alternatives 40 = .ok (.ireturn, 1) := by decide +kernel
def K_State_alternatives : SC := (cX9_alternatives, "TwoLevels$State", 6, 1, false, [], NoQ)
def d_State_alternatives : MD Int32 := mth tt 6 (sq (sI1 1 (eC (nI 0)))
 (sq (sq (sR1 2 (eh1 (gR 10 1) (lR 0)))
 (sq (sI1 3 (eh1 aL (lR 2)))
 (sq (sI1 4 (eC (nI 0)))
 (loop (eh2 c_lt (lI 4) (lI 3))
 (sq (sR1 5 (eh2 (aR (.object "TwoLevels$Rule")) (lR 2) (lI 4)))
 (sI1 1 (eh2 iaddF (lI 1) (eh1 (gI 7 4) (lR 5)))))
 (sInc 4 (nI 1))))))
 (rtn (lI 1))))
theorem m_State_alternatives : MJ 1 [] yX9_alternatives (some .int) eI (d_State_alternatives) := MJ_of (K := K_State_alternatives) (ri := .ireturn) (n1 := 0) (n2 := 0) (n3 := 0)
 (SJ_sq (p0 := 0) (p1 := 2) (nN := 0) (nB := 0) (nC := 0) (SJ_istore_n (i := 1) (j := 1) (p0 := 0) (p1 := 1) (EJ_iconst (n := 0) (v := (nI 0)) (pc := 0) D_State_alternatives_0 (by decide +kernel)) D_State_alternatives_1 rfl)
 (SJ_sq (p0 := 2) (p1 := 39) (nN := 0) (nB := 0) (nC := 0) (SJ_sq (p0 := 2) (p1 := 7) (nN := 39) (nB := 0) (nC := 0) (SJ_astore_n (i := 2) (j := 2) (p0 := 2) (p1 := 6) (EJ_getR (t := 10) (c := 9) (kf := 1) (r := (RX9, TX9, 4)) (p0 := 2) (p1 := 3) (EJ_aload_n (j := 0) (i := 0) (pc := 2) D_State_alternatives_2 rfl) D_State_alternatives_3 ⟨rfl, rfl, by decide, q_176⟩ (fun _ _ => rfl)) D_State_alternatives_6 rfl)
 (SJ_sq (p0 := 7) (p1 := 10) (nN := 39) (nB := 0) (nC := 0) (SJ_istore_n (i := 3) (j := 3) (p0 := 7) (p1 := 9) (EJ_alen (p0 := 7) (p1 := 8) (EJ_aload_n (j := 2) (i := 2) (pc := 7) D_State_alternatives_7 rfl) D_State_alternatives_8) D_State_alternatives_9 rfl)
 (SJ_sq (p0 := 10) (p1 := 13) (nN := 39) (nB := 0) (nC := 0) (SJ_istore (i := 4) (p0 := 10) (p1 := 11) (EJ_iconst (n := 0) (v := (nI 0)) (pc := 10) D_State_alternatives_10 (by decide +kernel)) D_State_alternatives_11)
 (SJ_loop (p0 := 13) (pB := 19) (pS := 33) (pE := 39) (CJ_lt' (off := 23) (tgt := 39) (p0 := 13) (p1 := 15) (p2 := 16) (EJ_iload (i := 4) (pc := 13) D_State_alternatives_13) (EJ_iload_n (j := 3) (i := 3) (pc := 15) D_State_alternatives_15 rfl) D_State_alternatives_16 rfl)
 (SJ_sq (p0 := 19) (p1 := 25) (nN := 33) (nB := 39) (nC := 33) (SJ_astore (i := 5) (p0 := 19) (p1 := 23) (EJ_aald (p0 := 19) (p1 := 20) (p2 := 22) (EJ_aload_n (j := 2) (i := 2) (pc := 19) D_State_alternatives_19 rfl) (EJ_iload (i := 4) (pc := 20) D_State_alternatives_20) D_State_alternatives_22 (Or.inl ⟨_, rfl⟩)) D_State_alternatives_23)
 (SJ_istore_n (i := 1) (j := 1) (p0 := 25) (p1 := 32) (EJ_iadd (p0 := 25) (p1 := 26) (p2 := 31) (EJ_iload_n (j := 1) (i := 1) (pc := 25) D_State_alternatives_25 rfl) (EJ_getI (t := 7) (c := 6) (kf := 4) (r := (RX6, TX6, 5)) (p0 := 26) (p1 := 28) (EJ_aload (i := 5) (pc := 26) D_State_alternatives_26) D_State_alternatives_28 ⟨rfl, rfl, by decide, q_402⟩ (fun _ _ => rfl)) D_State_alternatives_31) D_State_alternatives_32 rfl))
 (SJ_post (SJ_iinc (i := 4) (n := 1) (v := (nI 1)) (pc := 33) D_State_alternatives_33 (by decide +kernel)) (Lead.goto (K := K_State_alternatives) (pc := 36) (tgt := 13) D_State_alternatives_36 rfl))))))
 (SJ_ret (p0 := 39) (p1 := 40) (EJ_iload_n (j := 1) (i := 1) (pc := 39) D_State_alternatives_39 rfl) D_State_alternatives_40)))
 RTm_int q_724 (by decide +kernel) rfl (fun h => by cases h) (show 6 ≤ 40 from by decide) (fun _ => trivial)
theorem D_Upper_barren_0 : decode cX10_barren 0 = .ok (.iconst (0), 1) := by decide +kernel
theorem D_Upper_barren_1 : decode cX10_barren 1 = .ok (.istore_n 1, 1) := by decide +kernel
theorem D_Upper_barren_2 : decode cX10_barren 2 = .ok (.iconst (0), 1) := by decide +kernel
theorem D_Upper_barren_3 : decode cX10_barren 3 = .ok (.istore_n 2, 1) := by decide +kernel
theorem D_Upper_barren_4 : decode cX10_barren 4 = .ok (.iload_n 2, 1) := by decide +kernel
theorem D_Upper_barren_5 : decode cX10_barren 5 = .ok (.aload_n 0, 1) := by decide +kernel
theorem D_Upper_barren_6 : decode cX10_barren 6 = .ok (.getfield 32, 3) := by decide +kernel
theorem D_Upper_barren_9 : decode cX10_barren 9 = .ok (.if_icmp .ge (68), 3) := by decide +kernel
theorem D_Upper_barren_12 : decode cX10_barren 12 = .ok (.iconst (0), 1) := by decide +kernel
theorem D_Upper_barren_13 : decode cX10_barren 13 = .ok (.istore_n 3, 1) := by decide +kernel
theorem D_Upper_barren_14 : decode cX10_barren 14 = .ok (.iload_n 3, 1) := by decide +kernel
theorem D_Upper_barren_15 : decode cX10_barren 15 = .ok (.aload_n 0, 1) := by decide +kernel
theorem D_Upper_barren_16 : decode cX10_barren 16 = .ok (.getfield 32, 3) := by decide +kernel
theorem D_Upper_barren_19 : decode cX10_barren 19 = .ok (.if_icmp .ge (52), 3) := by decide +kernel
theorem D_Upper_barren_22 : decode cX10_barren 22 = .ok (.iconst (0), 1) := by decide +kernel
theorem D_Upper_barren_23 : decode cX10_barren 23 = .ok (.istore 4, 2) := by decide +kernel
theorem D_Upper_barren_25 : decode cX10_barren 25 = .ok (.iload 4, 2) := by decide +kernel
theorem D_Upper_barren_27 : decode cX10_barren 27 = .ok (.aload_n 0, 1) := by decide +kernel
theorem D_Upper_barren_28 : decode cX10_barren 28 = .ok (.getfield 23, 3) := by decide +kernel
theorem D_Upper_barren_31 : decode cX10_barren 31 = .ok (.iload_n 3, 1) := by decide +kernel
theorem D_Upper_barren_32 : decode cX10_barren 32 = .ok (.iaload, 1) := by decide +kernel
theorem D_Upper_barren_33 : decode cX10_barren 33 = .ok (.if_icmp .ge (32), 3) := by decide +kernel
theorem D_Upper_barren_36 : decode cX10_barren 36 = .ok (.aload_n 0, 1) := by decide +kernel
theorem D_Upper_barren_37 : decode cX10_barren 37 = .ok (.iload_n 3, 1) := by decide +kernel
theorem D_Upper_barren_38 : decode cX10_barren 38 = .ok (.iload 4, 2) := by decide +kernel
theorem D_Upper_barren_40 : decode cX10_barren 40 = .ok (.invokevirtual 48, 3) := by decide +kernel
theorem D_Upper_barren_43 : decode cX10_barren 43 = .ok (.invokestatic 52, 3) := by decide +kernel
theorem D_Upper_barren_46 : decode cX10_barren 46 = .ok (.iload_n 1, 1) := by decide +kernel
theorem D_Upper_barren_47 : decode cX10_barren 47 = .ok (.iconst (-1), 1) := by decide +kernel
theorem D_Upper_barren_48 : decode cX10_barren 48 = .ok (.ixor, 1) := by decide +kernel
theorem D_Upper_barren_49 : decode cX10_barren 49 = .ok (.iand, 1) := by decide +kernel
theorem D_Upper_barren_50 : decode cX10_barren 50 = .ok (.ifCond .ne (9), 3) := by decide +kernel
theorem D_Upper_barren_53 : decode cX10_barren 53 = .ok (.iload_n 1, 1) := by decide +kernel
theorem D_Upper_barren_54 : decode cX10_barren 54 = .ok (.iconst (1), 1) := by decide +kernel
theorem D_Upper_barren_55 : decode cX10_barren 55 = .ok (.iload_n 3, 1) := by decide +kernel
theorem D_Upper_barren_56 : decode cX10_barren 56 = .ok (.ishl, 1) := by decide +kernel
theorem D_Upper_barren_57 : decode cX10_barren 57 = .ok (.ior, 1) := by decide +kernel
theorem D_Upper_barren_58 : decode cX10_barren 58 = .ok (.istore_n 1, 1) := by decide +kernel
theorem D_Upper_barren_59 : decode cX10_barren 59 = .ok (.iinc 4 (1), 3) := by decide +kernel
theorem D_Upper_barren_62 : decode cX10_barren 62 = .ok (.goto (-37), 3) := by decide +kernel
theorem D_Upper_barren_65 : decode cX10_barren 65 = .ok (.iinc 3 (1), 3) := by decide +kernel
theorem D_Upper_barren_68 : decode cX10_barren 68 = .ok (.goto (-54), 3) := by decide +kernel
theorem D_Upper_barren_71 : decode cX10_barren 71 = .ok (.iinc 2 (1), 3) := by decide +kernel
theorem D_Upper_barren_74 : decode cX10_barren 74 = .ok (.goto (-70), 3) := by decide +kernel
theorem D_Upper_barren_77 : decode cX10_barren 77 = .ok (.aload_n 0, 1) := by decide +kernel
theorem D_Upper_barren_78 : decode cX10_barren 78 = .ok (.getfield 36, 3) := by decide +kernel
theorem D_Upper_barren_81 : decode cX10_barren 81 = .ok (.iload_n 1, 1) := by decide +kernel
theorem D_Upper_barren_82 : decode cX10_barren 82 = .ok (.iconst (-1), 1) := by decide +kernel
theorem D_Upper_barren_83 : decode cX10_barren 83 = .ok (.ixor, 1) := by decide +kernel
theorem D_Upper_barren_84 : decode cX10_barren 84 = .ok (.iand, 1) := by decide +kernel
theorem D_Upper_barren_85 : decode cX10_barren 85 = .ok (.ireturn, 1) := by decide +kernel
def K_Upper_barren : SC := (cX10_barren, "TwoLevels$Upper", 5, 2, false, [], NoQ)
def d_Upper_barren : MD Int32 := mth tt 5 (sq (sI1 1 (eC (nI 0)))
 (sq (sq (sI1 2 (eC (nI 0)))
 (loop (eh2 c_lt (lI 2) (eh1 (gI 11 6) (lR 0)))
 (sq (sI1 3 (eC (nI 0)))
 (loop (eh2 c_lt (lI 3) (eh1 (gI 11 6) (lR 0)))
 (sq (sI1 4 (eC (nI 0)))
 (loop (eh2 c_lt (lI 4) (eh2 (aI .int) (eh1 (gR 11 3) (lR 0)) (lI 3)))
 (sIf (eh1 z_eq (eh2 iandF (kS d_Upper_bitsOf [vR (kV 11 d_Upper_rowOf (lR 0) [vI (lI 3), vI (lI 4)])]) (eh2 ixorF (lI 1) (eC (-1))))) (sI1 1 (eh2 iorF (lI 1) (eh2 ishlF (eC (nI 1)) (lI 3)))) sk)
 (sInc 4 (nI 1))))
 (sInc 3 (nI 1))))
 (sInc 2 (nI 1))))
 (rtn (eh2 iandF (eh1 (gI 11 5) (lR 0)) (eh2 ixorF (lI 1) (eC (-1)))))))
theorem m_Upper_barren : MJ 2 [] yX10_barren (some .int) eI (d_Upper_barren) := MJ_of (K := K_Upper_barren) (ri := .ireturn) (n1 := 0) (n2 := 0) (n3 := 0)
 (SJ_sq (p0 := 0) (p1 := 2) (nN := 0) (nB := 0) (nC := 0) (SJ_istore_n (i := 1) (j := 1) (p0 := 0) (p1 := 1) (EJ_iconst (n := 0) (v := (nI 0)) (pc := 0) D_Upper_barren_0 (by decide +kernel)) D_Upper_barren_1 rfl)
 (SJ_sq (p0 := 2) (p1 := 77) (nN := 0) (nB := 0) (nC := 0) (SJ_sq (p0 := 2) (p1 := 4) (nN := 77) (nB := 0) (nC := 0) (SJ_istore_n (i := 2) (j := 2) (p0 := 2) (p1 := 3) (EJ_iconst (n := 0) (v := (nI 0)) (pc := 2) D_Upper_barren_2 (by decide +kernel)) D_Upper_barren_3 rfl)
 (SJ_loop (p0 := 4) (pB := 12) (pS := 71) (pE := 77) (CJ_lt' (off := 68) (tgt := 77) (p0 := 4) (p1 := 5) (p2 := 9) (EJ_iload_n (j := 2) (i := 2) (pc := 4) D_Upper_barren_4 rfl) (EJ_getI (t := 11) (c := 10) (kf := 6) (r := (RX10, TX10, 7)) (p0 := 5) (p1 := 6) (EJ_aload_n (j := 0) (i := 0) (pc := 5) D_Upper_barren_5 rfl) D_Upper_barren_6 ⟨rfl, rfl, by decide, q_135⟩ (fun _ _ => rfl)) D_Upper_barren_9 rfl)
 (SJ_sq (p0 := 12) (p1 := 14) (nN := 71) (nB := 77) (nC := 71) (SJ_istore_n (i := 3) (j := 3) (p0 := 12) (p1 := 13) (EJ_iconst (n := 0) (v := (nI 0)) (pc := 12) D_Upper_barren_12 (by decide +kernel)) D_Upper_barren_13 rfl)
 (SJ_loop (p0 := 14) (pB := 22) (pS := 65) (pE := 71) (CJ_lt' (off := 52) (tgt := 71) (p0 := 14) (p1 := 15) (p2 := 19) (EJ_iload_n (j := 3) (i := 3) (pc := 14) D_Upper_barren_14 rfl) (EJ_getI (t := 11) (c := 10) (kf := 6) (r := (RX10, TX10, 7)) (p0 := 15) (p1 := 16) (EJ_aload_n (j := 0) (i := 0) (pc := 15) D_Upper_barren_15 rfl) D_Upper_barren_16 ⟨rfl, rfl, by decide, q_135⟩ (fun _ _ => rfl)) D_Upper_barren_19 rfl)
 (SJ_sq (p0 := 22) (p1 := 25) (nN := 65) (nB := 71) (nC := 65) (SJ_istore (i := 4) (p0 := 22) (p1 := 23) (EJ_iconst (n := 0) (v := (nI 0)) (pc := 22) D_Upper_barren_22 (by decide +kernel)) D_Upper_barren_23)
 (SJ_loop (p0 := 25) (pB := 36) (pS := 59) (pE := 65) (CJ_lt' (off := 32) (tgt := 65) (p0 := 25) (p1 := 27) (p2 := 33) (EJ_iload (i := 4) (pc := 25) D_Upper_barren_25) (EJ_iald (p0 := 27) (p1 := 31) (p2 := 32) (EJ_getR (t := 11) (c := 10) (kf := 3) (r := (RX10, TX10, 7)) (p0 := 27) (p1 := 28) (EJ_aload_n (j := 0) (i := 0) (pc := 27) D_Upper_barren_27 rfl) D_Upper_barren_28 ⟨rfl, rfl, by decide, q_132⟩ (fun _ _ => rfl)) (EJ_iload_n (j := 3) (i := 3) (pc := 31) D_Upper_barren_31 rfl) D_Upper_barren_32) D_Upper_barren_33 rfl)
 (SJ_if (p0 := 36) (pT := 53) (pF := 59) (nN := 59) (nB := 65) (nC := 59) (CZ_eq' (off := 9) (tgt := 59) (p0 := 36) (p1 := 50) (EJ_iand (p0 := 36) (p1 := 46) (p2 := 49) (EJ_callS (p0 := 36) (p1 := 43) (AJ_R (p0 := 36) (p1 := 43) (p2 := 43) (EJ_callV (t := 11) (c := 10) (r := (RX10, TX10, 7)) (p0 := 36) (p1 := 37) (p2 := 40) (EJ_aload_n (j := 0) (i := 0) (pc := 36) D_Upper_barren_36 rfl) (AJ_I (p0 := 37) (p1 := 38) (p2 := 40) (EJ_iload_n (j := 3) (i := 3) (pc := 37) D_Upper_barren_37 rfl) (AJ_I (p0 := 38) (p1 := 40) (p2 := 40) (EJ_iload (i := 4) (pc := 38) D_Upper_barren_38) AJ_nil)) m_Upper_rowOf E1_R D_Upper_barren_40 rfl rfl rfl q_488 q_489 q_490 q_93 ⟨by decide +kernel, by decide +kernel, by decide +kernel⟩ (by decide) (show 1 + 1 ≤ 2 from by decide) (fun _ h => absurd h List.not_mem_nil)) AJ_nil) m_Upper_bitsOf E1_I D_Upper_barren_43 q_640 q_386 q_93 ⟨by decide +kernel, by decide +kernel, by decide +kernel⟩ (by decide) (show 1 + 1 ≤ 2 from by decide) (fun _ h => absurd h List.not_mem_nil)) (EJ_ixor (p0 := 46) (p1 := 47) (p2 := 48) (EJ_iload_n (j := 1) (i := 1) (pc := 46) D_Upper_barren_46 rfl) (EJ_iconst (n := -1) (v := (-1)) (pc := 47) D_Upper_barren_47 (by decide +kernel)) D_Upper_barren_48) D_Upper_barren_49) D_Upper_barren_50 rfl) (SJ_istore_n (i := 1) (j := 1) (p0 := 53) (p1 := 58) (EJ_ior (p0 := 53) (p1 := 54) (p2 := 57) (EJ_iload_n (j := 1) (i := 1) (pc := 53) D_Upper_barren_53 rfl) (EJ_ishl (p0 := 54) (p1 := 55) (p2 := 56) (EJ_iconst (n := 1) (v := (nI 1)) (pc := 54) D_Upper_barren_54 (by decide +kernel)) (EJ_iload_n (j := 3) (i := 3) (pc := 55) D_Upper_barren_55 rfl) D_Upper_barren_56) D_Upper_barren_57) D_Upper_barren_58 rfl) SJ_sk)
 (SJ_post (SJ_iinc (i := 4) (n := 1) (v := (nI 1)) (pc := 59) D_Upper_barren_59 (by decide +kernel)) (Lead.goto (K := K_Upper_barren) (pc := 62) (tgt := 25) D_Upper_barren_62 rfl))))
 (SJ_post (SJ_iinc (i := 3) (n := 1) (v := (nI 1)) (pc := 65) D_Upper_barren_65 (by decide +kernel)) (Lead.goto (K := K_Upper_barren) (pc := 68) (tgt := 14) D_Upper_barren_68 rfl))))
 (SJ_post (SJ_iinc (i := 2) (n := 1) (v := (nI 1)) (pc := 71) D_Upper_barren_71 (by decide +kernel)) (Lead.goto (K := K_Upper_barren) (pc := 74) (tgt := 4) D_Upper_barren_74 rfl))))
 (SJ_ret (p0 := 77) (p1 := 85) (EJ_iand (p0 := 77) (p1 := 81) (p2 := 84) (EJ_getI (t := 11) (c := 10) (kf := 5) (r := (RX10, TX10, 7)) (p0 := 77) (p1 := 78) (EJ_aload_n (j := 0) (i := 0) (pc := 77) D_Upper_barren_77 rfl) D_Upper_barren_78 ⟨rfl, rfl, by decide, q_134⟩ (fun _ _ => rfl)) (EJ_ixor (p0 := 81) (p1 := 82) (p2 := 83) (EJ_iload_n (j := 1) (i := 1) (pc := 81) D_Upper_barren_81 rfl) (EJ_iconst (n := -1) (v := (-1)) (pc := 82) D_Upper_barren_82 (by decide +kernel)) D_Upper_barren_83) D_Upper_barren_84) D_Upper_barren_85)))
 RTm_int q_639 (by decide +kernel) rfl (fun h => by cases h) (show 5 ≤ 40 from by decide) (fun _ => trivial)
theorem D_TL_count_0 : decode cX11_count 0 = .ok (.iload_n 1, 1) := by decide +kernel
theorem D_TL_count_1 : decode cX11_count 1 = .ok (.tableswitch 178 0 10 #[59, 70, 79, 87, 93, 101, 109, 117, 122, 127, 157], 59) := by decide +kernel
theorem D_TL_count_60 : decode cX11_count 60 = .ok (.aload_n 0, 1) := by decide +kernel
theorem D_TL_count_61 : decode cX11_count 61 = .ok (.getfield 30, 3) := by decide +kernel
theorem D_TL_count_64 : decode cX11_count 64 = .ok (.getfield 53, 3) := by decide +kernel
theorem D_TL_count_67 : decode cX11_count 67 = .ok (.getfield 248, 3) := by decide +kernel
theorem D_TL_count_70 : decode cX11_count 70 = .ok (.ireturn, 1) := by decide +kernel
theorem D_TL_count_71 : decode cX11_count 71 = .ok (.aload_n 0, 1) := by decide +kernel
theorem D_TL_count_72 : decode cX11_count 72 = .ok (.getfield 30, 3) := by decide +kernel
theorem D_TL_count_75 : decode cX11_count 75 = .ok (.getfield 118, 3) := by decide +kernel
theorem D_TL_count_78 : decode cX11_count 78 = .ok (.arraylength, 1) := by decide +kernel
theorem D_TL_count_79 : decode cX11_count 79 = .ok (.ireturn, 1) := by decide +kernel
theorem D_TL_count_80 : decode cX11_count 80 = .ok (.aload_n 0, 1) := by decide +kernel
theorem D_TL_count_81 : decode cX11_count 81 = .ok (.getfield 30, 3) := by decide +kernel
theorem D_TL_count_84 : decode cX11_count 84 = .ok (.invokevirtual 249, 3) := by decide +kernel
theorem D_TL_count_87 : decode cX11_count 87 = .ok (.ireturn, 1) := by decide +kernel
theorem D_TL_count_88 : decode cX11_count 88 = .ok (.aload_n 0, 1) := by decide +kernel
theorem D_TL_count_89 : decode cX11_count 89 = .ok (.getfield 34, 3) := by decide +kernel
theorem D_TL_count_92 : decode cX11_count 92 = .ok (.arraylength, 1) := by decide +kernel
theorem D_TL_count_93 : decode cX11_count 93 = .ok (.ireturn, 1) := by decide +kernel
theorem D_TL_count_94 : decode cX11_count 94 = .ok (.aload_n 0, 1) := by decide +kernel
theorem D_TL_count_95 : decode cX11_count 95 = .ok (.getfield 108, 3) := by decide +kernel
theorem D_TL_count_98 : decode cX11_count 98 = .ok (.invokestatic 175, 3) := by decide +kernel
theorem D_TL_count_101 : decode cX11_count 101 = .ok (.ireturn, 1) := by decide +kernel
theorem D_TL_count_102 : decode cX11_count 102 = .ok (.aload_n 0, 1) := by decide +kernel
theorem D_TL_count_103 : decode cX11_count 103 = .ok (.getfield 30, 3) := by decide +kernel
theorem D_TL_count_106 : decode cX11_count 106 = .ok (.getfield 102, 3) := by decide +kernel
theorem D_TL_count_109 : decode cX11_count 109 = .ok (.ireturn, 1) := by decide +kernel
theorem D_TL_count_110 : decode cX11_count 110 = .ok (.aload_n 0, 1) := by decide +kernel
theorem D_TL_count_111 : decode cX11_count 111 = .ok (.getfield 30, 3) := by decide +kernel
theorem D_TL_count_114 : decode cX11_count 114 = .ok (.getfield 105, 3) := by decide +kernel
theorem D_TL_count_117 : decode cX11_count 117 = .ok (.ireturn, 1) := by decide +kernel
theorem D_TL_count_118 : decode cX11_count 118 = .ok (.aload_n 0, 1) := by decide +kernel
theorem D_TL_count_119 : decode cX11_count 119 = .ok (.getfield 112, 3) := by decide +kernel
theorem D_TL_count_122 : decode cX11_count 122 = .ok (.ireturn, 1) := by decide +kernel
theorem D_TL_count_123 : decode cX11_count 123 = .ok (.aload_n 0, 1) := by decide +kernel
theorem D_TL_count_124 : decode cX11_count 124 = .ok (.getfield 86, 3) := by decide +kernel
theorem D_TL_count_127 : decode cX11_count 127 = .ok (.ireturn, 1) := by decide +kernel
theorem D_TL_count_128 : decode cX11_count 128 = .ok (.aload_n 0, 1) := by decide +kernel
theorem D_TL_count_129 : decode cX11_count 129 = .ok (.getfield 47, 3) := by decide +kernel
theorem D_TL_count_132 : decode cX11_count 132 = .ok (.iconst (0), 1) := by decide +kernel
theorem D_TL_count_133 : decode cX11_count 133 = .ok (.aaload, 1) := by decide +kernel
theorem D_TL_count_134 : decode cX11_count 134 = .ok (.ifnonnull (7), 3) := by decide +kernel
theorem D_TL_count_137 : decode cX11_count 137 = .ok (.iconst (0), 1) := by decide +kernel
theorem D_TL_count_138 : decode cX11_count 138 = .ok (.goto (4), 3) := by decide +kernel
theorem D_TL_count_141 : decode cX11_count 141 = .ok (.iconst (1), 1) := by decide +kernel
theorem D_TL_count_142 : decode cX11_count 142 = .ok (.aload_n 0, 1) := by decide +kernel
theorem D_TL_count_143 : decode cX11_count 143 = .ok (.getfield 47, 3) := by decide +kernel
theorem D_TL_count_146 : decode cX11_count 146 = .ok (.iconst (1), 1) := by decide +kernel
theorem D_TL_count_147 : decode cX11_count 147 = .ok (.aaload, 1) := by decide +kernel
theorem D_TL_count_148 : decode cX11_count 148 = .ok (.ifnonnull (7), 3) := by decide +kernel
theorem D_TL_count_151 : decode cX11_count 151 = .ok (.iconst (0), 1) := by decide +kernel
theorem D_TL_count_152 : decode cX11_count 152 = .ok (.goto (4), 3) := by decide +kernel
theorem D_TL_count_155 : decode cX11_count 155 = .ok (.iconst (2), 1) := by decide +kernel
theorem D_TL_count_156 : decode cX11_count 156 = .ok (.iadd, 1) := by decide +kernel
theorem D_TL_count_157 : decode cX11_count 157 = .ok (.ireturn, 1) := by decide +kernel
theorem D_TL_count_158 : decode cX11_count 158 = .ok (.aload_n 0, 1) := by decide +kernel
theorem D_TL_count_159 : decode cX11_count 159 = .ok (.getfield 30, 3) := by decide +kernel
theorem D_TL_count_162 : decode cX11_count 162 = .ok (.getfield 53, 3) := by decide +kernel
theorem D_TL_count_165 : decode cX11_count 165 = .ok (.aload_n 0, 1) := by decide +kernel
theorem D_TL_count_166 : decode cX11_count 166 = .ok (.getfield 30, 3) := by decide +kernel
theorem D_TL_count_169 : decode cX11_count 169 = .ok (.getfield 53, 3) := by decide +kernel
theorem D_TL_count_172 : decode cX11_count 172 = .ok (.invokevirtual 192, 3) := by decide +kernel
theorem D_TL_count_175 : decode cX11_count 175 = .ok (.invokevirtual 224, 3) := by decide +kernel
theorem D_TL_count_178 : decode cX11_count 178 = .ok (.ireturn, 1) := by decide +kernel
theorem D_TL_count_179 : decode cX11_count 179 = .ok (.iconst (-1), 1) := by decide +kernel
theorem D_TL_count_180 : decode cX11_count 180 = .ok (.ireturn, 1) := by decide +kernel
def K_TL_count : SC := (cX11_count, "TwoLevels", 2, 3, false, [], NoQ)
def d_TL_count : MD Int32 := mth tt 2 (sSw (lI 1) [((rtn (eh1 (gI 11 6) (eh1 (gR 10 0) (eh1 (gR 12 3) (lR 0))))), 60),
 ((rtn (eh1 aL (eh1 (gR 10 1) (eh1 (gR 12 3) (lR 0))))), 71),
 ((rtn (kV 10 d_State_alternatives (eh1 (gR 12 3) (lR 0)) [])), 80),
 ((rtn (eh1 aL (eh1 (gR 12 5) (lR 0)))), 88),
 ((rtn (kS d_Rows_size [vJ (eh1 (gJ 12 4) (lR 0))])), 94),
 ((rtn (eh1 (gI 10 2) (eh1 (gR 12 3) (lR 0)))), 102),
 ((rtn (eh1 (gI 10 3) (eh1 (gR 12 3) (lR 0)))), 110),
 ((rtn (eh1 (gI 12 8) (lR 0))), 118),
 ((rtn (eh1 (gI 12 1) (lR 0))), 123),
 ((rtn (eh2 iaddF (eIf (eh1 n_nul (eh2 (aR (.object "TwoLevels$Shelf")) (eh1 (gR 12 9) (lR 0)) (eC (nI 0)))) (eC (nI 0)) (eC (nI 1))) (eIf (eh1 n_nul (eh2 (aR (.object "TwoLevels$Shelf")) (eh1 (gR 12 9) (lR 0)) (eC (nI 1)))) (eC (nI 0)) (eC (nI 2))))), 128),
 ((rtn (kV 11 d_Upper_letterBits (eh1 (gR 10 0) (eh1 (gR 12 3) (lR 0))) [vI (kV 11 d_Upper_barren (eh1 (gR 10 0) (eh1 (gR 12 3) (lR 0))) [])])), 158)]
 (rtn (eC (-1))))
theorem m_TL_count : MJ 3 [] yX11_count (some .int) eI (d_TL_count) := MJ_of (K := K_TL_count) (ri := .ireturn) (n1 := 0) (n2 := 0) (n3 := 0)
 (SJ_sw (p0 := 0) (p1 := 1) (pD := 179) (EJ_iload_n (j := 1) (i := 1) (pc := 0) D_TL_count_0 rfl) D_TL_count_1 (by decide) (fun j qq hq => match j, hq with | 0, hq => (by cases hq; exact ⟨⟨_, rfl, rfl⟩, (SJ_ret (p0 := 60) (p1 := 70) (EJ_getI (t := 11) (c := 10) (kf := 6) (r := (RX10, TX10, 7)) (p0 := 60) (p1 := 67) (EJ_getR (t := 10) (c := 9) (kf := 0) (r := (RX9, TX9, 4)) (p0 := 60) (p1 := 64) (EJ_getR (t := 12) (c := 11) (kf := 3) (r := (RX11, TX11, 16)) (p0 := 60) (p1 := 61) (EJ_aload_n (j := 0) (i := 0) (pc := 60) D_TL_count_60 rfl) D_TL_count_61 ⟨rfl, rfl, by decide, q_258⟩ (fun _ _ => rfl)) D_TL_count_64 ⟨rfl, rfl, by decide, q_174⟩ (fun _ _ => rfl)) D_TL_count_67 ⟨rfl, rfl, by decide, q_137⟩ (fun _ _ => rfl)) D_TL_count_70)⟩) | 1, hq => (by cases hq; exact ⟨⟨_, rfl, rfl⟩, (SJ_ret (p0 := 71) (p1 := 79) (EJ_alen (p0 := 71) (p1 := 78) (EJ_getR (t := 10) (c := 9) (kf := 1) (r := (RX9, TX9, 4)) (p0 := 71) (p1 := 75) (EJ_getR (t := 12) (c := 11) (kf := 3) (r := (RX11, TX11, 16)) (p0 := 71) (p1 := 72) (EJ_aload_n (j := 0) (i := 0) (pc := 71) D_TL_count_71 rfl) D_TL_count_72 ⟨rfl, rfl, by decide, q_258⟩ (fun _ _ => rfl)) D_TL_count_75 ⟨rfl, rfl, by decide, q_177⟩ (fun _ _ => rfl)) D_TL_count_78) D_TL_count_79)⟩) | 2, hq => (by cases hq; exact ⟨⟨_, rfl, rfl⟩, (SJ_ret (p0 := 80) (p1 := 87) (EJ_callV (t := 10) (c := 9) (r := (RX9, TX9, 4)) (p0 := 80) (p1 := 84) (p2 := 84) (EJ_getR (t := 12) (c := 11) (kf := 3) (r := (RX11, TX11, 16)) (p0 := 80) (p1 := 81) (EJ_aload_n (j := 0) (i := 0) (pc := 80) D_TL_count_80 rfl) D_TL_count_81 ⟨rfl, rfl, by decide, q_258⟩ (fun _ _ => rfl)) AJ_nil m_State_alternatives E1_I D_TL_count_84 rfl rfl rfl q_721 q_722 q_723 q_94 ⟨by decide +kernel, by decide +kernel, by decide +kernel⟩ (by decide) (show 1 + 1 ≤ 3 from by decide) (fun _ h => absurd h List.not_mem_nil)) D_TL_count_87)⟩) | 3, hq => (by cases hq; exact ⟨⟨_, rfl, rfl⟩, (SJ_ret (p0 := 88) (p1 := 93) (EJ_alen (p0 := 88) (p1 := 92) (EJ_getR (t := 12) (c := 11) (kf := 5) (r := (RX11, TX11, 16)) (p0 := 88) (p1 := 89) (EJ_aload_n (j := 0) (i := 0) (pc := 88) D_TL_count_88 rfl) D_TL_count_89 ⟨rfl, rfl, by decide, q_260⟩ (fun _ _ => rfl)) D_TL_count_92) D_TL_count_93)⟩) | 4, hq => (by cases hq; exact ⟨⟨_, rfl, rfl⟩, (SJ_ret (p0 := 94) (p1 := 101) (EJ_callS (p0 := 94) (p1 := 98) (AJ_J (p0 := 94) (p1 := 98) (p2 := 98) (EJ_getJ (t := 12) (c := 11) (kf := 4) (r := (RX11, TX11, 16)) (p0 := 94) (p1 := 95) (EJ_aload_n (j := 0) (i := 0) (pc := 94) D_TL_count_94 rfl) D_TL_count_95 ⟨rfl, rfl, by decide, q_259⟩ (fun _ _ => rfl)) AJ_nil) m_Rows_size E1_I D_TL_count_98 q_613 q_504 q_104 ⟨by decide +kernel, by decide +kernel, by decide +kernel⟩ (by decide) (show 1 + 1 ≤ 3 from by decide) (fun _ h => absurd h List.not_mem_nil)) D_TL_count_101)⟩) | 5, hq => (by cases hq; exact ⟨⟨_, rfl, rfl⟩, (SJ_ret (p0 := 102) (p1 := 109) (EJ_getI (t := 10) (c := 9) (kf := 2) (r := (RX9, TX9, 4)) (p0 := 102) (p1 := 106) (EJ_getR (t := 12) (c := 11) (kf := 3) (r := (RX11, TX11, 16)) (p0 := 102) (p1 := 103) (EJ_aload_n (j := 0) (i := 0) (pc := 102) D_TL_count_102 rfl) D_TL_count_103 ⟨rfl, rfl, by decide, q_258⟩ (fun _ _ => rfl)) D_TL_count_106 ⟨rfl, rfl, by decide, q_180⟩ (fun _ _ => rfl)) D_TL_count_109)⟩) | 6, hq => (by cases hq; exact ⟨⟨_, rfl, rfl⟩, (SJ_ret (p0 := 110) (p1 := 117) (EJ_getI (t := 10) (c := 9) (kf := 3) (r := (RX9, TX9, 4)) (p0 := 110) (p1 := 114) (EJ_getR (t := 12) (c := 11) (kf := 3) (r := (RX11, TX11, 16)) (p0 := 110) (p1 := 111) (EJ_aload_n (j := 0) (i := 0) (pc := 110) D_TL_count_110 rfl) D_TL_count_111 ⟨rfl, rfl, by decide, q_258⟩ (fun _ _ => rfl)) D_TL_count_114 ⟨rfl, rfl, by decide, q_182⟩ (fun _ _ => rfl)) D_TL_count_117)⟩) | 7, hq => (by cases hq; exact ⟨⟨_, rfl, rfl⟩, (SJ_ret (p0 := 118) (p1 := 122) (EJ_getI (t := 12) (c := 11) (kf := 8) (r := (RX11, TX11, 16)) (p0 := 118) (p1 := 119) (EJ_aload_n (j := 0) (i := 0) (pc := 118) D_TL_count_118 rfl) D_TL_count_119 ⟨rfl, rfl, by decide, q_263⟩ (fun _ _ => rfl)) D_TL_count_122)⟩) | 8, hq => (by cases hq; exact ⟨⟨_, rfl, rfl⟩, (SJ_ret (p0 := 123) (p1 := 127) (EJ_getI (t := 12) (c := 11) (kf := 1) (r := (RX11, TX11, 16)) (p0 := 123) (p1 := 124) (EJ_aload_n (j := 0) (i := 0) (pc := 123) D_TL_count_123 rfl) D_TL_count_124 ⟨rfl, rfl, by decide, q_256⟩ (fun _ _ => rfl)) D_TL_count_127)⟩) | 9, hq => (by cases hq; exact ⟨⟨_, rfl, rfl⟩, (SJ_ret (p0 := 128) (p1 := 157) (EJ_iadd (p0 := 128) (p1 := 142) (p2 := 156) (EJ_if (p0 := 128) (pT := 137) (pF := 141) (pE := 138) (p1 := 142) (CN_nul' (off := 7) (tgt := 141) (p0 := 128) (p1 := 134) (EJ_aald (p0 := 128) (p1 := 132) (p2 := 133) (EJ_getR (t := 12) (c := 11) (kf := 9) (r := (RX11, TX11, 16)) (p0 := 128) (p1 := 129) (EJ_aload_n (j := 0) (i := 0) (pc := 128) D_TL_count_128 rfl) D_TL_count_129 ⟨rfl, rfl, by decide, q_264⟩ (fun _ _ => rfl)) (EJ_iconst (n := 0) (v := (nI 0)) (pc := 132) D_TL_count_132 (by decide +kernel)) D_TL_count_133 (Or.inl ⟨_, rfl⟩)) D_TL_count_134 rfl) (EJ_iconst (n := 0) (v := (nI 0)) (pc := 137) D_TL_count_137 (by decide +kernel)) (Lead.goto (K := K_TL_count) (pc := 138) (tgt := 142) D_TL_count_138 rfl) (EJ_iconst (n := 1) (v := (nI 1)) (pc := 141) D_TL_count_141 (by decide +kernel))) (EJ_if (p0 := 142) (pT := 151) (pF := 155) (pE := 152) (p1 := 156) (CN_nul' (off := 7) (tgt := 155) (p0 := 142) (p1 := 148) (EJ_aald (p0 := 142) (p1 := 146) (p2 := 147) (EJ_getR (t := 12) (c := 11) (kf := 9) (r := (RX11, TX11, 16)) (p0 := 142) (p1 := 143) (EJ_aload_n (j := 0) (i := 0) (pc := 142) D_TL_count_142 rfl) D_TL_count_143 ⟨rfl, rfl, by decide, q_264⟩ (fun _ _ => rfl)) (EJ_iconst (n := 1) (v := (nI 1)) (pc := 146) D_TL_count_146 (by decide +kernel)) D_TL_count_147 (Or.inl ⟨_, rfl⟩)) D_TL_count_148 rfl) (EJ_iconst (n := 0) (v := (nI 0)) (pc := 151) D_TL_count_151 (by decide +kernel)) (Lead.goto (K := K_TL_count) (pc := 152) (tgt := 156) D_TL_count_152 rfl) (EJ_iconst (n := 2) (v := (nI 2)) (pc := 155) D_TL_count_155 (by decide +kernel))) D_TL_count_156) D_TL_count_157)⟩) | 10, hq => (by cases hq; exact ⟨⟨_, rfl, rfl⟩, (SJ_ret (p0 := 158) (p1 := 178) (EJ_callV (t := 11) (c := 10) (r := (RX10, TX10, 7)) (p0 := 158) (p1 := 165) (p2 := 175) (EJ_getR (t := 10) (c := 9) (kf := 0) (r := (RX9, TX9, 4)) (p0 := 158) (p1 := 162) (EJ_getR (t := 12) (c := 11) (kf := 3) (r := (RX11, TX11, 16)) (p0 := 158) (p1 := 159) (EJ_aload_n (j := 0) (i := 0) (pc := 158) D_TL_count_158 rfl) D_TL_count_159 ⟨rfl, rfl, by decide, q_258⟩ (fun _ _ => rfl)) D_TL_count_162 ⟨rfl, rfl, by decide, q_174⟩ (fun _ _ => rfl)) (AJ_I (p0 := 165) (p1 := 175) (p2 := 175) (EJ_callV (t := 11) (c := 10) (r := (RX10, TX10, 7)) (p0 := 165) (p1 := 172) (p2 := 172) (EJ_getR (t := 10) (c := 9) (kf := 0) (r := (RX9, TX9, 4)) (p0 := 165) (p1 := 169) (EJ_getR (t := 12) (c := 11) (kf := 3) (r := (RX11, TX11, 16)) (p0 := 165) (p1 := 166) (EJ_aload_n (j := 0) (i := 0) (pc := 165) D_TL_count_165 rfl) D_TL_count_166 ⟨rfl, rfl, by decide, q_258⟩ (fun _ _ => rfl)) D_TL_count_169 ⟨rfl, rfl, by decide, q_174⟩ (fun _ _ => rfl)) AJ_nil m_Upper_barren E1_I D_TL_count_172 rfl rfl rfl q_636 q_637 q_638 q_93 ⟨by decide +kernel, by decide +kernel, by decide +kernel⟩ (by decide) (show 2 + 1 ≤ 3 from by decide) (fun _ h => absurd h List.not_mem_nil)) AJ_nil) m_Upper_letterBits E1_I D_TL_count_175 rfl rfl rfl q_700 q_701 q_702 q_93 ⟨by decide +kernel, by decide +kernel, by decide +kernel⟩ (by decide) (show 1 + 1 ≤ 3 from by decide) (fun _ h => absurd h List.not_mem_nil)) D_TL_count_178)⟩) | (_ + 11), hq => by simp at hq) rfl (SJ_ret (p0 := 179) (p1 := 180) (EJ_iconst (n := -1) (v := (-1)) (pc := 179) D_TL_count_179 (by decide +kernel)) D_TL_count_180))
 RTm_int q_720 (by decide +kernel) rfl (fun h => by cases h) (show 2 ≤ 40 from by decide) (fun _ => trivial)
theorem D_State_init_0 : decode cX9_init 0 = .ok (.aload_n 0, 1) := by decide +kernel
theorem D_State_init_1 : decode cX9_init 1 = .ok (.invokespecial 1, 3) := by decide +kernel
theorem D_State_init_4 : decode cX9_init 4 = .ok (.aload_n 0, 1) := by decide +kernel
theorem D_State_init_5 : decode cX9_init 5 = .ok (.aload_n 1, 1) := by decide +kernel
theorem D_State_init_6 : decode cX9_init 6 = .ok (.putfield 7, 3) := by decide +kernel
theorem D_State_init_9 : decode cX9_init 9 = .ok (.aload_n 0, 1) := by decide +kernel
theorem D_State_init_10 : decode cX9_init 10 = .ok (.aload_n 2, 1) := by decide +kernel
theorem D_State_init_11 : decode cX9_init 11 = .ok (.putfield 13, 3) := by decide +kernel
theorem D_State_init_14 : decode cX9_init 14 = .ok (.aload_n 0, 1) := by decide +kernel
theorem D_State_init_15 : decode cX9_init 15 = .ok (.iload_n 3, 1) := by decide +kernel
theorem D_State_init_16 : decode cX9_init 16 = .ok (.putfield 17, 3) := by decide +kernel
theorem D_State_init_19 : decode cX9_init 19 = .ok (.aload_n 0, 1) := by decide +kernel
theorem D_State_init_20 : decode cX9_init 20 = .ok (.iload 4, 2) := by decide +kernel
theorem D_State_init_22 : decode cX9_init 22 = .ok (.putfield 21, 3) := by decide +kernel
theorem D_State_init_25 : decode cX9_init 25 = .ok (.return_, 1) := by decide +kernel
def K_State_init : SC := (cX9_init, "TwoLevels$State", 5, 1, true, [10], NoQ)
def d_State_init : MD Unit := mth tt 5 (sq sObj
 (sq (sh2 (pR 10 0) (lR 0) (lR 1))
 (sq (sh2 (pR 10 1) (lR 0) (lR 2))
 (sq (sh2 (pI false 10 2) (lR 0) (lI 3))
 (sq (sh2 (pI false 10 3) (lR 0) (lI 4))
 rtnU)))))
theorem m_State_init : MJ 1 [10] yX9_init none eU (d_State_init) := MJ_of (K := K_State_init) (ri := .return_) (n1 := 0) (n2 := 0) (n3 := 0)
 (SJ_sq (p0 := 0) (p1 := 4) (nN := 0) (nB := 0) (nC := 0) (SJ_obj (pc := 0) (idx := 1) D_State_init_0 D_State_init_1 q_172 q_114 q_115 (show 1 ≤ 1 from by decide))
 (SJ_sq (p0 := 4) (p1 := 9) (nN := 0) (nB := 0) (nC := 0) (SJ_putR (t := 10) (c := 9) (kf := 0) (r := (RX9, TX9, 4)) (p0 := 4) (p1 := 5) (p2 := 6) (EJ_aload_n (j := 0) (i := 0) (pc := 4) D_State_init_4 rfl) (EJ_aload_n (j := 1) (i := 1) (pc := 5) D_State_init_5 rfl) D_State_init_6 ⟨rfl, rfl, by decide, q_173⟩ (Or.inr ⟨rfl, rfl⟩) (Or.inl ⟨_, rfl⟩) (fun _ _ => rfl) (show (10 : Nat) ∈ ([10] : List Nat) from by decide))
 (SJ_sq (p0 := 9) (p1 := 14) (nN := 0) (nB := 0) (nC := 0) (SJ_putR (t := 10) (c := 9) (kf := 1) (r := (RX9, TX9, 4)) (p0 := 9) (p1 := 10) (p2 := 11) (EJ_aload_n (j := 0) (i := 0) (pc := 9) D_State_init_9 rfl) (EJ_aload_n (j := 2) (i := 2) (pc := 10) D_State_init_10 rfl) D_State_init_11 ⟨rfl, rfl, by decide, q_176⟩ (Or.inr ⟨rfl, rfl⟩) (Or.inr ⟨_, rfl⟩) (fun _ _ => rfl) (show (10 : Nat) ∈ ([10] : List Nat) from by decide))
 (SJ_sq (p0 := 14) (p1 := 19) (nN := 0) (nB := 0) (nC := 0) (SJ_putI (z := false) (t := 10) (c := 9) (kf := 2) (r := (RX9, TX9, 4)) (p0 := 14) (p1 := 15) (p2 := 16) (EJ_aload_n (j := 0) (i := 0) (pc := 14) D_State_init_14 rfl) (EJ_iload_n (j := 3) (i := 3) (pc := 15) D_State_init_15 rfl) D_State_init_16 ⟨rfl, rfl, by decide, q_179⟩ (Or.inr ⟨rfl, rfl⟩) (fun _ _ => ⟨rfl, rfl⟩) (fun _ _ => rfl) (show (10 : Nat) ∈ ([10] : List Nat) from by decide))
 (SJ_sq (p0 := 19) (p1 := 25) (nN := 0) (nB := 0) (nC := 0) (SJ_putI (z := false) (t := 10) (c := 9) (kf := 3) (r := (RX9, TX9, 4)) (p0 := 19) (p1 := 20) (p2 := 22) (EJ_aload_n (j := 0) (i := 0) (pc := 19) D_State_init_19 rfl) (EJ_iload (i := 4) (pc := 20) D_State_init_20) D_State_init_22 ⟨rfl, rfl, by decide, q_181⟩ (Or.inr ⟨rfl, rfl⟩) (fun _ _ => ⟨rfl, rfl⟩) (fun _ _ => rfl) (show (10 : Nat) ∈ ([10] : List Nat) from by decide))
 (SJ_retU (pc := 25) D_State_init_25))))))
 RTm_void q_171 (by decide +kernel) rfl (fun _ => rfl) (show 5 ≤ 40 from by decide) (fun _ => trivial)
theorem D_State_without_0 : decode cX9_without 0 = .ok (.aload_n 0, 1) := by decide +kernel
theorem D_State_without_1 : decode cX9_without 1 = .ok (.iload_n 1, 1) := by decide +kernel
theorem D_State_without_2 : decode cX9_without 2 = .ok (.invokevirtual 24, 3) := by decide +kernel
theorem D_State_without_5 : decode cX9_without 5 = .ok (.ifCond .ne (5), 3) := by decide +kernel
theorem D_State_without_8 : decode cX9_without 8 = .ok (.aload_n 0, 1) := by decide +kernel
theorem D_State_without_9 : decode cX9_without 9 = .ok (.areturn, 1) := by decide +kernel
theorem D_State_without_10 : decode cX9_without 10 = .ok (.aload_n 0, 1) := by decide +kernel
theorem D_State_without_11 : decode cX9_without 11 = .ok (.getfield 13, 3) := by decide +kernel
theorem D_State_without_14 : decode cX9_without 14 = .ok (.arraylength, 1) := by decide +kernel
theorem D_State_without_15 : decode cX9_without 15 = .ok (.iconst (1), 1) := by decide +kernel
theorem D_State_without_16 : decode cX9_without 16 = .ok (.isub, 1) := by decide +kernel
theorem D_State_without_17 : decode cX9_without 17 = .ok (.anewarray 28, 3) := by decide +kernel
theorem D_State_without_20 : decode cX9_without 20 = .ok (.astore_n 2, 1) := by decide +kernel
theorem D_State_without_21 : decode cX9_without 21 = .ok (.iconst (0), 1) := by decide +kernel
theorem D_State_without_22 : decode cX9_without 22 = .ok (.istore_n 3, 1) := by decide +kernel
theorem D_State_without_23 : decode cX9_without 23 = .ok (.iload_n 3, 1) := by decide +kernel
theorem D_State_without_24 : decode cX9_without 24 = .ok (.aload_n 2, 1) := by decide +kernel
theorem D_State_without_25 : decode cX9_without 25 = .ok (.arraylength, 1) := by decide +kernel
theorem D_State_without_26 : decode cX9_without 26 = .ok (.if_icmp .ge (29), 3) := by decide +kernel
theorem D_State_without_29 : decode cX9_without 29 = .ok (.aload_n 2, 1) := by decide +kernel
theorem D_State_without_30 : decode cX9_without 30 = .ok (.iload_n 3, 1) := by decide +kernel
theorem D_State_without_31 : decode cX9_without 31 = .ok (.aload_n 0, 1) := by decide +kernel
theorem D_State_without_32 : decode cX9_without 32 = .ok (.getfield 13, 3) := by decide +kernel
theorem D_State_without_35 : decode cX9_without 35 = .ok (.iload_n 3, 1) := by decide +kernel
theorem D_State_without_36 : decode cX9_without 36 = .ok (.iload_n 1, 1) := by decide +kernel
theorem D_State_without_37 : decode cX9_without 37 = .ok (.if_icmp .ge (7), 3) := by decide +kernel
theorem D_State_without_40 : decode cX9_without 40 = .ok (.iload_n 3, 1) := by decide +kernel
theorem D_State_without_41 : decode cX9_without 41 = .ok (.goto (6), 3) := by decide +kernel
theorem D_State_without_44 : decode cX9_without 44 = .ok (.iload_n 3, 1) := by decide +kernel
theorem D_State_without_45 : decode cX9_without 45 = .ok (.iconst (1), 1) := by decide +kernel
theorem D_State_without_46 : decode cX9_without 46 = .ok (.iadd, 1) := by decide +kernel
theorem D_State_without_47 : decode cX9_without 47 = .ok (.aaload, 1) := by decide +kernel
theorem D_State_without_48 : decode cX9_without 48 = .ok (.aastore, 1) := by decide +kernel
theorem D_State_without_49 : decode cX9_without 49 = .ok (.iinc 3 (1), 3) := by decide +kernel
theorem D_State_without_52 : decode cX9_without 52 = .ok (.goto (-29), 3) := by decide +kernel
theorem D_State_without_55 : decode cX9_without 55 = .ok (.new 8, 3) := by decide +kernel
theorem D_State_without_58 : decode cX9_without 58 = .ok (.dup, 1) := by decide +kernel
theorem D_State_without_59 : decode cX9_without 59 = .ok (.aload_n 0, 1) := by decide +kernel
theorem D_State_without_60 : decode cX9_without 60 = .ok (.getfield 7, 3) := by decide +kernel
theorem D_State_without_63 : decode cX9_without 63 = .ok (.aload_n 2, 1) := by decide +kernel
theorem D_State_without_64 : decode cX9_without 64 = .ok (.aload_n 0, 1) := by decide +kernel
theorem D_State_without_65 : decode cX9_without 65 = .ok (.getfield 17, 3) := by decide +kernel
theorem D_State_without_68 : decode cX9_without 68 = .ok (.aload_n 0, 1) := by decide +kernel
theorem D_State_without_69 : decode cX9_without 69 = .ok (.getfield 21, 3) := by decide +kernel
theorem D_State_without_72 : decode cX9_without 72 = .ok (.invokespecial 30, 3) := by decide +kernel
theorem D_State_without_75 : decode cX9_without 75 = .ok (.areturn, 1) := by decide +kernel
def K_State_without : SC := (cX9_without, "TwoLevels$State", 4, 2, false, [10, 28], NoQ)
def d_State_without : MD (Option Nat) := mth tt 4 (sq (sIf (cNot (eh1 z_ne (kV 10 d_State_hasRule (lR 0) [vI (lI 1)]))) (rtn (lR 0)) sk)
 (sq (sR1 2 (nA 28 (eh2 isubF (eh1 aL (eh1 (gR 10 1) (lR 0))) (eC (nI 1)))))
 (sq (sq (sI1 3 (eC (nI 0)))
 (loop (eh2 c_lt (lI 3) (eh1 aL (lR 2)))
 (sh3 (stO [28] "TwoLevels$Rule" 7) (lR 2) (lI 3) (eh2 (aR (.object "TwoLevels$Rule")) (eh1 (gR 10 1) (lR 0)) (eIf (eh2 c_lt (lI 3) (lI 1)) (lI 3) (eh2 iaddF (lI 3) (eC (nI 1))))))
 (sInc 3 (nI 1))))
 (rtn (kN 10 4 d_State_init [vR (eh1 (gR 10 0) (lR 0)), vR (lR 2), vI (eh1 (gI 10 2) (lR 0)), vI (eh1 (gI 10 3) (lR 0))])))))
theorem m_State_without : MJ 2 [10, 28] yX9_without (some (.object "TwoLevels$State")) eR (d_State_without) := MJ_of (K := K_State_without) (ri := .areturn) (n1 := 0) (n2 := 0) (n3 := 0)
 (SJ_sq (p0 := 0) (p1 := 10) (nN := 0) (nB := 0) (nC := 0) (SJ_if (p0 := 0) (pT := 8) (pF := 10) (nN := 10) (nB := 0) (nC := 0) (CJ_not (p0 := 0) (pT := 8) (pF := 10) (CZ_ne (off := 5) (tgt := 10) (p0 := 0) (p1 := 5) (EJ_callV (t := 10) (c := 9) (r := (RX9, TX9, 4)) (p0 := 0) (p1 := 1) (p2 := 2) (EJ_aload_n (j := 0) (i := 0) (pc := 0) D_State_without_0 rfl) (AJ_I (p0 := 1) (p1 := 2) (p2 := 2) (EJ_iload_n (j := 1) (i := 1) (pc := 1) D_State_without_1 rfl) AJ_nil) m_State_hasRule E1_I D_State_without_2 rfl rfl rfl q_564 q_557 q_558 q_94 ⟨by decide +kernel, by decide +kernel, by decide +kernel⟩ (by decide) (show 1 + 1 ≤ 2 from by decide) (fun _ h => absurd h List.not_mem_nil)) D_State_without_5 rfl)) (SJ_ret (p0 := 8) (p1 := 9) (EJ_aload_n (j := 0) (i := 0) (pc := 8) D_State_without_8 rfl) D_State_without_9) SJ_sk)
 (SJ_sq (p0 := 10) (p1 := 21) (nN := 0) (nB := 0) (nC := 0) (SJ_astore_n (i := 2) (j := 2) (p0 := 10) (p1 := 20) (EJ_anew (C := "TwoLevels$Rule") (t := 28) (p0 := 10) (p1 := 17) (EJ_isub (p0 := 10) (p1 := 15) (p2 := 16) (EJ_alen (p0 := 10) (p1 := 14) (EJ_getR (t := 10) (c := 9) (kf := 1) (r := (RX9, TX9, 4)) (p0 := 10) (p1 := 11) (EJ_aload_n (j := 0) (i := 0) (pc := 10) D_State_without_10 rfl) D_State_without_11 ⟨rfl, rfl, by decide, q_176⟩ (fun _ _ => rfl)) D_State_without_14) (EJ_iconst (n := 1) (v := (nI 1)) (pc := 15) D_State_without_15 (by decide +kernel)) D_State_without_16) D_State_without_17 q_565 (by decide) rfl) D_State_without_20 rfl)
 (SJ_sq (p0 := 21) (p1 := 55) (nN := 0) (nB := 0) (nC := 0) (SJ_sq (p0 := 21) (p1 := 23) (nN := 55) (nB := 0) (nC := 0) (SJ_istore_n (i := 3) (j := 3) (p0 := 21) (p1 := 22) (EJ_iconst (n := 0) (v := (nI 0)) (pc := 21) D_State_without_21 (by decide +kernel)) D_State_without_22 rfl)
 (SJ_loop (p0 := 23) (pB := 29) (pS := 49) (pE := 55) (CJ_lt' (off := 29) (tgt := 55) (p0 := 23) (p1 := 24) (p2 := 26) (EJ_iload_n (j := 3) (i := 3) (pc := 23) D_State_without_23 rfl) (EJ_alen (p0 := 24) (p1 := 25) (EJ_aload_n (j := 2) (i := 2) (pc := 24) D_State_without_24 rfl) D_State_without_25) D_State_without_26 rfl)
 (SJ_oast (tv := 7) (cv := 6) (r := (RX6, TX6, 5)) (ws := [28]) (p0 := 29) (p1 := 30) (p2 := 31) (p3 := 48) (EJ_aload_n (j := 2) (i := 2) (pc := 29) D_State_without_29 rfl) (EJ_iload_n (j := 3) (i := 3) (pc := 30) D_State_without_30 rfl) (EJ_aald (p0 := 31) (p1 := 35) (p2 := 47) (EJ_getR (t := 10) (c := 9) (kf := 1) (r := (RX9, TX9, 4)) (p0 := 31) (p1 := 32) (EJ_aload_n (j := 0) (i := 0) (pc := 31) D_State_without_31 rfl) D_State_without_32 ⟨rfl, rfl, by decide, q_176⟩ (fun _ _ => rfl)) (EJ_if (p0 := 35) (pT := 40) (pF := 44) (pE := 41) (p1 := 47) (CJ_lt' (off := 7) (tgt := 44) (p0 := 35) (p1 := 36) (p2 := 37) (EJ_iload_n (j := 3) (i := 3) (pc := 35) D_State_without_35 rfl) (EJ_iload_n (j := 1) (i := 1) (pc := 36) D_State_without_36 rfl) D_State_without_37 rfl) (EJ_iload_n (j := 3) (i := 3) (pc := 40) D_State_without_40 rfl) (Lead.goto (K := K_State_without) (pc := 41) (tgt := 47) D_State_without_41 rfl) (EJ_iadd (p0 := 44) (p1 := 45) (p2 := 46) (EJ_iload_n (j := 3) (i := 3) (pc := 44) D_State_without_44 rfl) (EJ_iconst (n := 1) (v := (nI 1)) (pc := 45) D_State_without_45 (by decide +kernel)) D_State_without_46)) D_State_without_47 (Or.inl ⟨_, rfl⟩)) D_State_without_48 rfl rfl rfl (show ∀ x_ ∈ ([28] : List Nat), x_ ∈ ([10, 28] : List Nat) from by decide))
 (SJ_post (SJ_iinc (i := 3) (n := 1) (v := (nI 1)) (pc := 49) D_State_without_49 (by decide +kernel)) (Lead.goto (K := K_State_without) (pc := 52) (tgt := 23) D_State_without_52 rfl))))
 (SJ_ret (p0 := 55) (p1 := 75) (EJ_new (t := 10) (c := 9) (r := (RX9, TX9, 4)) (p0 := 55) (p1 := 72) D_State_without_55 D_State_without_58 (AJ_R (p0 := 59) (p1 := 63) (p2 := 72) (EJ_getR (t := 10) (c := 9) (kf := 0) (r := (RX9, TX9, 4)) (p0 := 59) (p1 := 60) (EJ_aload_n (j := 0) (i := 0) (pc := 59) D_State_without_59 rfl) D_State_without_60 ⟨rfl, rfl, by decide, q_173⟩ (fun _ _ => rfl)) (AJ_R (p0 := 63) (p1 := 64) (p2 := 72) (EJ_aload_n (j := 2) (i := 2) (pc := 63) D_State_without_63 rfl) (AJ_I (p0 := 64) (p1 := 68) (p2 := 72) (EJ_getI (t := 10) (c := 9) (kf := 2) (r := (RX9, TX9, 4)) (p0 := 64) (p1 := 65) (EJ_aload_n (j := 0) (i := 0) (pc := 64) D_State_without_64 rfl) D_State_without_65 ⟨rfl, rfl, by decide, q_179⟩ (fun _ _ => rfl)) (AJ_I (p0 := 68) (p1 := 72) (p2 := 72) (EJ_getI (t := 10) (c := 9) (kf := 3) (r := (RX9, TX9, 4)) (p0 := 68) (p1 := 69) (EJ_aload_n (j := 0) (i := 0) (pc := 68) D_State_without_68 rfl) D_State_without_69 ⟨rfl, rfl, by decide, q_181⟩ (fun _ _ => rfl)) AJ_nil)))) m_State_init D_State_without_72 rfl rfl q_566 q_166 q_94 rfl rfl (Or.inl q_567) q_170 ⟨by decide +kernel, by decide +kernel, by decide +kernel⟩ (by decide) (show 1 + 1 ≤ 2 from by decide) (show ∀ x_ ∈ ([10] : List Nat), x_ ∈ ([10, 28] : List Nat) from by decide)) D_State_without_75))))
 (RTm_ref (Or.inl ⟨_, rfl⟩)) q_563 (by decide +kernel) rfl (fun h => by cases h) (show 4 ≤ 40 from by decide) (fun _ => trivial)
theorem D_TL_act_0 : decode cX11_act 0 = .ok (.aload_n 0, 1) := by decide +kernel
theorem D_TL_act_1 : decode cX11_act 1 = .ok (.getfield 112, 3) := by decide +kernel
theorem D_TL_act_4 : decode cX11_act 4 = .ok (.bipush (10), 2) := by decide +kernel
theorem D_TL_act_6 : decode cX11_act 6 = .ok (.if_icmp .ne (41), 3) := by decide +kernel
theorem D_TL_act_9 : decode cX11_act 9 = .ok (.iconst (1), 1) := by decide +kernel
theorem D_TL_act_10 : decode cX11_act 10 = .ok (.istore_n 3, 1) := by decide +kernel
theorem D_TL_act_11 : decode cX11_act 11 = .ok (.iload_n 3, 1) := by decide +kernel
theorem D_TL_act_12 : decode cX11_act 12 = .ok (.bipush (10), 2) := by decide +kernel
theorem D_TL_act_14 : decode cX11_act 14 = .ok (.if_icmp .ge (23), 3) := by decide +kernel
theorem D_TL_act_17 : decode cX11_act 17 = .ok (.aload_n 0, 1) := by decide +kernel
theorem D_TL_act_18 : decode cX11_act 18 = .ok (.getfield 41, 3) := by decide +kernel
theorem D_TL_act_21 : decode cX11_act 21 = .ok (.iload_n 3, 1) := by decide +kernel
theorem D_TL_act_22 : decode cX11_act 22 = .ok (.iconst (1), 1) := by decide +kernel
theorem D_TL_act_23 : decode cX11_act 23 = .ok (.isub, 1) := by decide +kernel
theorem D_TL_act_24 : decode cX11_act 24 = .ok (.aload_n 0, 1) := by decide +kernel
theorem D_TL_act_25 : decode cX11_act 25 = .ok (.getfield 41, 3) := by decide +kernel
theorem D_TL_act_28 : decode cX11_act 28 = .ok (.iload_n 3, 1) := by decide +kernel
theorem D_TL_act_29 : decode cX11_act 29 = .ok (.aaload, 1) := by decide +kernel
theorem D_TL_act_30 : decode cX11_act 30 = .ok (.aastore, 1) := by decide +kernel
theorem D_TL_act_31 : decode cX11_act 31 = .ok (.iinc 3 (1), 3) := by decide +kernel
theorem D_TL_act_34 : decode cX11_act 34 = .ok (.goto (-23), 3) := by decide +kernel
theorem D_TL_act_37 : decode cX11_act 37 = .ok (.aload_n 0, 1) := by decide +kernel
theorem D_TL_act_38 : decode cX11_act 38 = .ok (.dup, 1) := by decide +kernel
theorem D_TL_act_39 : decode cX11_act 39 = .ok (.getfield 112, 3) := by decide +kernel
theorem D_TL_act_42 : decode cX11_act 42 = .ok (.iconst (1), 1) := by decide +kernel
theorem D_TL_act_43 : decode cX11_act 43 = .ok (.isub, 1) := by decide +kernel
theorem D_TL_act_44 : decode cX11_act 44 = .ok (.putfield 112, 3) := by decide +kernel
theorem D_TL_act_47 : decode cX11_act 47 = .ok (.aload_n 0, 1) := by decide +kernel
theorem D_TL_act_48 : decode cX11_act 48 = .ok (.getfield 41, 3) := by decide +kernel
theorem D_TL_act_51 : decode cX11_act 51 = .ok (.aload_n 0, 1) := by decide +kernel
theorem D_TL_act_52 : decode cX11_act 52 = .ok (.getfield 112, 3) := by decide +kernel
theorem D_TL_act_55 : decode cX11_act 55 = .ok (.aload_n 0, 1) := by decide +kernel
theorem D_TL_act_56 : decode cX11_act 56 = .ok (.getfield 30, 3) := by decide +kernel
theorem D_TL_act_59 : decode cX11_act 59 = .ok (.aastore, 1) := by decide +kernel
theorem D_TL_act_60 : decode cX11_act 60 = .ok (.aload_n 0, 1) := by decide +kernel
theorem D_TL_act_61 : decode cX11_act 61 = .ok (.dup, 1) := by decide +kernel
theorem D_TL_act_62 : decode cX11_act 62 = .ok (.getfield 112, 3) := by decide +kernel
theorem D_TL_act_65 : decode cX11_act 65 = .ok (.iconst (1), 1) := by decide +kernel
theorem D_TL_act_66 : decode cX11_act 66 = .ok (.iadd, 1) := by decide +kernel
theorem D_TL_act_67 : decode cX11_act 67 = .ok (.putfield 112, 3) := by decide +kernel
theorem D_TL_act_70 : decode cX11_act 70 = .ok (.aload_n 0, 1) := by decide +kernel
theorem D_TL_act_71 : decode cX11_act 71 = .ok (.aload_n 1, 1) := by decide +kernel
theorem D_TL_act_72 : decode cX11_act 72 = .ok (.putfield 30, 3) := by decide +kernel
theorem D_TL_act_75 : decode cX11_act 75 = .ok (.aload_n 0, 1) := by decide +kernel
theorem D_TL_act_76 : decode cX11_act 76 = .ok (.invokevirtual 115, 3) := by decide +kernel
theorem D_TL_act_79 : decode cX11_act 79 = .ok (.iload_n 2, 1) := by decide +kernel
theorem D_TL_act_80 : decode cX11_act 80 = .ok (.ireturn, 1) := by decide +kernel
def K_TL_act : SC := (cX11_act, "TwoLevels", 4, 2, false, [12, 23], NoQ)
def d_TL_act : MD Int32 := mth tt 4 (sq (sIf (eh2 c_eq (eh1 (gI 12 8) (lR 0)) (eC (nI 10))) (sq (sq (sI1 3 (eC (nI 1)))
 (loop (eh2 c_lt (lI 3) (eC (nI 10)))
 (sh3 (stO [23] "TwoLevels$State" 10) (eh1 (gR 12 7) (lR 0)) (eh2 isubF (lI 3) (eC (nI 1))) (eh2 (aR (.object "TwoLevels$State")) (eh1 (gR 12 7) (lR 0)) (lI 3)))
 (sInc 3 (nI 1))))
 (su2 (gI 12 8) (uF false 12 8 (fun x y => x - y)) (lR 0) (eC (nI 1)))) sk)
 (sq (sh3 (stO [23] "TwoLevels$State" 10) (eh1 (gR 12 7) (lR 0)) (eh1 (gI 12 8) (lR 0)) (eh1 (gR 12 3) (lR 0)))
 (sq (su2 (gI 12 8) (uF false 12 8 (fun x y => x + y)) (lR 0) (eC (nI 1)))
 (sq (sh2 (pR 12 3) (lR 0) (lR 1))
 (sq (sE (kV 12 d_TL_forget (lR 0) []))
 (rtn (lI 2)))))))
theorem m_TL_act : MJ 2 [12, 23] yX11_act (some .int) eI (d_TL_act) := MJ_of (K := K_TL_act) (ri := .ireturn) (n1 := 0) (n2 := 0) (n3 := 0)
 (SJ_sq (p0 := 0) (p1 := 47) (nN := 0) (nB := 0) (nC := 0) (SJ_if (p0 := 0) (pT := 9) (pF := 47) (nN := 47) (nB := 0) (nC := 0) (CJ_eq' (off := 41) (tgt := 47) (p0 := 0) (p1 := 4) (p2 := 6) (EJ_getI (t := 12) (c := 11) (kf := 8) (r := (RX11, TX11, 16)) (p0 := 0) (p1 := 1) (EJ_aload_n (j := 0) (i := 0) (pc := 0) D_TL_act_0 rfl) D_TL_act_1 ⟨rfl, rfl, by decide, q_263⟩ (fun _ _ => rfl)) (EJ_bipush (n := 10) (v := (nI 10)) (pc := 4) D_TL_act_4 (by decide +kernel)) D_TL_act_6 rfl) (SJ_sq (p0 := 9) (p1 := 37) (nN := 47) (nB := 0) (nC := 0) (SJ_sq (p0 := 9) (p1 := 11) (nN := 37) (nB := 0) (nC := 0) (SJ_istore_n (i := 3) (j := 3) (p0 := 9) (p1 := 10) (EJ_iconst (n := 1) (v := (nI 1)) (pc := 9) D_TL_act_9 (by decide +kernel)) D_TL_act_10 rfl)
 (SJ_loop (p0 := 11) (pB := 17) (pS := 31) (pE := 37) (CJ_lt' (off := 23) (tgt := 37) (p0 := 11) (p1 := 12) (p2 := 14) (EJ_iload_n (j := 3) (i := 3) (pc := 11) D_TL_act_11 rfl) (EJ_bipush (n := 10) (v := (nI 10)) (pc := 12) D_TL_act_12 (by decide +kernel)) D_TL_act_14 rfl)
 (SJ_oast (tv := 10) (cv := 9) (r := (RX9, TX9, 4)) (ws := [23]) (p0 := 17) (p1 := 21) (p2 := 24) (p3 := 30) (EJ_getR (t := 12) (c := 11) (kf := 7) (r := (RX11, TX11, 16)) (p0 := 17) (p1 := 18) (EJ_aload_n (j := 0) (i := 0) (pc := 17) D_TL_act_17 rfl) D_TL_act_18 ⟨rfl, rfl, by decide, q_262⟩ (fun _ _ => rfl)) (EJ_isub (p0 := 21) (p1 := 22) (p2 := 23) (EJ_iload_n (j := 3) (i := 3) (pc := 21) D_TL_act_21 rfl) (EJ_iconst (n := 1) (v := (nI 1)) (pc := 22) D_TL_act_22 (by decide +kernel)) D_TL_act_23) (EJ_aald (p0 := 24) (p1 := 28) (p2 := 29) (EJ_getR (t := 12) (c := 11) (kf := 7) (r := (RX11, TX11, 16)) (p0 := 24) (p1 := 25) (EJ_aload_n (j := 0) (i := 0) (pc := 24) D_TL_act_24 rfl) D_TL_act_25 ⟨rfl, rfl, by decide, q_262⟩ (fun _ _ => rfl)) (EJ_iload_n (j := 3) (i := 3) (pc := 28) D_TL_act_28 rfl) D_TL_act_29 (Or.inl ⟨_, rfl⟩)) D_TL_act_30 rfl rfl rfl (show ∀ x_ ∈ ([23] : List Nat), x_ ∈ ([12, 23] : List Nat) from by decide))
 (SJ_post (SJ_iinc (i := 3) (n := 1) (v := (nI 1)) (pc := 31) D_TL_act_31 (by decide +kernel)) (Lead.goto (K := K_TL_act) (pc := 34) (tgt := 11) D_TL_act_34 rfl))))
 (SJ_upF (z := false) (t := 12) (c := 11) (kf := 8) (r := (RX11, TX11, 16)) (f := (fun x y => x - y)) (p0 := 37) (p1 := 38) (p3 := 43) (EJ_aload_n (j := 0) (i := 0) (pc := 37) D_TL_act_37 rfl) D_TL_act_38 D_TL_act_39 (EJ_iconst (n := 1) (v := (nI 1)) (pc := 42) D_TL_act_42 (by decide +kernel)) (Op2_isub D_TL_act_43) D_TL_act_44 ⟨rfl, rfl, by decide, q_263⟩ ⟨rfl, rfl, by decide, q_263⟩ (Or.inl rfl) (fun _ _ => ⟨rfl, rfl⟩) (fun _ _ => rfl) (show (12 : Nat) ∈ ([12, 23] : List Nat) from by decide))) SJ_sk)
 (SJ_sq (p0 := 47) (p1 := 60) (nN := 0) (nB := 0) (nC := 0) (SJ_oast (tv := 10) (cv := 9) (r := (RX9, TX9, 4)) (ws := [23]) (p0 := 47) (p1 := 51) (p2 := 55) (p3 := 59) (EJ_getR (t := 12) (c := 11) (kf := 7) (r := (RX11, TX11, 16)) (p0 := 47) (p1 := 48) (EJ_aload_n (j := 0) (i := 0) (pc := 47) D_TL_act_47 rfl) D_TL_act_48 ⟨rfl, rfl, by decide, q_262⟩ (fun _ _ => rfl)) (EJ_getI (t := 12) (c := 11) (kf := 8) (r := (RX11, TX11, 16)) (p0 := 51) (p1 := 52) (EJ_aload_n (j := 0) (i := 0) (pc := 51) D_TL_act_51 rfl) D_TL_act_52 ⟨rfl, rfl, by decide, q_263⟩ (fun _ _ => rfl)) (EJ_getR (t := 12) (c := 11) (kf := 3) (r := (RX11, TX11, 16)) (p0 := 55) (p1 := 56) (EJ_aload_n (j := 0) (i := 0) (pc := 55) D_TL_act_55 rfl) D_TL_act_56 ⟨rfl, rfl, by decide, q_258⟩ (fun _ _ => rfl)) D_TL_act_59 rfl rfl rfl (show ∀ x_ ∈ ([23] : List Nat), x_ ∈ ([12, 23] : List Nat) from by decide))
 (SJ_sq (p0 := 60) (p1 := 70) (nN := 0) (nB := 0) (nC := 0) (SJ_upF (z := false) (t := 12) (c := 11) (kf := 8) (r := (RX11, TX11, 16)) (f := (fun x y => x + y)) (p0 := 60) (p1 := 61) (p3 := 66) (EJ_aload_n (j := 0) (i := 0) (pc := 60) D_TL_act_60 rfl) D_TL_act_61 D_TL_act_62 (EJ_iconst (n := 1) (v := (nI 1)) (pc := 65) D_TL_act_65 (by decide +kernel)) (Op2_iadd D_TL_act_66) D_TL_act_67 ⟨rfl, rfl, by decide, q_263⟩ ⟨rfl, rfl, by decide, q_263⟩ (Or.inl rfl) (fun _ _ => ⟨rfl, rfl⟩) (fun _ _ => rfl) (show (12 : Nat) ∈ ([12, 23] : List Nat) from by decide))
 (SJ_sq (p0 := 70) (p1 := 75) (nN := 0) (nB := 0) (nC := 0) (SJ_putR (t := 12) (c := 11) (kf := 3) (r := (RX11, TX11, 16)) (p0 := 70) (p1 := 71) (p2 := 72) (EJ_aload_n (j := 0) (i := 0) (pc := 70) D_TL_act_70 rfl) (EJ_aload_n (j := 1) (i := 1) (pc := 71) D_TL_act_71 rfl) D_TL_act_72 ⟨rfl, rfl, by decide, q_258⟩ (Or.inl rfl) (Or.inl ⟨_, rfl⟩) (fun _ _ => rfl) (show (12 : Nat) ∈ ([12, 23] : List Nat) from by decide))
 (SJ_sq (p0 := 75) (p1 := 79) (nN := 0) (nB := 0) (nC := 0) (SJ_void (p0 := 75) (p1 := 79) (EJ_callV (t := 12) (c := 11) (r := (RX11, TX11, 16)) (p0 := 75) (p1 := 76) (p2 := 76) (EJ_aload_n (j := 0) (i := 0) (pc := 75) D_TL_act_75 rfl) AJ_nil m_TL_forget E1_U D_TL_act_76 rfl rfl rfl q_515 q_516 q_14 q_91 ⟨by decide +kernel, by decide +kernel, by decide +kernel⟩ (by decide) (show 1 + 1 ≤ 2 from by decide) (show ∀ x_ ∈ ([12] : List Nat), x_ ∈ ([12, 23] : List Nat) from by decide)))
 (SJ_ret (p0 := 79) (p1 := 80) (EJ_iload_n (j := 2) (i := 2) (pc := 79) D_TL_act_79 rfl) D_TL_act_80))))))
 RTm_int q_551 (by decide +kernel) rfl (fun h => by cases h) (show 4 ≤ 40 from by decide) (fun _ => trivial)
theorem D_TL_drop_0 : decode cX11_drop 0 = .ok (.aload_n 0, 1) := by decide +kernel
theorem D_TL_drop_1 : decode cX11_drop 1 = .ok (.getfield 30, 3) := by decide +kernel
theorem D_TL_drop_4 : decode cX11_drop 4 = .ok (.iload_n 1, 1) := by decide +kernel
theorem D_TL_drop_5 : decode cX11_drop 5 = .ok (.invokevirtual 150, 3) := by decide +kernel
theorem D_TL_drop_8 : decode cX11_drop 8 = .ok (.ifCond .eq (28), 3) := by decide +kernel
theorem D_TL_drop_11 : decode cX11_drop 11 = .ok (.aload_n 0, 1) := by decide +kernel
theorem D_TL_drop_12 : decode cX11_drop 12 = .ok (.aload_n 0, 1) := by decide +kernel
theorem D_TL_drop_13 : decode cX11_drop 13 = .ok (.getfield 30, 3) := by decide +kernel
theorem D_TL_drop_16 : decode cX11_drop 16 = .ok (.iload_n 1, 1) := by decide +kernel
theorem D_TL_drop_17 : decode cX11_drop 17 = .ok (.invokevirtual 153, 3) := by decide +kernel
theorem D_TL_drop_20 : decode cX11_drop 20 = .ok (.aload_n 0, 1) := by decide +kernel
theorem D_TL_drop_21 : decode cX11_drop 21 = .ok (.getfield 30, 3) := by decide +kernel
theorem D_TL_drop_24 : decode cX11_drop 24 = .ok (.getfield 118, 3) := by decide +kernel
theorem D_TL_drop_27 : decode cX11_drop 27 = .ok (.arraylength, 1) := by decide +kernel
theorem D_TL_drop_28 : decode cX11_drop 28 = .ok (.iconst (1), 1) := by decide +kernel
theorem D_TL_drop_29 : decode cX11_drop 29 = .ok (.isub, 1) := by decide +kernel
theorem D_TL_drop_30 : decode cX11_drop 30 = .ok (.invokevirtual 146, 3) := by decide +kernel
theorem D_TL_drop_33 : decode cX11_drop 33 = .ok (.goto (4), 3) := by decide +kernel
theorem D_TL_drop_36 : decode cX11_drop 36 = .ok (.iconst (-1), 1) := by decide +kernel
theorem D_TL_drop_37 : decode cX11_drop 37 = .ok (.ireturn, 1) := by decide +kernel
def K_TL_drop : SC := (cX11_drop, "TwoLevels", 2, 3, false, [10, 12, 23, 28], NoQ)
def d_TL_drop : MD Int32 := mth tt 2 (rtn (eIf (eh1 z_ne (kV 10 d_State_hasRule (eh1 (gR 12 3) (lR 0)) [vI (lI 1)])) (kV 12 d_TL_act (lR 0) [vR (kV 10 d_State_without (eh1 (gR 12 3) (lR 0)) [vI (lI 1)]), vI (eh2 isubF (eh1 aL (eh1 (gR 10 1) (eh1 (gR 12 3) (lR 0)))) (eC (nI 1)))]) (eC (-1))))
theorem m_TL_drop : MJ 3 [10, 12, 23, 28] yX11_drop (some .int) eI (d_TL_drop) := MJ_of (K := K_TL_drop) (ri := .ireturn) (n1 := 0) (n2 := 0) (n3 := 0)
 (SJ_ret (p0 := 0) (p1 := 37) (EJ_if (p0 := 0) (pT := 11) (pF := 36) (pE := 33) (p1 := 37) (CZ_ne' (off := 28) (tgt := 36) (p0 := 0) (p1 := 8) (EJ_callV (t := 10) (c := 9) (r := (RX9, TX9, 4)) (p0 := 0) (p1 := 4) (p2 := 5) (EJ_getR (t := 12) (c := 11) (kf := 3) (r := (RX11, TX11, 16)) (p0 := 0) (p1 := 1) (EJ_aload_n (j := 0) (i := 0) (pc := 0) D_TL_drop_0 rfl) D_TL_drop_1 ⟨rfl, rfl, by decide, q_258⟩ (fun _ _ => rfl)) (AJ_I (p0 := 4) (p1 := 5) (p2 := 5) (EJ_iload_n (j := 1) (i := 1) (pc := 4) D_TL_drop_4 rfl) AJ_nil) m_State_hasRule E1_I D_TL_drop_5 rfl rfl rfl q_556 q_557 q_558 q_94 ⟨by decide +kernel, by decide +kernel, by decide +kernel⟩ (by decide) (show 1 + 1 ≤ 3 from by decide) (fun _ h => absurd h List.not_mem_nil)) D_TL_drop_8 rfl) (EJ_callV (t := 12) (c := 11) (r := (RX11, TX11, 16)) (p0 := 11) (p1 := 12) (p2 := 30) (EJ_aload_n (j := 0) (i := 0) (pc := 11) D_TL_drop_11 rfl) (AJ_R (p0 := 12) (p1 := 20) (p2 := 30) (EJ_callV (t := 10) (c := 9) (r := (RX9, TX9, 4)) (p0 := 12) (p1 := 16) (p2 := 17) (EJ_getR (t := 12) (c := 11) (kf := 3) (r := (RX11, TX11, 16)) (p0 := 12) (p1 := 13) (EJ_aload_n (j := 0) (i := 0) (pc := 12) D_TL_drop_12 rfl) D_TL_drop_13 ⟨rfl, rfl, by decide, q_258⟩ (fun _ _ => rfl)) (AJ_I (p0 := 16) (p1 := 17) (p2 := 17) (EJ_iload_n (j := 1) (i := 1) (pc := 16) D_TL_drop_16 rfl) AJ_nil) m_State_without E1_R D_TL_drop_17 rfl rfl rfl q_560 q_561 q_562 q_94 ⟨by decide +kernel, by decide +kernel, by decide +kernel⟩ (by decide) (show 2 + 1 ≤ 3 from by decide) (show ∀ x_ ∈ ([10, 28] : List Nat), x_ ∈ ([10, 12, 23, 28] : List Nat) from by decide)) (AJ_I (p0 := 20) (p1 := 30) (p2 := 30) (EJ_isub (p0 := 20) (p1 := 28) (p2 := 29) (EJ_alen (p0 := 20) (p1 := 27) (EJ_getR (t := 10) (c := 9) (kf := 1) (r := (RX9, TX9, 4)) (p0 := 20) (p1 := 24) (EJ_getR (t := 12) (c := 11) (kf := 3) (r := (RX11, TX11, 16)) (p0 := 20) (p1 := 21) (EJ_aload_n (j := 0) (i := 0) (pc := 20) D_TL_drop_20 rfl) D_TL_drop_21 ⟨rfl, rfl, by decide, q_258⟩ (fun _ _ => rfl)) D_TL_drop_24 ⟨rfl, rfl, by decide, q_177⟩ (fun _ _ => rfl)) D_TL_drop_27) (EJ_iconst (n := 1) (v := (nI 1)) (pc := 28) D_TL_drop_28 (by decide +kernel)) D_TL_drop_29) AJ_nil)) m_TL_act E1_I D_TL_drop_30 rfl rfl rfl q_549 q_550 q_15 q_91 ⟨by decide +kernel, by decide +kernel, by decide +kernel⟩ (by decide) (show 2 + 1 ≤ 3 from by decide) (show ∀ x_ ∈ ([12, 23] : List Nat), x_ ∈ ([10, 12, 23, 28] : List Nat) from by decide)) (Lead.goto (K := K_TL_drop) (pc := 33) (tgt := 37) D_TL_drop_33 rfl) (EJ_iconst (n := -1) (v := (-1)) (pc := 36) D_TL_drop_36 (by decide +kernel))) D_TL_drop_37)
 RTm_int q_555 (by decide +kernel) rfl (fun h => by cases h) (show 2 ≤ 40 from by decide) (fun _ => trivial)
theorem D_TL_end_0 : decode cX11_end 0 = .ok (.iload_n 1, 1) := by decide +kernel
theorem D_TL_end_1 : decode cX11_end 1 = .ok (.ifCond .lt (11), 3) := by decide +kernel
theorem D_TL_end_4 : decode cX11_end 4 = .ok (.iload_n 1, 1) := by decide +kernel
theorem D_TL_end_5 : decode cX11_end 5 = .ok (.aload_n 0, 1) := by decide +kernel
theorem D_TL_end_6 : decode cX11_end 6 = .ok (.getfield 86, 3) := by decide +kernel
theorem D_TL_end_9 : decode cX11_end 9 = .ok (.if_icmp .le (5), 3) := by decide +kernel
theorem D_TL_end_12 : decode cX11_end 12 = .ok (.iconst (-1), 1) := by decide +kernel
theorem D_TL_end_13 : decode cX11_end 13 = .ok (.ireturn, 1) := by decide +kernel
theorem D_TL_end_14 : decode cX11_end 14 = .ok (.aload_n 0, 1) := by decide +kernel
theorem D_TL_end_15 : decode cX11_end 15 = .ok (.iload_n 1, 1) := by decide +kernel
theorem D_TL_end_16 : decode cX11_end 16 = .ok (.putfield 86, 3) := by decide +kernel
theorem D_TL_end_19 : decode cX11_end 19 = .ok (.iload_n 1, 1) := by decide +kernel
theorem D_TL_end_20 : decode cX11_end 20 = .ok (.ireturn, 1) := by decide +kernel
def K_TL_end : SC := (cX11_end, "TwoLevels", 2, 1, false, [12], NoQ)
def d_TL_end : MD Int32 := mth tt 2 (sq (sIf (cOr (eh1 z_lt (lI 1)) (eh2 c_gt (lI 1) (eh1 (gI 12 1) (lR 0)))) (rtn (eC (-1))) sk)
 (sq (sh2 (pI false 12 1) (lR 0) (lI 1))
 (rtn (lI 1))))
theorem m_TL_end : MJ 1 [12] yX11_end (some .int) eI (d_TL_end) := MJ_of (K := K_TL_end) (ri := .ireturn) (n1 := 0) (n2 := 0) (n3 := 0)
 (SJ_sq (p0 := 0) (p1 := 14) (nN := 0) (nB := 0) (nC := 0) (SJ_if (p0 := 0) (pT := 12) (pF := 14) (nN := 14) (nB := 0) (nC := 0) (CJ_or (p0 := 0) (pM := 4) (pT := 12) (pF := 14) (CZ_lt (off := 11) (tgt := 12) (p0 := 0) (p1 := 1) (EJ_iload_n (j := 1) (i := 1) (pc := 0) D_TL_end_0 rfl) D_TL_end_1 rfl) (CJ_gt' (off := 5) (tgt := 14) (p0 := 4) (p1 := 5) (p2 := 9) (EJ_iload_n (j := 1) (i := 1) (pc := 4) D_TL_end_4 rfl) (EJ_getI (t := 12) (c := 11) (kf := 1) (r := (RX11, TX11, 16)) (p0 := 5) (p1 := 6) (EJ_aload_n (j := 0) (i := 0) (pc := 5) D_TL_end_5 rfl) D_TL_end_6 ⟨rfl, rfl, by decide, q_256⟩ (fun _ _ => rfl)) D_TL_end_9 rfl)) (SJ_ret (p0 := 12) (p1 := 13) (EJ_iconst (n := -1) (v := (-1)) (pc := 12) D_TL_end_12 (by decide +kernel)) D_TL_end_13) SJ_sk)
 (SJ_sq (p0 := 14) (p1 := 19) (nN := 0) (nB := 0) (nC := 0) (SJ_putI (z := false) (t := 12) (c := 11) (kf := 1) (r := (RX11, TX11, 16)) (p0 := 14) (p1 := 15) (p2 := 16) (EJ_aload_n (j := 0) (i := 0) (pc := 14) D_TL_end_14 rfl) (EJ_iload_n (j := 1) (i := 1) (pc := 15) D_TL_end_15 rfl) D_TL_end_16 ⟨rfl, rfl, by decide, q_256⟩ (Or.inl rfl) (fun _ _ => ⟨rfl, rfl⟩) (fun _ _ => rfl) (show (12 : Nat) ∈ ([12] : List Nat) from by decide))
 (SJ_ret (p0 := 19) (p1 := 20) (EJ_iload_n (j := 1) (i := 1) (pc := 19) D_TL_end_19 rfl) D_TL_end_20)))
 RTm_int q_297 (by decide +kernel) rfl (fun h => by cases h) (show 2 ≤ 40 from by decide) (fun _ => trivial)
theorem D_TL_putBytes_0 : decode cX11_putBytes 0 = .ok (.bipush (24), 2) := by decide +kernel
theorem D_TL_putBytes_2 : decode cX11_putBytes 2 = .ok (.istore_n 2, 1) := by decide +kernel
theorem D_TL_putBytes_3 : decode cX11_putBytes 3 = .ok (.iload_n 2, 1) := by decide +kernel
theorem D_TL_putBytes_4 : decode cX11_putBytes 4 = .ok (.ifCond .lt (35), 3) := by decide +kernel
theorem D_TL_putBytes_7 : decode cX11_putBytes 7 = .ok (.aload_n 0, 1) := by decide +kernel
theorem D_TL_putBytes_8 : decode cX11_putBytes 8 = .ok (.getfield 9, 3) := by decide +kernel
theorem D_TL_putBytes_11 : decode cX11_putBytes 11 = .ok (.aload_n 0, 1) := by decide +kernel
theorem D_TL_putBytes_12 : decode cX11_putBytes 12 = .ok (.getfield 86, 3) := by decide +kernel
theorem D_TL_putBytes_15 : decode cX11_putBytes 15 = .ok (.iload_n 1, 1) := by decide +kernel
theorem D_TL_putBytes_16 : decode cX11_putBytes 16 = .ok (.iload_n 2, 1) := by decide +kernel
theorem D_TL_putBytes_17 : decode cX11_putBytes 17 = .ok (.iushr, 1) := by decide +kernel
theorem D_TL_putBytes_18 : decode cX11_putBytes 18 = .ok (.sipush (255), 3) := by decide +kernel
theorem D_TL_putBytes_21 : decode cX11_putBytes 21 = .ok (.iand, 1) := by decide +kernel
theorem D_TL_putBytes_22 : decode cX11_putBytes 22 = .ok (.iastore, 1) := by decide +kernel
theorem D_TL_putBytes_23 : decode cX11_putBytes 23 = .ok (.aload_n 0, 1) := by decide +kernel
theorem D_TL_putBytes_24 : decode cX11_putBytes 24 = .ok (.dup, 1) := by decide +kernel
theorem D_TL_putBytes_25 : decode cX11_putBytes 25 = .ok (.getfield 86, 3) := by decide +kernel
theorem D_TL_putBytes_28 : decode cX11_putBytes 28 = .ok (.iconst (1), 1) := by decide +kernel
theorem D_TL_putBytes_29 : decode cX11_putBytes 29 = .ok (.iadd, 1) := by decide +kernel
theorem D_TL_putBytes_30 : decode cX11_putBytes 30 = .ok (.putfield 86, 3) := by decide +kernel
theorem D_TL_putBytes_33 : decode cX11_putBytes 33 = .ok (.iinc 2 (-8), 3) := by decide +kernel
theorem D_TL_putBytes_36 : decode cX11_putBytes 36 = .ok (.goto (-33), 3) := by decide +kernel
theorem D_TL_putBytes_39 : decode cX11_putBytes 39 = .ok (.return_, 1) := by decide +kernel
def K_TL_putBytes : SC := (cX11_putBytes, "TwoLevels", 3, 1, false, [12, 20], NoQ)
def d_TL_putBytes : MD Unit := mth tt 3 (sq (sq (sI1 2 (eC (nI 24)))
 (loop (eh1 z_ge (lI 2))
 (sq (sh3 (stI [20]) (eh1 (gR 12 0) (lR 0)) (eh1 (gI 12 1) (lR 0)) (eh2 iandF (eh2 iushrF (lI 1) (lI 2)) (eC (nI 255))))
 (su2 (gI 12 1) (uF false 12 1 (fun x y => x + y)) (lR 0) (eC (nI 1))))
 (sInc 2 (-8))))
 rtnU)
theorem m_TL_putBytes : MJ 1 [12, 20] yX11_putBytes none eU (d_TL_putBytes) := MJ_of (K := K_TL_putBytes) (ri := .return_) (n1 := 0) (n2 := 0) (n3 := 0)
 (SJ_sq (p0 := 0) (p1 := 39) (nN := 0) (nB := 0) (nC := 0) (SJ_sq (p0 := 0) (p1 := 3) (nN := 39) (nB := 0) (nC := 0) (SJ_istore_n (i := 2) (j := 2) (p0 := 0) (p1 := 2) (EJ_bipush (n := 24) (v := (nI 24)) (pc := 0) D_TL_putBytes_0 (by decide +kernel)) D_TL_putBytes_2 rfl)
 (SJ_loop (p0 := 3) (pB := 7) (pS := 33) (pE := 39) (CZ_ge' (off := 35) (tgt := 39) (p0 := 3) (p1 := 4) (EJ_iload_n (j := 2) (i := 2) (pc := 3) D_TL_putBytes_3 rfl) D_TL_putBytes_4 rfl)
 (SJ_sq (p0 := 7) (p1 := 23) (nN := 33) (nB := 39) (nC := 33) (SJ_iast (ws := [20]) (p0 := 7) (p1 := 11) (p2 := 15) (p3 := 22) (EJ_getR (t := 12) (c := 11) (kf := 0) (r := (RX11, TX11, 16)) (p0 := 7) (p1 := 8) (EJ_aload_n (j := 0) (i := 0) (pc := 7) D_TL_putBytes_7 rfl) D_TL_putBytes_8 ⟨rfl, rfl, by decide, q_255⟩ (fun _ _ => rfl)) (EJ_getI (t := 12) (c := 11) (kf := 1) (r := (RX11, TX11, 16)) (p0 := 11) (p1 := 12) (EJ_aload_n (j := 0) (i := 0) (pc := 11) D_TL_putBytes_11 rfl) D_TL_putBytes_12 ⟨rfl, rfl, by decide, q_256⟩ (fun _ _ => rfl)) (EJ_iand (p0 := 15) (p1 := 18) (p2 := 21) (EJ_iushr (p0 := 15) (p1 := 16) (p2 := 17) (EJ_iload_n (j := 1) (i := 1) (pc := 15) D_TL_putBytes_15 rfl) (EJ_iload_n (j := 2) (i := 2) (pc := 16) D_TL_putBytes_16 rfl) D_TL_putBytes_17) (EJ_sipush (n := 255) (v := (nI 255)) (pc := 18) D_TL_putBytes_18 (by decide +kernel)) D_TL_putBytes_21) D_TL_putBytes_22 (show ∀ x_ ∈ ([20] : List Nat), x_ ∈ ([12, 20] : List Nat) from by decide))
 (SJ_upF (z := false) (t := 12) (c := 11) (kf := 1) (r := (RX11, TX11, 16)) (f := (fun x y => x + y)) (p0 := 23) (p1 := 24) (p3 := 29) (EJ_aload_n (j := 0) (i := 0) (pc := 23) D_TL_putBytes_23 rfl) D_TL_putBytes_24 D_TL_putBytes_25 (EJ_iconst (n := 1) (v := (nI 1)) (pc := 28) D_TL_putBytes_28 (by decide +kernel)) (Op2_iadd D_TL_putBytes_29) D_TL_putBytes_30 ⟨rfl, rfl, by decide, q_256⟩ ⟨rfl, rfl, by decide, q_256⟩ (Or.inl rfl) (fun _ _ => ⟨rfl, rfl⟩) (fun _ _ => rfl) (show (12 : Nat) ∈ ([12, 20] : List Nat) from by decide)))
 (SJ_post (SJ_iinc (i := 2) (n := -8) (v := (-8)) (pc := 33) D_TL_putBytes_33 (by decide +kernel)) (Lead.goto (K := K_TL_putBytes) (pc := 36) (tgt := 3) D_TL_putBytes_36 rfl))))
 (SJ_retU (pc := 39) D_TL_putBytes_39))
 RTm_void q_293 (by decide +kernel) rfl (fun h => by cases h) (show 3 ≤ 40 from by decide) (fun _ => trivial)
theorem D_TL_feed_0 : decode cX11_feed 0 = .ok (.aload_n 0, 1) := by decide +kernel
theorem D_TL_feed_1 : decode cX11_feed 1 = .ok (.getfield 86, 3) := by decide +kernel
theorem D_TL_feed_4 : decode cX11_feed 4 = .ok (.bipush (20), 2) := by decide +kernel
theorem D_TL_feed_6 : decode cX11_feed 6 = .ok (.iadd, 1) := by decide +kernel
theorem D_TL_feed_7 : decode cX11_feed 7 = .ok (.sipush (500), 3) := by decide +kernel
theorem D_TL_feed_10 : decode cX11_feed 10 = .ok (.if_icmp .le (5), 3) := by decide +kernel
theorem D_TL_feed_13 : decode cX11_feed 13 = .ok (.iconst (-1), 1) := by decide +kernel
theorem D_TL_feed_14 : decode cX11_feed 14 = .ok (.ireturn, 1) := by decide +kernel
theorem D_TL_feed_15 : decode cX11_feed 15 = .ok (.aload_n 0, 1) := by decide +kernel
theorem D_TL_feed_16 : decode cX11_feed 16 = .ok (.iload_n 1, 1) := by decide +kernel
theorem D_TL_feed_17 : decode cX11_feed 17 = .ok (.invokevirtual 89, 3) := by decide +kernel
theorem D_TL_feed_20 : decode cX11_feed 20 = .ok (.aload_n 0, 1) := by decide +kernel
theorem D_TL_feed_21 : decode cX11_feed 21 = .ok (.iload_n 2, 1) := by decide +kernel
theorem D_TL_feed_22 : decode cX11_feed 22 = .ok (.invokevirtual 89, 3) := by decide +kernel
theorem D_TL_feed_25 : decode cX11_feed 25 = .ok (.aload_n 0, 1) := by decide +kernel
theorem D_TL_feed_26 : decode cX11_feed 26 = .ok (.iload_n 3, 1) := by decide +kernel
theorem D_TL_feed_27 : decode cX11_feed 27 = .ok (.invokevirtual 89, 3) := by decide +kernel
theorem D_TL_feed_30 : decode cX11_feed 30 = .ok (.aload_n 0, 1) := by decide +kernel
theorem D_TL_feed_31 : decode cX11_feed 31 = .ok (.iload 4, 2) := by decide +kernel
theorem D_TL_feed_33 : decode cX11_feed 33 = .ok (.invokevirtual 89, 3) := by decide +kernel
theorem D_TL_feed_36 : decode cX11_feed 36 = .ok (.aload_n 0, 1) := by decide +kernel
theorem D_TL_feed_37 : decode cX11_feed 37 = .ok (.iload 5, 2) := by decide +kernel
theorem D_TL_feed_39 : decode cX11_feed 39 = .ok (.invokevirtual 89, 3) := by decide +kernel
theorem D_TL_feed_42 : decode cX11_feed 42 = .ok (.aload_n 0, 1) := by decide +kernel
theorem D_TL_feed_43 : decode cX11_feed 43 = .ok (.getfield 86, 3) := by decide +kernel
theorem D_TL_feed_46 : decode cX11_feed 46 = .ok (.ireturn, 1) := by decide +kernel
def K_TL_feed : SC := (cX11_feed, "TwoLevels", 6, 2, false, [12, 20], NoQ)
def d_TL_feed : MD Int32 := mth tt 6 (sq (sIf (eh2 c_gt (eh2 iaddF (eh1 (gI 12 1) (lR 0)) (eC (nI 20))) (eC (nI 500))) (rtn (eC (-1))) sk)
 (sq (sE (kV 12 d_TL_putBytes (lR 0) [vI (lI 1)]))
 (sq (sE (kV 12 d_TL_putBytes (lR 0) [vI (lI 2)]))
 (sq (sE (kV 12 d_TL_putBytes (lR 0) [vI (lI 3)]))
 (sq (sE (kV 12 d_TL_putBytes (lR 0) [vI (lI 4)]))
 (sq (sE (kV 12 d_TL_putBytes (lR 0) [vI (lI 5)]))
 (rtn (eh1 (gI 12 1) (lR 0)))))))))
theorem m_TL_feed : MJ 2 [12, 20] yX11_feed (some .int) eI (d_TL_feed) := MJ_of (K := K_TL_feed) (ri := .ireturn) (n1 := 0) (n2 := 0) (n3 := 0)
 (SJ_sq (p0 := 0) (p1 := 15) (nN := 0) (nB := 0) (nC := 0) (SJ_if (p0 := 0) (pT := 13) (pF := 15) (nN := 15) (nB := 0) (nC := 0) (CJ_gt' (off := 5) (tgt := 15) (p0 := 0) (p1 := 7) (p2 := 10) (EJ_iadd (p0 := 0) (p1 := 4) (p2 := 6) (EJ_getI (t := 12) (c := 11) (kf := 1) (r := (RX11, TX11, 16)) (p0 := 0) (p1 := 1) (EJ_aload_n (j := 0) (i := 0) (pc := 0) D_TL_feed_0 rfl) D_TL_feed_1 ⟨rfl, rfl, by decide, q_256⟩ (fun _ _ => rfl)) (EJ_bipush (n := 20) (v := (nI 20)) (pc := 4) D_TL_feed_4 (by decide +kernel)) D_TL_feed_6) (EJ_sipush (n := 500) (v := (nI 500)) (pc := 7) D_TL_feed_7 (by decide +kernel)) D_TL_feed_10 rfl) (SJ_ret (p0 := 13) (p1 := 14) (EJ_iconst (n := -1) (v := (-1)) (pc := 13) D_TL_feed_13 (by decide +kernel)) D_TL_feed_14) SJ_sk)
 (SJ_sq (p0 := 15) (p1 := 20) (nN := 0) (nB := 0) (nC := 0) (SJ_void (p0 := 15) (p1 := 20) (EJ_callV (t := 12) (c := 11) (r := (RX11, TX11, 16)) (p0 := 15) (p1 := 16) (p2 := 17) (EJ_aload_n (j := 0) (i := 0) (pc := 15) D_TL_feed_15 rfl) (AJ_I (p0 := 16) (p1 := 17) (p2 := 17) (EJ_iload_n (j := 1) (i := 1) (pc := 16) D_TL_feed_16 rfl) AJ_nil) m_TL_putBytes E1_U D_TL_feed_17 rfl rfl rfl q_291 q_292 q_0 q_91 ⟨by decide +kernel, by decide +kernel, by decide +kernel⟩ (by decide) (show 1 + 1 ≤ 2 from by decide) (show ∀ x_ ∈ ([12, 20] : List Nat), x_ ∈ ([12, 20] : List Nat) from by decide)))
 (SJ_sq (p0 := 20) (p1 := 25) (nN := 0) (nB := 0) (nC := 0) (SJ_void (p0 := 20) (p1 := 25) (EJ_callV (t := 12) (c := 11) (r := (RX11, TX11, 16)) (p0 := 20) (p1 := 21) (p2 := 22) (EJ_aload_n (j := 0) (i := 0) (pc := 20) D_TL_feed_20 rfl) (AJ_I (p0 := 21) (p1 := 22) (p2 := 22) (EJ_iload_n (j := 2) (i := 2) (pc := 21) D_TL_feed_21 rfl) AJ_nil) m_TL_putBytes E1_U D_TL_feed_22 rfl rfl rfl q_291 q_292 q_0 q_91 ⟨by decide +kernel, by decide +kernel, by decide +kernel⟩ (by decide) (show 1 + 1 ≤ 2 from by decide) (show ∀ x_ ∈ ([12, 20] : List Nat), x_ ∈ ([12, 20] : List Nat) from by decide)))
 (SJ_sq (p0 := 25) (p1 := 30) (nN := 0) (nB := 0) (nC := 0) (SJ_void (p0 := 25) (p1 := 30) (EJ_callV (t := 12) (c := 11) (r := (RX11, TX11, 16)) (p0 := 25) (p1 := 26) (p2 := 27) (EJ_aload_n (j := 0) (i := 0) (pc := 25) D_TL_feed_25 rfl) (AJ_I (p0 := 26) (p1 := 27) (p2 := 27) (EJ_iload_n (j := 3) (i := 3) (pc := 26) D_TL_feed_26 rfl) AJ_nil) m_TL_putBytes E1_U D_TL_feed_27 rfl rfl rfl q_291 q_292 q_0 q_91 ⟨by decide +kernel, by decide +kernel, by decide +kernel⟩ (by decide) (show 1 + 1 ≤ 2 from by decide) (show ∀ x_ ∈ ([12, 20] : List Nat), x_ ∈ ([12, 20] : List Nat) from by decide)))
 (SJ_sq (p0 := 30) (p1 := 36) (nN := 0) (nB := 0) (nC := 0) (SJ_void (p0 := 30) (p1 := 36) (EJ_callV (t := 12) (c := 11) (r := (RX11, TX11, 16)) (p0 := 30) (p1 := 31) (p2 := 33) (EJ_aload_n (j := 0) (i := 0) (pc := 30) D_TL_feed_30 rfl) (AJ_I (p0 := 31) (p1 := 33) (p2 := 33) (EJ_iload (i := 4) (pc := 31) D_TL_feed_31) AJ_nil) m_TL_putBytes E1_U D_TL_feed_33 rfl rfl rfl q_291 q_292 q_0 q_91 ⟨by decide +kernel, by decide +kernel, by decide +kernel⟩ (by decide) (show 1 + 1 ≤ 2 from by decide) (show ∀ x_ ∈ ([12, 20] : List Nat), x_ ∈ ([12, 20] : List Nat) from by decide)))
 (SJ_sq (p0 := 36) (p1 := 42) (nN := 0) (nB := 0) (nC := 0) (SJ_void (p0 := 36) (p1 := 42) (EJ_callV (t := 12) (c := 11) (r := (RX11, TX11, 16)) (p0 := 36) (p1 := 37) (p2 := 39) (EJ_aload_n (j := 0) (i := 0) (pc := 36) D_TL_feed_36 rfl) (AJ_I (p0 := 37) (p1 := 39) (p2 := 39) (EJ_iload (i := 5) (pc := 37) D_TL_feed_37) AJ_nil) m_TL_putBytes E1_U D_TL_feed_39 rfl rfl rfl q_291 q_292 q_0 q_91 ⟨by decide +kernel, by decide +kernel, by decide +kernel⟩ (by decide) (show 1 + 1 ≤ 2 from by decide) (show ∀ x_ ∈ ([12, 20] : List Nat), x_ ∈ ([12, 20] : List Nat) from by decide)))
 (SJ_ret (p0 := 42) (p1 := 46) (EJ_getI (t := 12) (c := 11) (kf := 1) (r := (RX11, TX11, 16)) (p0 := 42) (p1 := 43) (EJ_aload_n (j := 0) (i := 0) (pc := 42) D_TL_feed_42 rfl) D_TL_feed_43 ⟨rfl, rfl, by decide, q_256⟩ (fun _ _ => rfl)) D_TL_feed_46)))))))
 RTm_int q_290 (by decide +kernel) rfl (fun h => by cases h) (show 6 ≤ 40 from by decide) (fun _ => trivial)
