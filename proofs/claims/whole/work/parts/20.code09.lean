/-! the program: part 9 -/
theorem D_Rule_addChoice_0 : decode cX6_addChoice 0 = .ok (.aload_n 0, 1) := by decide +kernel
theorem D_Rule_addChoice_1 : decode cX6_addChoice 1 = .ok (.getfield 32, 3) := by decide +kernel
theorem D_Rule_addChoice_4 : decode cX6_addChoice 4 = .ok (.iconst (4), 1) := by decide +kernel
theorem D_Rule_addChoice_5 : decode cX6_addChoice 5 = .ok (.if_icmp .ge (23), 3) := by decide +kernel
theorem D_Rule_addChoice_8 : decode cX6_addChoice 8 = .ok (.aload_n 0, 1) := by decide +kernel
theorem D_Rule_addChoice_9 : decode cX6_addChoice 9 = .ok (.getfield 11, 3) := by decide +kernel
theorem D_Rule_addChoice_12 : decode cX6_addChoice 12 = .ok (.aload_n 0, 1) := by decide +kernel
theorem D_Rule_addChoice_13 : decode cX6_addChoice 13 = .ok (.getfield 32, 3) := by decide +kernel
theorem D_Rule_addChoice_16 : decode cX6_addChoice 16 = .ok (.aload_n 1, 1) := by decide +kernel
theorem D_Rule_addChoice_17 : decode cX6_addChoice 17 = .ok (.aastore, 1) := by decide +kernel
theorem D_Rule_addChoice_18 : decode cX6_addChoice 18 = .ok (.aload_n 0, 1) := by decide +kernel
theorem D_Rule_addChoice_19 : decode cX6_addChoice 19 = .ok (.dup, 1) := by decide +kernel
theorem D_Rule_addChoice_20 : decode cX6_addChoice 20 = .ok (.getfield 32, 3) := by decide +kernel
theorem D_Rule_addChoice_23 : decode cX6_addChoice 23 = .ok (.iconst (1), 1) := by decide +kernel
theorem D_Rule_addChoice_24 : decode cX6_addChoice 24 = .ok (.iadd, 1) := by decide +kernel
theorem D_Rule_addChoice_25 : decode cX6_addChoice 25 = .ok (.putfield 32, 3) := by decide +kernel
theorem D_Rule_addChoice_28 : decode cX6_addChoice 28 = .ok (.return_, 1) := by decide +kernel
def K_Rule_addChoice : SC := (cX6_addChoice, "TwoLevels$Rule", 2, 1, false, [7, 42], NoQ)
def d_Rule_addChoice : MD Unit := mth tt 2 (sq (sIf (eh2 c_lt (eh1 (gI 7 4) (lR 0)) (eC (nI 4))) (sq (sh3 (stO [42] "TwoLevels$Choice" 1) (eh1 (gR 7 3) (lR 0)) (eh1 (gI 7 4) (lR 0)) (lR 1))
 (su2 (gI 7 4) (uF false 7 4 (fun x y => x + y)) (lR 0) (eC (nI 1)))) sk)
 rtnU)
theorem m_Rule_addChoice : MJ 1 [7, 42] yX6_addChoice none eU (d_Rule_addChoice) := MJ_of (K := K_Rule_addChoice) (ri := .return_) (n1 := 0) (n2 := 0) (n3 := 0)
 (SJ_sq (p0 := 0) (p1 := 28) (nN := 0) (nB := 0) (nC := 0) (SJ_if (p0 := 0) (pT := 8) (pF := 28) (nN := 28) (nB := 0) (nC := 0) (CJ_lt' (off := 23) (tgt := 28) (p0 := 0) (p1 := 4) (p2 := 5) (EJ_getI (t := 7) (c := 6) (kf := 4) (r := (RX6, TX6, 5)) (p0 := 0) (p1 := 1) (EJ_aload_n (j := 0) (i := 0) (pc := 0) D_Rule_addChoice_0 rfl) D_Rule_addChoice_1 ⟨rfl, rfl, by decide, q_400⟩ (fun _ _ => rfl)) (EJ_iconst (n := 4) (v := (nI 4)) (pc := 4) D_Rule_addChoice_4 (by decide +kernel)) D_Rule_addChoice_5 rfl) (SJ_sq (p0 := 8) (p1 := 18) (nN := 28) (nB := 0) (nC := 0) (SJ_oast (tv := 1) (cv := 0) (r := (RX0, TX0, 11)) (ws := [42]) (p0 := 8) (p1 := 12) (p2 := 16) (p3 := 17) (EJ_getR (t := 7) (c := 6) (kf := 3) (r := (RX6, TX6, 5)) (p0 := 8) (p1 := 9) (EJ_aload_n (j := 0) (i := 0) (pc := 8) D_Rule_addChoice_8 rfl) D_Rule_addChoice_9 ⟨rfl, rfl, by decide, q_397⟩ (fun _ _ => rfl)) (EJ_getI (t := 7) (c := 6) (kf := 4) (r := (RX6, TX6, 5)) (p0 := 12) (p1 := 13) (EJ_aload_n (j := 0) (i := 0) (pc := 12) D_Rule_addChoice_12 rfl) D_Rule_addChoice_13 ⟨rfl, rfl, by decide, q_400⟩ (fun _ _ => rfl)) (EJ_aload_n (j := 1) (i := 1) (pc := 16) D_Rule_addChoice_16 rfl) D_Rule_addChoice_17 rfl rfl rfl (show ∀ x_ ∈ ([42] : List Nat), x_ ∈ ([7, 42] : List Nat) from by decide))
 (SJ_upF (z := false) (t := 7) (c := 6) (kf := 4) (r := (RX6, TX6, 5)) (f := (fun x y => x + y)) (p0 := 18) (p1 := 19) (p3 := 24) (EJ_aload_n (j := 0) (i := 0) (pc := 18) D_Rule_addChoice_18 rfl) D_Rule_addChoice_19 D_Rule_addChoice_20 (EJ_iconst (n := 1) (v := (nI 1)) (pc := 23) D_Rule_addChoice_23 (by decide +kernel)) (Op2_iadd D_Rule_addChoice_24) D_Rule_addChoice_25 ⟨rfl, rfl, by decide, q_400⟩ ⟨rfl, rfl, by decide, q_400⟩ (Or.inl rfl) (fun _ _ => ⟨rfl, rfl⟩) (fun _ _ => rfl) (show (7 : Nat) ∈ ([7, 42] : List Nat) from by decide))) SJ_sk)
 (SJ_retU (pc := 28) D_Rule_addChoice_28))
 RTm_void q_466 (by decide +kernel) rfl (fun h => by cases h) (show 2 ≤ 40 from by decide) (fun _ => trivial)
theorem D_Rule_init_0 : decode cX6_init 0 = .ok (.aload_n 0, 1) := by decide +kernel
theorem D_Rule_init_1 : decode cX6_init 1 = .ok (.invokespecial 1, 3) := by decide +kernel
theorem D_Rule_init_4 : decode cX6_init 4 = .ok (.aload_n 0, 1) := by decide +kernel
theorem D_Rule_init_5 : decode cX6_init 5 = .ok (.iconst (4), 1) := by decide +kernel
theorem D_Rule_init_6 : decode cX6_init 6 = .ok (.anewarray 9, 3) := by decide +kernel
theorem D_Rule_init_9 : decode cX6_init 9 = .ok (.putfield 11, 3) := by decide +kernel
theorem D_Rule_init_12 : decode cX6_init 12 = .ok (.aload_n 0, 1) := by decide +kernel
theorem D_Rule_init_13 : decode cX6_init 13 = .ok (.aload_n 1, 1) := by decide +kernel
theorem D_Rule_init_14 : decode cX6_init 14 = .ok (.putfield 15, 3) := by decide +kernel
theorem D_Rule_init_17 : decode cX6_init 17 = .ok (.aload_n 0, 1) := by decide +kernel
theorem D_Rule_init_18 : decode cX6_init 18 = .ok (.aload_n 1, 1) := by decide +kernel
theorem D_Rule_init_19 : decode cX6_init 19 = .ok (.invokestatic 19, 3) := by decide +kernel
theorem D_Rule_init_22 : decode cX6_init 22 = .ok (.putfield 25, 3) := by decide +kernel
theorem D_Rule_init_25 : decode cX6_init 25 = .ok (.aload_n 0, 1) := by decide +kernel
theorem D_Rule_init_26 : decode cX6_init 26 = .ok (.aload_n 1, 1) := by decide +kernel
theorem D_Rule_init_27 : decode cX6_init 27 = .ok (.arraylength, 1) := by decide +kernel
theorem D_Rule_init_28 : decode cX6_init 28 = .ok (.newarray .int, 2) := by decide +kernel
theorem D_Rule_init_30 : decode cX6_init 30 = .ok (.putfield 29, 3) := by decide +kernel
theorem D_Rule_init_33 : decode cX6_init 33 = .ok (.iconst (0), 1) := by decide +kernel
theorem D_Rule_init_34 : decode cX6_init 34 = .ok (.istore_n 2, 1) := by decide +kernel
theorem D_Rule_init_35 : decode cX6_init 35 = .ok (.iload_n 2, 1) := by decide +kernel
theorem D_Rule_init_36 : decode cX6_init 36 = .ok (.aload_n 1, 1) := by decide +kernel
theorem D_Rule_init_37 : decode cX6_init 37 = .ok (.arraylength, 1) := by decide +kernel
theorem D_Rule_init_38 : decode cX6_init 38 = .ok (.if_icmp .ge (46), 3) := by decide +kernel
theorem D_Rule_init_41 : decode cX6_init 41 = .ok (.aload_n 0, 1) := by decide +kernel
theorem D_Rule_init_42 : decode cX6_init 42 = .ok (.getfield 29, 3) := by decide +kernel
theorem D_Rule_init_45 : decode cX6_init 45 = .ok (.iload_n 2, 1) := by decide +kernel
theorem D_Rule_init_46 : decode cX6_init 46 = .ok (.iaload, 1) := by decide +kernel
theorem D_Rule_init_47 : decode cX6_init 47 = .ok (.iload_n 2, 1) := by decide +kernel
theorem D_Rule_init_48 : decode cX6_init 48 = .ok (.if_icmp .ge (30), 3) := by decide +kernel
theorem D_Rule_init_51 : decode cX6_init 51 = .ok (.aload_n 1, 1) := by decide +kernel
theorem D_Rule_init_52 : decode cX6_init 52 = .ok (.aload_n 0, 1) := by decide +kernel
theorem D_Rule_init_53 : decode cX6_init 53 = .ok (.getfield 29, 3) := by decide +kernel
theorem D_Rule_init_56 : decode cX6_init 56 = .ok (.iload_n 2, 1) := by decide +kernel
theorem D_Rule_init_57 : decode cX6_init 57 = .ok (.iaload, 1) := by decide +kernel
theorem D_Rule_init_58 : decode cX6_init 58 = .ok (.iaload, 1) := by decide +kernel
theorem D_Rule_init_59 : decode cX6_init 59 = .ok (.aload_n 1, 1) := by decide +kernel
theorem D_Rule_init_60 : decode cX6_init 60 = .ok (.iload_n 2, 1) := by decide +kernel
theorem D_Rule_init_61 : decode cX6_init 61 = .ok (.iaload, 1) := by decide +kernel
theorem D_Rule_init_62 : decode cX6_init 62 = .ok (.if_icmp .eq (16), 3) := by decide +kernel
theorem D_Rule_init_65 : decode cX6_init 65 = .ok (.aload_n 0, 1) := by decide +kernel
theorem D_Rule_init_66 : decode cX6_init 66 = .ok (.getfield 29, 3) := by decide +kernel
theorem D_Rule_init_69 : decode cX6_init 69 = .ok (.iload_n 2, 1) := by decide +kernel
theorem D_Rule_init_70 : decode cX6_init 70 = .ok (.dup2, 1) := by decide +kernel
theorem D_Rule_init_71 : decode cX6_init 71 = .ok (.iaload, 1) := by decide +kernel
theorem D_Rule_init_72 : decode cX6_init 72 = .ok (.iconst (1), 1) := by decide +kernel
theorem D_Rule_init_73 : decode cX6_init 73 = .ok (.iadd, 1) := by decide +kernel
theorem D_Rule_init_74 : decode cX6_init 74 = .ok (.iastore, 1) := by decide +kernel
theorem D_Rule_init_75 : decode cX6_init 75 = .ok (.goto (-34), 3) := by decide +kernel
theorem D_Rule_init_78 : decode cX6_init 78 = .ok (.iinc 2 (1), 3) := by decide +kernel
theorem D_Rule_init_81 : decode cX6_init 81 = .ok (.goto (-46), 3) := by decide +kernel
theorem D_Rule_init_84 : decode cX6_init 84 = .ok (.return_, 1) := by decide +kernel
def K_Rule_init : SC := (cX6_init, "TwoLevels$Rule", 3, 2, true, [7, 41], NoQ)
def d_Rule_init : MD Unit := mth tt 3 (sq sObj
 (sq (sh2 (pR 7 3) (lR 0) (nA 42 (eC (nI 4))))
 (sq (sh2 (pR 7 0) (lR 0) (lR 1))
 (sq (sh2 (pI false 7 1) (lR 0) (kS d_Upper_bitsOf [vR (lR 1)]))
 (sq (sh2 (pR 7 2) (lR 0) (nA 41 (eh1 aL (lR 1))))
 (sq (sq (sI1 2 (eC (nI 0)))
 (loop (eh2 c_lt (lI 2) (eh1 aL (lR 1)))
 (loop (cAnd (eh2 c_lt (eh2 (aI .int) (eh1 (gR 7 2) (lR 0)) (lI 2)) (lI 2)) (eh2 c_ne (eh2 (aI .int) (lR 1) (eh2 (aI .int) (eh1 (gR 7 2) (lR 0)) (lI 2))) (eh2 (aI .int) (lR 1) (lI 2))))
 (su3 (aI .int) (uA [41] (fun x y => x + y)) (eh1 (gR 7 2) (lR 0)) (lI 2) (eC (nI 1)))
 sk)
 (sInc 2 (nI 1))))
 rtnU))))))
theorem m_Rule_init : MJ 2 [7, 41] yX6_init none eU (d_Rule_init) := MJ_of (K := K_Rule_init) (ri := .return_) (n1 := 0) (n2 := 0) (n3 := 0)
 (SJ_sq (p0 := 0) (p1 := 4) (nN := 0) (nB := 0) (nC := 0) (SJ_obj (pc := 0) (idx := 1) D_Rule_init_0 D_Rule_init_1 q_383 q_114 q_115 (show 1 ≤ 2 from by decide))
 (SJ_sq (p0 := 4) (p1 := 12) (nN := 0) (nB := 0) (nC := 0) (SJ_putR (t := 7) (c := 6) (kf := 3) (r := (RX6, TX6, 5)) (p0 := 4) (p1 := 5) (p2 := 9) (EJ_aload_n (j := 0) (i := 0) (pc := 4) D_Rule_init_4 rfl) (EJ_anew (C := "TwoLevels$Choice") (t := 42) (p0 := 5) (p1 := 6) (EJ_iconst (n := 4) (v := (nI 4)) (pc := 5) D_Rule_init_5 (by decide +kernel)) D_Rule_init_6 q_384 (by decide) rfl) D_Rule_init_9 ⟨rfl, rfl, by decide, q_397⟩ (Or.inr ⟨rfl, rfl⟩) (Or.inr ⟨_, rfl⟩) (fun _ _ => rfl) (show (7 : Nat) ∈ ([7, 41] : List Nat) from by decide))
 (SJ_sq (p0 := 12) (p1 := 17) (nN := 0) (nB := 0) (nC := 0) (SJ_putR (t := 7) (c := 6) (kf := 0) (r := (RX6, TX6, 5)) (p0 := 12) (p1 := 13) (p2 := 14) (EJ_aload_n (j := 0) (i := 0) (pc := 12) D_Rule_init_12 rfl) (EJ_aload_n (j := 1) (i := 1) (pc := 13) D_Rule_init_13 rfl) D_Rule_init_14 ⟨rfl, rfl, by decide, q_388⟩ (Or.inr ⟨rfl, rfl⟩) (Or.inr ⟨_, rfl⟩) (fun _ _ => rfl) (show (7 : Nat) ∈ ([7, 41] : List Nat) from by decide))
 (SJ_sq (p0 := 17) (p1 := 25) (nN := 0) (nB := 0) (nC := 0) (SJ_putI (z := false) (t := 7) (c := 6) (kf := 1) (r := (RX6, TX6, 5)) (p0 := 17) (p1 := 18) (p2 := 22) (EJ_aload_n (j := 0) (i := 0) (pc := 17) D_Rule_init_17 rfl) (EJ_callS (p0 := 18) (p1 := 19) (AJ_R (p0 := 18) (p1 := 19) (p2 := 19) (EJ_aload_n (j := 1) (i := 1) (pc := 18) D_Rule_init_18 rfl) AJ_nil) m_Upper_bitsOf E1_I D_Rule_init_19 q_385 q_386 q_93 ⟨by decide +kernel, by decide +kernel, by decide +kernel⟩ (by decide) (show 1 + 1 ≤ 2 from by decide) (fun _ h => absurd h List.not_mem_nil)) D_Rule_init_22 ⟨rfl, rfl, by decide, q_391⟩ (Or.inr ⟨rfl, rfl⟩) (fun _ _ => ⟨rfl, rfl⟩) (fun _ _ => rfl) (show (7 : Nat) ∈ ([7, 41] : List Nat) from by decide))
 (SJ_sq (p0 := 25) (p1 := 33) (nN := 0) (nB := 0) (nC := 0) (SJ_putR (t := 7) (c := 6) (kf := 2) (r := (RX6, TX6, 5)) (p0 := 25) (p1 := 26) (p2 := 30) (EJ_aload_n (j := 0) (i := 0) (pc := 25) D_Rule_init_25 rfl) (EJ_newarr (atype := .int) (ty := .int) (t := 41) (p0 := 26) (p1 := 28) (EJ_alen (p0 := 26) (p1 := 27) (EJ_aload_n (j := 1) (i := 1) (pc := 26) D_Rule_init_26 rfl) D_Rule_init_27) D_Rule_init_28 rfl (by decide) q_145 rfl) D_Rule_init_30 ⟨rfl, rfl, by decide, q_395⟩ (Or.inr ⟨rfl, rfl⟩) (Or.inr ⟨_, rfl⟩) (fun _ _ => rfl) (show (7 : Nat) ∈ ([7, 41] : List Nat) from by decide))
 (SJ_sq (p0 := 33) (p1 := 84) (nN := 0) (nB := 0) (nC := 0) (SJ_sq (p0 := 33) (p1 := 35) (nN := 84) (nB := 0) (nC := 0) (SJ_istore_n (i := 2) (j := 2) (p0 := 33) (p1 := 34) (EJ_iconst (n := 0) (v := (nI 0)) (pc := 33) D_Rule_init_33 (by decide +kernel)) D_Rule_init_34 rfl)
 (SJ_loop (p0 := 35) (pB := 41) (pS := 78) (pE := 84) (CJ_lt' (off := 46) (tgt := 84) (p0 := 35) (p1 := 36) (p2 := 38) (EJ_iload_n (j := 2) (i := 2) (pc := 35) D_Rule_init_35 rfl) (EJ_alen (p0 := 36) (p1 := 37) (EJ_aload_n (j := 1) (i := 1) (pc := 36) D_Rule_init_36 rfl) D_Rule_init_37) D_Rule_init_38 rfl)
 (SJ_loop (p0 := 41) (pB := 65) (pS := 41) (pE := 78) (CJ_and (p0 := 41) (pM := 51) (pT := 65) (pF := 78) (CJ_lt' (off := 30) (tgt := 78) (p0 := 41) (p1 := 47) (p2 := 48) (EJ_iald (p0 := 41) (p1 := 45) (p2 := 46) (EJ_getR (t := 7) (c := 6) (kf := 2) (r := (RX6, TX6, 5)) (p0 := 41) (p1 := 42) (EJ_aload_n (j := 0) (i := 0) (pc := 41) D_Rule_init_41 rfl) D_Rule_init_42 ⟨rfl, rfl, by decide, q_395⟩ (fun _ _ => rfl)) (EJ_iload_n (j := 2) (i := 2) (pc := 45) D_Rule_init_45 rfl) D_Rule_init_46) (EJ_iload_n (j := 2) (i := 2) (pc := 47) D_Rule_init_47 rfl) D_Rule_init_48 rfl) (CJ_ne' (off := 16) (tgt := 78) (p0 := 51) (p1 := 59) (p2 := 62) (EJ_iald (p0 := 51) (p1 := 52) (p2 := 58) (EJ_aload_n (j := 1) (i := 1) (pc := 51) D_Rule_init_51 rfl) (EJ_iald (p0 := 52) (p1 := 56) (p2 := 57) (EJ_getR (t := 7) (c := 6) (kf := 2) (r := (RX6, TX6, 5)) (p0 := 52) (p1 := 53) (EJ_aload_n (j := 0) (i := 0) (pc := 52) D_Rule_init_52 rfl) D_Rule_init_53 ⟨rfl, rfl, by decide, q_395⟩ (fun _ _ => rfl)) (EJ_iload_n (j := 2) (i := 2) (pc := 56) D_Rule_init_56 rfl) D_Rule_init_57) D_Rule_init_58) (EJ_iald (p0 := 59) (p1 := 60) (p2 := 61) (EJ_aload_n (j := 1) (i := 1) (pc := 59) D_Rule_init_59 rfl) (EJ_iload_n (j := 2) (i := 2) (pc := 60) D_Rule_init_60 rfl) D_Rule_init_61) D_Rule_init_62 rfl))
 (SJ_post (SJ_upA (ws := [41]) (f := (fun x y => x + y)) (p0 := 65) (p1 := 69) (p2 := 70) (p4 := 73) (EJ_getR (t := 7) (c := 6) (kf := 2) (r := (RX6, TX6, 5)) (p0 := 65) (p1 := 66) (EJ_aload_n (j := 0) (i := 0) (pc := 65) D_Rule_init_65 rfl) D_Rule_init_66 ⟨rfl, rfl, by decide, q_395⟩ (fun _ _ => rfl)) (EJ_iload_n (j := 2) (i := 2) (pc := 69) D_Rule_init_69 rfl) D_Rule_init_70 D_Rule_init_71 (EJ_iconst (n := 1) (v := (nI 1)) (pc := 72) D_Rule_init_72 (by decide +kernel)) (Op2_iadd D_Rule_init_73) D_Rule_init_74 (show ∀ x_ ∈ ([41] : List Nat), x_ ∈ ([7, 41] : List Nat) from by decide)) (Lead.goto (K := K_Rule_init) (pc := 75) (tgt := 41) D_Rule_init_75 rfl))
 SJ_sk)
 (SJ_post (SJ_iinc (i := 2) (n := 1) (v := (nI 1)) (pc := 78) D_Rule_init_78 (by decide +kernel)) (Lead.goto (K := K_Rule_init) (pc := 81) (tgt := 35) D_Rule_init_81 rfl))))
 (SJ_retU (pc := 84) D_Rule_init_84)))))))
 RTm_void q_382 (by decide +kernel) rfl (fun _ => rfl) (show 3 ≤ 40 from by decide) (fun _ => trivial)
theorem D_Reader_readRule_0 : decode cX4_readRule 0 = .ok (.aload_n 0, 1) := by decide +kernel
theorem D_Reader_readRule_1 : decode cX4_readRule 1 = .ok (.getfield 47, 3) := by decide +kernel
theorem D_Reader_readRule_4 : decode cX4_readRule 4 = .ok (.bipush (10), 2) := by decide +kernel
theorem D_Reader_readRule_6 : decode cX4_readRule 6 = .ok (.if_icmp .ne (10), 3) := by decide +kernel
theorem D_Reader_readRule_9 : decode cX4_readRule 9 = .ok (.aload_n 0, 1) := by decide +kernel
theorem D_Reader_readRule_10 : decode cX4_readRule 10 = .ok (.iload_n 1, 1) := by decide +kernel
theorem D_Reader_readRule_11 : decode cX4_readRule 11 = .ok (.iconst (3), 1) := by decide +kernel
theorem D_Reader_readRule_12 : decode cX4_readRule 12 = .ok (.invokevirtual 82, 3) := by decide +kernel
theorem D_Reader_readRule_15 : decode cX4_readRule 15 = .ok (.return_, 1) := by decide +kernel
theorem D_Reader_readRule_16 : decode cX4_readRule 16 = .ok (.new 15, 3) := by decide +kernel
theorem D_Reader_readRule_19 : decode cX4_readRule 19 = .ok (.dup, 1) := by decide +kernel
theorem D_Reader_readRule_20 : decode cX4_readRule 20 = .ok (.aload_n 0, 1) := by decide +kernel
theorem D_Reader_readRule_21 : decode cX4_readRule 21 = .ok (.getfield 17, 3) := by decide +kernel
theorem D_Reader_readRule_24 : decode cX4_readRule 24 = .ok (.iload_n 2, 1) := by decide +kernel
theorem D_Reader_readRule_25 : decode cX4_readRule 25 = .ok (.invokestatic 98, 3) := by decide +kernel
theorem D_Reader_readRule_28 : decode cX4_readRule 28 = .ok (.invokespecial 112, 3) := by decide +kernel
theorem D_Reader_readRule_31 : decode cX4_readRule 31 = .ok (.astore_n 3, 1) := by decide +kernel
theorem D_Reader_readRule_32 : decode cX4_readRule 32 = .ok (.aload_n 0, 1) := by decide +kernel
theorem D_Reader_readRule_33 : decode cX4_readRule 33 = .ok (.getfield 20, 3) := by decide +kernel
theorem D_Reader_readRule_36 : decode cX4_readRule 36 = .ok (.aload_n 0, 1) := by decide +kernel
theorem D_Reader_readRule_37 : decode cX4_readRule 37 = .ok (.getfield 47, 3) := by decide +kernel
theorem D_Reader_readRule_40 : decode cX4_readRule 40 = .ok (.aload_n 3, 1) := by decide +kernel
theorem D_Reader_readRule_41 : decode cX4_readRule 41 = .ok (.aastore, 1) := by decide +kernel
theorem D_Reader_readRule_42 : decode cX4_readRule 42 = .ok (.aload_n 0, 1) := by decide +kernel
theorem D_Reader_readRule_43 : decode cX4_readRule 43 = .ok (.dup, 1) := by decide +kernel
theorem D_Reader_readRule_44 : decode cX4_readRule 44 = .ok (.getfield 47, 3) := by decide +kernel
theorem D_Reader_readRule_47 : decode cX4_readRule 47 = .ok (.iconst (1), 1) := by decide +kernel
theorem D_Reader_readRule_48 : decode cX4_readRule 48 = .ok (.iadd, 1) := by decide +kernel
theorem D_Reader_readRule_49 : decode cX4_readRule 49 = .ok (.putfield 47, 3) := by decide +kernel
theorem D_Reader_readRule_52 : decode cX4_readRule 52 = .ok (.aload_n 0, 1) := by decide +kernel
theorem D_Reader_readRule_53 : decode cX4_readRule 53 = .ok (.dup, 1) := by decide +kernel
theorem D_Reader_readRule_54 : decode cX4_readRule 54 = .ok (.getfield 41, 3) := by decide +kernel
theorem D_Reader_readRule_57 : decode cX4_readRule 57 = .ok (.iconst (1), 1) := by decide +kernel
theorem D_Reader_readRule_58 : decode cX4_readRule 58 = .ok (.iadd, 1) := by decide +kernel
theorem D_Reader_readRule_59 : decode cX4_readRule 59 = .ok (.putfield 41, 3) := by decide +kernel
theorem D_Reader_readRule_62 : decode cX4_readRule 62 = .ok (.iconst (1), 1) := by decide +kernel
theorem D_Reader_readRule_63 : decode cX4_readRule 63 = .ok (.istore 4, 2) := by decide +kernel
theorem D_Reader_readRule_65 : decode cX4_readRule 65 = .ok (.iconst (1), 1) := by decide +kernel
theorem D_Reader_readRule_66 : decode cX4_readRule 66 = .ok (.istore 5, 2) := by decide +kernel
theorem D_Reader_readRule_68 : decode cX4_readRule 68 = .ok (.iload 4, 2) := by decide +kernel
theorem D_Reader_readRule_70 : decode cX4_readRule 70 = .ok (.ifCond .eq (61), 3) := by decide +kernel
theorem D_Reader_readRule_73 : decode cX4_readRule 73 = .ok (.iload 5, 2) := by decide +kernel
theorem D_Reader_readRule_75 : decode cX4_readRule 75 = .ok (.iconst (4), 1) := by decide +kernel
theorem D_Reader_readRule_76 : decode cX4_readRule 76 = .ok (.if_icmp .gt (55), 3) := by decide +kernel
theorem D_Reader_readRule_79 : decode cX4_readRule 79 = .ok (.aload_n 3, 1) := by decide +kernel
theorem D_Reader_readRule_80 : decode cX4_readRule 80 = .ok (.aload_n 0, 1) := by decide +kernel
theorem D_Reader_readRule_81 : decode cX4_readRule 81 = .ok (.aload_n 3, 1) := by decide +kernel
theorem D_Reader_readRule_82 : decode cX4_readRule 82 = .ok (.getfield 115, 3) := by decide +kernel
theorem D_Reader_readRule_85 : decode cX4_readRule 85 = .ok (.invokevirtual 118, 3) := by decide +kernel
theorem D_Reader_readRule_88 : decode cX4_readRule 88 = .ok (.invokevirtual 122, 3) := by decide +kernel
theorem D_Reader_readRule_91 : decode cX4_readRule 91 = .ok (.aload_n 0, 1) := by decide +kernel
theorem D_Reader_readRule_92 : decode cX4_readRule 92 = .ok (.getfield 44, 3) := by decide +kernel
theorem D_Reader_readRule_95 : decode cX4_readRule 95 = .ok (.ifCond .ne (27), 3) := by decide +kernel
theorem D_Reader_readRule_98 : decode cX4_readRule 98 = .ok (.aload_n 0, 1) := by decide +kernel
theorem D_Reader_readRule_99 : decode cX4_readRule 99 = .ok (.bipush (47), 2) := by decide +kernel
theorem D_Reader_readRule_101 : decode cX4_readRule 101 = .ok (.iload 5, 2) := by decide +kernel
theorem D_Reader_readRule_103 : decode cX4_readRule 103 = .ok (.iconst (4), 1) := by decide +kernel
theorem D_Reader_readRule_104 : decode cX4_readRule 104 = .ok (.if_icmp .ne (7), 3) := by decide +kernel
theorem D_Reader_readRule_107 : decode cX4_readRule 107 = .ok (.iconst (1), 1) := by decide +kernel
theorem D_Reader_readRule_108 : decode cX4_readRule 108 = .ok (.goto (4), 3) := by decide +kernel
theorem D_Reader_readRule_111 : decode cX4_readRule 111 = .ok (.iconst (0), 1) := by decide +kernel
theorem D_Reader_readRule_112 : decode cX4_readRule 112 = .ok (.invokevirtual 108, 3) := by decide +kernel
theorem D_Reader_readRule_115 : decode cX4_readRule 115 = .ok (.ifCond .eq (7), 3) := by decide +kernel
theorem D_Reader_readRule_118 : decode cX4_readRule 118 = .ok (.iconst (1), 1) := by decide +kernel
theorem D_Reader_readRule_119 : decode cX4_readRule 119 = .ok (.goto (4), 3) := by decide +kernel
theorem D_Reader_readRule_122 : decode cX4_readRule 122 = .ok (.iconst (0), 1) := by decide +kernel
theorem D_Reader_readRule_123 : decode cX4_readRule 123 = .ok (.istore 4, 2) := by decide +kernel
theorem D_Reader_readRule_125 : decode cX4_readRule 125 = .ok (.iinc 5 (1), 3) := by decide +kernel
theorem D_Reader_readRule_128 : decode cX4_readRule 128 = .ok (.goto (-60), 3) := by decide +kernel
theorem D_Reader_readRule_131 : decode cX4_readRule 131 = .ok (.return_, 1) := by decide +kernel
def K_Reader_readRule : SC := (cX4_readRule, "TwoLevels$Reader", 6, 5, false, [1, 5, 7, 11, 26, 27, 29, 30, 37, 38, 39, 40, 41, 42, 53, 54], NoQ)
def d_Reader_readRule : MD Unit := mth tt 6 (sq (sIf (eh2 c_eq (eh1 (gI 5 6) (lR 0)) (eC (nI 10))) (sq (sE (kV 5 d_Reader_failAt (lR 0) [vI (lI 1), vI (eC (nI 3))]))
 rtnU) sk)
 (sq (sR1 3 (kN 7 5 d_Rule_init [vR (kS (d_Arrays_copyOfI 40) [vR (eh1 (gR 5 4) (lR 0)), vI (lI 2)])]))
 (sq (sh3 (stO [27] "TwoLevels$Rule" 7) (eh1 (gR 5 5) (lR 0)) (eh1 (gI 5 6) (lR 0)) (lR 3))
 (sq (su2 (gI 5 6) (uF false 5 6 (fun x y => x + y)) (lR 0) (eC (nI 1)))
 (sq (su2 (gI 5 2) (uF false 5 2 (fun x y => x + y)) (lR 0) (eC (nI 1)))
 (sq (sI1 4 (eC (nI 1)))
 (sq (sq (sI1 5 (eC (nI 1)))
 (loop (cAnd (eh1 z_ne (lI 4)) (eh2 c_le (lI 5) (eC (nI 4))))
 (sq (sE (kV 7 d_Rule_addChoice (lR 3) [vR (kV 5 d_Reader_readChoice (lR 0) [vI (eh1 (gI 7 1) (lR 3))])]))
 (sI1 4 (eIf (cAnd (eh1 z_eq (eh1 (gI 5 3) (lR 0))) (eh1 z_ne (kV 5 d_Reader_goesOn (lR 0) [vI (eC (nI 47)), vI (eIf (eh2 c_eq (lI 5) (eC (nI 4))) (eC (nI 1)) (eC (nI 0)))]))) (eC (nI 1)) (eC (nI 0)))))
 (sInc 5 (nI 1))))
 rtnU)))))))
theorem m_Reader_readRule : MJ 5 [1, 5, 7, 11, 26, 27, 29, 30, 37, 38, 39, 40, 41, 42, 53, 54] yX4_readRule none eU (d_Reader_readRule) := MJ_of (K := K_Reader_readRule) (ri := .return_) (n1 := 0) (n2 := 0) (n3 := 0)
 (SJ_sq (p0 := 0) (p1 := 16) (nN := 0) (nB := 0) (nC := 0) (SJ_if (p0 := 0) (pT := 9) (pF := 16) (nN := 16) (nB := 0) (nC := 0) (CJ_eq' (off := 10) (tgt := 16) (p0 := 0) (p1 := 4) (p2 := 6) (EJ_getI (t := 5) (c := 4) (kf := 6) (r := (RX4, TX4, 9)) (p0 := 0) (p1 := 1) (EJ_aload_n (j := 0) (i := 0) (pc := 0) D_Reader_readRule_0 rfl) D_Reader_readRule_1 ⟨rfl, rfl, by decide, q_152⟩ (fun _ _ => rfl)) (EJ_bipush (n := 10) (v := (nI 10)) (pc := 4) D_Reader_readRule_4 (by decide +kernel)) D_Reader_readRule_6 rfl) (SJ_sq (p0 := 9) (p1 := 15) (nN := 16) (nB := 0) (nC := 0) (SJ_void (p0 := 9) (p1 := 15) (EJ_callV (t := 5) (c := 4) (r := (RX4, TX4, 9)) (p0 := 9) (p1 := 10) (p2 := 12) (EJ_aload_n (j := 0) (i := 0) (pc := 9) D_Reader_readRule_9 rfl) (AJ_I (p0 := 10) (p1 := 11) (p2 := 12) (EJ_iload_n (j := 1) (i := 1) (pc := 10) D_Reader_readRule_10 rfl) (AJ_I (p0 := 11) (p1 := 12) (p2 := 12) (EJ_iconst (n := 3) (v := (nI 3)) (pc := 11) D_Reader_readRule_11 (by decide +kernel)) AJ_nil)) m_Reader_failAt E1_U D_Reader_readRule_12 rfl rfl rfl q_322 q_323 q_4 q_92 ⟨by decide +kernel, by decide +kernel, by decide +kernel⟩ (by decide) (show 1 + 1 ≤ 5 from by decide) (show ∀ x_ ∈ ([5] : List Nat), x_ ∈ ([1, 5, 7, 11, 26, 27, 29, 30, 37, 38, 39, 40, 41, 42, 53, 54] : List Nat) from by decide)))
 (SJ_retU (pc := 15) D_Reader_readRule_15)) SJ_sk)
 (SJ_sq (p0 := 16) (p1 := 32) (nN := 0) (nB := 0) (nC := 0) (SJ_astore_n (i := 3) (j := 3) (p0 := 16) (p1 := 31) (EJ_new (t := 7) (c := 6) (r := (RX6, TX6, 5)) (p0 := 16) (p1 := 28) D_Reader_readRule_16 D_Reader_readRule_19 (AJ_R (p0 := 20) (p1 := 28) (p2 := 28) (EJ_callS (p0 := 20) (p1 := 25) (AJ_R (p0 := 20) (p1 := 24) (p2 := 25) (EJ_getR (t := 5) (c := 4) (kf := 4) (r := (RX4, TX4, 9)) (p0 := 20) (p1 := 21) (EJ_aload_n (j := 0) (i := 0) (pc := 20) D_Reader_readRule_20 rfl) D_Reader_readRule_21 ⟨rfl, rfl, by decide, q_150⟩ (fun _ _ => rfl)) (AJ_I (p0 := 24) (p1 := 25) (p2 := 25) (EJ_iload_n (j := 2) (i := 2) (pc := 24) D_Reader_readRule_24 rfl) AJ_nil)) (m_Arrays_copyOfI 40 rfl) E1_R D_Reader_readRule_25 q_356 q_357 q_100 ⟨by decide +kernel, by decide +kernel, by decide +kernel⟩ (by decide) (show 2 + 1 ≤ 5 from by decide) (show ∀ x_ ∈ ([40] : List Nat), x_ ∈ ([1, 5, 7, 11, 26, 27, 29, 30, 37, 38, 39, 40, 41, 42, 53, 54] : List Nat) from by decide)) AJ_nil) m_Rule_init D_Reader_readRule_28 rfl rfl q_121 q_379 q_102 rfl rfl (Or.inl q_380) q_381 ⟨by decide +kernel, by decide +kernel, by decide +kernel⟩ (by decide) (show 2 + 1 ≤ 5 from by decide) (show ∀ x_ ∈ ([7, 41] : List Nat), x_ ∈ ([1, 5, 7, 11, 26, 27, 29, 30, 37, 38, 39, 40, 41, 42, 53, 54] : List Nat) from by decide)) D_Reader_readRule_31 rfl)
 (SJ_sq (p0 := 32) (p1 := 42) (nN := 0) (nB := 0) (nC := 0) (SJ_oast (tv := 7) (cv := 6) (r := (RX6, TX6, 5)) (ws := [27]) (p0 := 32) (p1 := 36) (p2 := 40) (p3 := 41) (EJ_getR (t := 5) (c := 4) (kf := 5) (r := (RX4, TX4, 9)) (p0 := 32) (p1 := 33) (EJ_aload_n (j := 0) (i := 0) (pc := 32) D_Reader_readRule_32 rfl) D_Reader_readRule_33 ⟨rfl, rfl, by decide, q_151⟩ (fun _ _ => rfl)) (EJ_getI (t := 5) (c := 4) (kf := 6) (r := (RX4, TX4, 9)) (p0 := 36) (p1 := 37) (EJ_aload_n (j := 0) (i := 0) (pc := 36) D_Reader_readRule_36 rfl) D_Reader_readRule_37 ⟨rfl, rfl, by decide, q_152⟩ (fun _ _ => rfl)) (EJ_aload_n (j := 3) (i := 3) (pc := 40) D_Reader_readRule_40 rfl) D_Reader_readRule_41 rfl rfl rfl (show ∀ x_ ∈ ([27] : List Nat), x_ ∈ ([1, 5, 7, 11, 26, 27, 29, 30, 37, 38, 39, 40, 41, 42, 53, 54] : List Nat) from by decide))
 (SJ_sq (p0 := 42) (p1 := 52) (nN := 0) (nB := 0) (nC := 0) (SJ_upF (z := false) (t := 5) (c := 4) (kf := 6) (r := (RX4, TX4, 9)) (f := (fun x y => x + y)) (p0 := 42) (p1 := 43) (p3 := 48) (EJ_aload_n (j := 0) (i := 0) (pc := 42) D_Reader_readRule_42 rfl) D_Reader_readRule_43 D_Reader_readRule_44 (EJ_iconst (n := 1) (v := (nI 1)) (pc := 47) D_Reader_readRule_47 (by decide +kernel)) (Op2_iadd D_Reader_readRule_48) D_Reader_readRule_49 ⟨rfl, rfl, by decide, q_152⟩ ⟨rfl, rfl, by decide, q_152⟩ (Or.inl rfl) (fun _ _ => ⟨rfl, rfl⟩) (fun _ _ => rfl) (show (5 : Nat) ∈ ([1, 5, 7, 11, 26, 27, 29, 30, 37, 38, 39, 40, 41, 42, 53, 54] : List Nat) from by decide))
 (SJ_sq (p0 := 52) (p1 := 62) (nN := 0) (nB := 0) (nC := 0) (SJ_upF (z := false) (t := 5) (c := 4) (kf := 2) (r := (RX4, TX4, 9)) (f := (fun x y => x + y)) (p0 := 52) (p1 := 53) (p3 := 58) (EJ_aload_n (j := 0) (i := 0) (pc := 52) D_Reader_readRule_52 rfl) D_Reader_readRule_53 D_Reader_readRule_54 (EJ_iconst (n := 1) (v := (nI 1)) (pc := 57) D_Reader_readRule_57 (by decide +kernel)) (Op2_iadd D_Reader_readRule_58) D_Reader_readRule_59 ⟨rfl, rfl, by decide, q_148⟩ ⟨rfl, rfl, by decide, q_148⟩ (Or.inl rfl) (fun _ _ => ⟨rfl, rfl⟩) (fun _ _ => rfl) (show (5 : Nat) ∈ ([1, 5, 7, 11, 26, 27, 29, 30, 37, 38, 39, 40, 41, 42, 53, 54] : List Nat) from by decide))
 (SJ_sq (p0 := 62) (p1 := 65) (nN := 0) (nB := 0) (nC := 0) (SJ_istore (i := 4) (p0 := 62) (p1 := 63) (EJ_iconst (n := 1) (v := (nI 1)) (pc := 62) D_Reader_readRule_62 (by decide +kernel)) D_Reader_readRule_63)
 (SJ_sq (p0 := 65) (p1 := 131) (nN := 0) (nB := 0) (nC := 0) (SJ_sq (p0 := 65) (p1 := 68) (nN := 131) (nB := 0) (nC := 0) (SJ_istore (i := 5) (p0 := 65) (p1 := 66) (EJ_iconst (n := 1) (v := (nI 1)) (pc := 65) D_Reader_readRule_65 (by decide +kernel)) D_Reader_readRule_66)
 (SJ_loop (p0 := 68) (pB := 79) (pS := 125) (pE := 131) (CJ_and (p0 := 68) (pM := 73) (pT := 79) (pF := 131) (CZ_ne' (off := 61) (tgt := 131) (p0 := 68) (p1 := 70) (EJ_iload (i := 4) (pc := 68) D_Reader_readRule_68) D_Reader_readRule_70 rfl) (CJ_le' (off := 55) (tgt := 131) (p0 := 73) (p1 := 75) (p2 := 76) (EJ_iload (i := 5) (pc := 73) D_Reader_readRule_73) (EJ_iconst (n := 4) (v := (nI 4)) (pc := 75) D_Reader_readRule_75 (by decide +kernel)) D_Reader_readRule_76 rfl))
 (SJ_sq (p0 := 79) (p1 := 91) (nN := 125) (nB := 131) (nC := 125) (SJ_void (p0 := 79) (p1 := 91) (EJ_callV (t := 7) (c := 6) (r := (RX6, TX6, 5)) (p0 := 79) (p1 := 80) (p2 := 88) (EJ_aload_n (j := 3) (i := 3) (pc := 79) D_Reader_readRule_79 rfl) (AJ_R (p0 := 80) (p1 := 88) (p2 := 88) (EJ_callV (t := 5) (c := 4) (r := (RX4, TX4, 9)) (p0 := 80) (p1 := 81) (p2 := 85) (EJ_aload_n (j := 0) (i := 0) (pc := 80) D_Reader_readRule_80 rfl) (AJ_I (p0 := 81) (p1 := 85) (p2 := 85) (EJ_getI (t := 7) (c := 6) (kf := 1) (r := (RX6, TX6, 5)) (p0 := 81) (p1 := 82) (EJ_aload_n (j := 3) (i := 3) (pc := 81) D_Reader_readRule_81 rfl) D_Reader_readRule_82 ⟨rfl, rfl, by decide, q_392⟩ (fun _ _ => rfl)) AJ_nil) m_Reader_readChoice E1_R D_Reader_readRule_85 rfl rfl rfl q_409 q_410 q_9 q_92 ⟨by decide +kernel, by decide +kernel, by decide +kernel⟩ (by decide) (show 4 + 1 ≤ 5 from by decide) (show ∀ x_ ∈ ([1, 5, 11, 26, 29, 30, 37, 38, 39, 53, 54] : List Nat), x_ ∈ ([1, 5, 7, 11, 26, 27, 29, 30, 37, 38, 39, 40, 41, 42, 53, 54] : List Nat) from by decide)) AJ_nil) m_Rule_addChoice E1_U D_Reader_readRule_88 rfl rfl rfl q_463 q_464 q_465 q_102 ⟨by decide +kernel, by decide +kernel, by decide +kernel⟩ (by decide) (show 1 + 1 ≤ 5 from by decide) (show ∀ x_ ∈ ([7, 42] : List Nat), x_ ∈ ([1, 5, 7, 11, 26, 27, 29, 30, 37, 38, 39, 40, 41, 42, 53, 54] : List Nat) from by decide)))
 (SJ_istore (i := 4) (p0 := 91) (p1 := 123) (EJ_if (p0 := 91) (pT := 118) (pF := 122) (pE := 119) (p1 := 123) (CJ_and (p0 := 91) (pM := 98) (pT := 118) (pF := 122) (CZ_eq' (off := 27) (tgt := 122) (p0 := 91) (p1 := 95) (EJ_getI (t := 5) (c := 4) (kf := 3) (r := (RX4, TX4, 9)) (p0 := 91) (p1 := 92) (EJ_aload_n (j := 0) (i := 0) (pc := 91) D_Reader_readRule_91 rfl) D_Reader_readRule_92 ⟨rfl, rfl, by decide, q_149⟩ (fun _ _ => rfl)) D_Reader_readRule_95 rfl) (CZ_ne' (off := 7) (tgt := 122) (p0 := 98) (p1 := 115) (EJ_callV (t := 5) (c := 4) (r := (RX4, TX4, 9)) (p0 := 98) (p1 := 99) (p2 := 112) (EJ_aload_n (j := 0) (i := 0) (pc := 98) D_Reader_readRule_98 rfl) (AJ_I (p0 := 99) (p1 := 101) (p2 := 112) (EJ_bipush (n := 47) (v := (nI 47)) (pc := 99) D_Reader_readRule_99 (by decide +kernel)) (AJ_I (p0 := 101) (p1 := 112) (p2 := 112) (EJ_if (p0 := 101) (pT := 107) (pF := 111) (pE := 108) (p1 := 112) (CJ_eq' (off := 7) (tgt := 111) (p0 := 101) (p1 := 103) (p2 := 104) (EJ_iload (i := 5) (pc := 101) D_Reader_readRule_101) (EJ_iconst (n := 4) (v := (nI 4)) (pc := 103) D_Reader_readRule_103 (by decide +kernel)) D_Reader_readRule_104 rfl) (EJ_iconst (n := 1) (v := (nI 1)) (pc := 107) D_Reader_readRule_107 (by decide +kernel)) (Lead.goto (K := K_Reader_readRule) (pc := 108) (tgt := 112) D_Reader_readRule_108 rfl) (EJ_iconst (n := 0) (v := (nI 0)) (pc := 111) D_Reader_readRule_111 (by decide +kernel))) AJ_nil)) m_Reader_goesOn E1_I D_Reader_readRule_112 rfl rfl rfl q_373 q_374 q_7 q_92 ⟨by decide +kernel, by decide +kernel, by decide +kernel⟩ (by decide) (show 2 + 1 ≤ 5 from by decide) (show ∀ x_ ∈ ([5] : List Nat), x_ ∈ ([1, 5, 7, 11, 26, 27, 29, 30, 37, 38, 39, 40, 41, 42, 53, 54] : List Nat) from by decide)) D_Reader_readRule_115 rfl)) (EJ_iconst (n := 1) (v := (nI 1)) (pc := 118) D_Reader_readRule_118 (by decide +kernel)) (Lead.goto (K := K_Reader_readRule) (pc := 119) (tgt := 123) D_Reader_readRule_119 rfl) (EJ_iconst (n := 0) (v := (nI 0)) (pc := 122) D_Reader_readRule_122 (by decide +kernel))) D_Reader_readRule_123))
 (SJ_post (SJ_iinc (i := 5) (n := 1) (v := (nI 1)) (pc := 125) D_Reader_readRule_125 (by decide +kernel)) (Lead.goto (K := K_Reader_readRule) (pc := 128) (tgt := 68) D_Reader_readRule_128 rfl))))
 (SJ_retU (pc := 131) D_Reader_readRule_131))))))))
 RTm_void q_378 (by decide +kernel) rfl (fun h => by cases h) (show 6 ≤ 40 from by decide) (fun _ => trivial)
theorem D_Reader_readPart_0 : decode cX4_readPart 0 = .ok (.aload_n 0, 1) := by decide +kernel
theorem D_Reader_readPart_1 : decode cX4_readPart 1 = .ok (.aconst_null, 1) := by decide +kernel
theorem D_Reader_readPart_2 : decode cX4_readPart 2 = .ok (.putfield 63, 3) := by decide +kernel
theorem D_Reader_readPart_5 : decode cX4_readPart 5 = .ok (.aload_n 0, 1) := by decide +kernel
theorem D_Reader_readPart_6 : decode cX4_readPart 6 = .ok (.invokevirtual 50, 3) := by decide +kernel
theorem D_Reader_readPart_9 : decode cX4_readPart 9 = .ok (.aload_n 0, 1) := by decide +kernel
theorem D_Reader_readPart_10 : decode cX4_readPart 10 = .ok (.getfield 41, 3) := by decide +kernel
theorem D_Reader_readPart_13 : decode cX4_readPart 13 = .ok (.istore_n 1, 1) := by decide +kernel
theorem D_Reader_readPart_14 : decode cX4_readPart 14 = .ok (.aload_n 0, 1) := by decide +kernel
theorem D_Reader_readPart_15 : decode cX4_readPart 15 = .ok (.invokevirtual 67, 3) := by decide +kernel
theorem D_Reader_readPart_18 : decode cX4_readPart 18 = .ok (.istore_n 2, 1) := by decide +kernel
theorem D_Reader_readPart_19 : decode cX4_readPart 19 = .ok (.aload_n 0, 1) := by decide +kernel
theorem D_Reader_readPart_20 : decode cX4_readPart 20 = .ok (.getfield 44, 3) := by decide +kernel
theorem D_Reader_readPart_23 : decode cX4_readPart 23 = .ok (.ifCond .ne (73), 3) := by decide +kernel
theorem D_Reader_readPart_26 : decode cX4_readPart 26 = .ok (.aload_n 0, 1) := by decide +kernel
theorem D_Reader_readPart_27 : decode cX4_readPart 27 = .ok (.bipush (61), 2) := by decide +kernel
theorem D_Reader_readPart_29 : decode cX4_readPart 29 = .ok (.invokevirtual 71, 3) := by decide +kernel
theorem D_Reader_readPart_32 : decode cX4_readPart 32 = .ok (.ifCond .eq (33), 3) := by decide +kernel
theorem D_Reader_readPart_35 : decode cX4_readPart 35 = .ok (.iload_n 2, 1) := by decide +kernel
theorem D_Reader_readPart_36 : decode cX4_readPart 36 = .ok (.iconst (1), 1) := by decide +kernel
theorem D_Reader_readPart_37 : decode cX4_readPart 37 = .ok (.if_icmp .ne (28), 3) := by decide +kernel
theorem D_Reader_readPart_40 : decode cX4_readPart 40 = .ok (.aload_n 0, 1) := by decide +kernel
theorem D_Reader_readPart_41 : decode cX4_readPart 41 = .ok (.getfield 17, 3) := by decide +kernel
theorem D_Reader_readPart_44 : decode cX4_readPart 44 = .ok (.iconst (0), 1) := by decide +kernel
theorem D_Reader_readPart_45 : decode cX4_readPart 45 = .ok (.iaload, 1) := by decide +kernel
theorem D_Reader_readPart_46 : decode cX4_readPart 46 = .ok (.bipush (32), 2) := by decide +kernel
theorem D_Reader_readPart_48 : decode cX4_readPart 48 = .ok (.if_icmp .lt (17), 3) := by decide +kernel
theorem D_Reader_readPart_51 : decode cX4_readPart 51 = .ok (.aload_n 0, 1) := by decide +kernel
theorem D_Reader_readPart_52 : decode cX4_readPart 52 = .ok (.iload_n 1, 1) := by decide +kernel
theorem D_Reader_readPart_53 : decode cX4_readPart 53 = .ok (.aload_n 0, 1) := by decide +kernel
theorem D_Reader_readPart_54 : decode cX4_readPart 54 = .ok (.getfield 17, 3) := by decide +kernel
theorem D_Reader_readPart_57 : decode cX4_readPart 57 = .ok (.iconst (0), 1) := by decide +kernel
theorem D_Reader_readPart_58 : decode cX4_readPart 58 = .ok (.iaload, 1) := by decide +kernel
theorem D_Reader_readPart_59 : decode cX4_readPart 59 = .ok (.invokevirtual 75, 3) := by decide +kernel
theorem D_Reader_readPart_62 : decode cX4_readPart 62 = .ok (.goto (34), 3) := by decide +kernel
theorem D_Reader_readPart_65 : decode cX4_readPart 65 = .ok (.aload_n 0, 1) := by decide +kernel
theorem D_Reader_readPart_66 : decode cX4_readPart 66 = .ok (.bipush (58), 2) := by decide +kernel
theorem D_Reader_readPart_68 : decode cX4_readPart 68 = .ok (.invokevirtual 71, 3) := by decide +kernel
theorem D_Reader_readPart_71 : decode cX4_readPart 71 = .ok (.ifCond .eq (16), 3) := by decide +kernel
theorem D_Reader_readPart_74 : decode cX4_readPart 74 = .ok (.iload_n 2, 1) := by decide +kernel
theorem D_Reader_readPart_75 : decode cX4_readPart 75 = .ok (.ifCond .le (12), 3) := by decide +kernel
theorem D_Reader_readPart_78 : decode cX4_readPart 78 = .ok (.aload_n 0, 1) := by decide +kernel
theorem D_Reader_readPart_79 : decode cX4_readPart 79 = .ok (.iload_n 1, 1) := by decide +kernel
theorem D_Reader_readPart_80 : decode cX4_readPart 80 = .ok (.iload_n 2, 1) := by decide +kernel
theorem D_Reader_readPart_81 : decode cX4_readPart 81 = .ok (.invokevirtual 79, 3) := by decide +kernel
theorem D_Reader_readPart_84 : decode cX4_readPart 84 = .ok (.goto (12), 3) := by decide +kernel
theorem D_Reader_readPart_87 : decode cX4_readPart 87 = .ok (.aload_n 0, 1) := by decide +kernel
theorem D_Reader_readPart_88 : decode cX4_readPart 88 = .ok (.aload_n 0, 1) := by decide +kernel
theorem D_Reader_readPart_89 : decode cX4_readPart 89 = .ok (.getfield 41, 3) := by decide +kernel
theorem D_Reader_readPart_92 : decode cX4_readPart 92 = .ok (.iconst (1), 1) := by decide +kernel
theorem D_Reader_readPart_93 : decode cX4_readPart 93 = .ok (.invokevirtual 82, 3) := by decide +kernel
theorem D_Reader_readPart_96 : decode cX4_readPart 96 = .ok (.aload_n 0, 1) := by decide +kernel
theorem D_Reader_readPart_97 : decode cX4_readPart 97 = .ok (.getfield 44, 3) := by decide +kernel
theorem D_Reader_readPart_100 : decode cX4_readPart 100 = .ok (.ifCond .ne (16), 3) := by decide +kernel
theorem D_Reader_readPart_103 : decode cX4_readPart 103 = .ok (.aload_n 0, 1) := by decide +kernel
theorem D_Reader_readPart_104 : decode cX4_readPart 104 = .ok (.bipush (59), 2) := by decide +kernel
theorem D_Reader_readPart_106 : decode cX4_readPart 106 = .ok (.invokevirtual 85, 3) := by decide +kernel
theorem D_Reader_readPart_109 : decode cX4_readPart 109 = .ok (.ifCond .eq (7), 3) := by decide +kernel
theorem D_Reader_readPart_112 : decode cX4_readPart 112 = .ok (.iconst (1), 1) := by decide +kernel
theorem D_Reader_readPart_113 : decode cX4_readPart 113 = .ok (.goto (4), 3) := by decide +kernel
theorem D_Reader_readPart_116 : decode cX4_readPart 116 = .ok (.iconst (0), 1) := by decide +kernel
theorem D_Reader_readPart_117 : decode cX4_readPart 117 = .ok (.ireturn, 1) := by decide +kernel
def K_Reader_readPart : SC := (cX4_readPart, "TwoLevels$Reader", 3, 6, false, [1, 5, 7, 11, 26, 27, 29, 30, 31, 32, 34, 37, 38, 39, 40, 41, 42, 53, 54], NoQ)
def d_Reader_readPart : MD Int32 := mth zz 3 (sq (sh2 (pR 5 7) (lR 0) (eC none))
 (sq (sE (kV 5 d_Reader_skipBlanks (lR 0) []))
 (sq (sI1 1 (eh1 (gI 5 2) (lR 0)))
 (sq (sI1 2 (kV 5 d_Reader_readSigns (lR 0) []))
 (sq (sIf (eh1 z_eq (eh1 (gI 5 3) (lR 0))) (sIf (cAnd (cAnd (eh1 z_ne (kV 5 d_Reader_sees (lR 0) [vI (eC (nI 61))])) (eh2 c_eq (lI 2) (eC (nI 1)))) (eh2 c_ge (eh2 (aI .int) (eh1 (gR 5 4) (lR 0)) (eC (nI 0))) (eC (nI 32)))) (sE (kV 5 d_Reader_readMetanotion (lR 0) [vI (lI 1), vI (eh2 (aI .int) (eh1 (gR 5 4) (lR 0)) (eC (nI 0)))])) (sIf (cAnd (eh1 z_ne (kV 5 d_Reader_sees (lR 0) [vI (eC (nI 58))])) (eh1 z_gt (lI 2))) (sE (kV 5 d_Reader_readRule (lR 0) [vI (lI 1), vI (lI 2)])) (sE (kV 5 d_Reader_failAt (lR 0) [vI (eh1 (gI 5 2) (lR 0)), vI (eC (nI 1))])))) sk)
 (rtn (eIf (cAnd (eh1 z_eq (eh1 (gI 5 3) (lR 0))) (eh1 z_ne (kV 5 d_Reader_goesOver (lR 0) [vI (eC (nI 59))]))) (eC (nI 1)) (eC (nI 0)))))))))
theorem m_Reader_readPart : MJ 6 [1, 5, 7, 11, 26, 27, 29, 30, 31, 32, 34, 37, 38, 39, 40, 41, 42, 53, 54] yX4_readPart (some .boolean) eI (d_Reader_readPart) := MJ_of (K := K_Reader_readPart) (ri := .ireturn) (n1 := 0) (n2 := 0) (n3 := 0)
 (SJ_sq (p0 := 0) (p1 := 5) (nN := 0) (nB := 0) (nC := 0) (SJ_putR (t := 5) (c := 4) (kf := 7) (r := (RX4, TX4, 9)) (p0 := 0) (p1 := 1) (p2 := 2) (EJ_aload_n (j := 0) (i := 0) (pc := 0) D_Reader_readPart_0 rfl) (EJ_null (pc := 1) D_Reader_readPart_1) D_Reader_readPart_2 ⟨rfl, rfl, by decide, q_153⟩ (Or.inl rfl) (Or.inl ⟨_, rfl⟩) (fun _ _ => rfl) (show (5 : Nat) ∈ ([1, 5, 7, 11, 26, 27, 29, 30, 31, 32, 34, 37, 38, 39, 40, 41, 42, 53, 54] : List Nat) from by decide))
 (SJ_sq (p0 := 5) (p1 := 9) (nN := 0) (nB := 0) (nC := 0) (SJ_void (p0 := 5) (p1 := 9) (EJ_callV (t := 5) (c := 4) (r := (RX4, TX4, 9)) (p0 := 5) (p1 := 6) (p2 := 6) (EJ_aload_n (j := 0) (i := 0) (pc := 5) D_Reader_readPart_5 rfl) AJ_nil m_Reader_skipBlanks E1_U D_Reader_readPart_6 rfl rfl rfl q_309 q_310 q_1 q_92 ⟨by decide +kernel, by decide +kernel, by decide +kernel⟩ (by decide) (show 1 + 1 ≤ 6 from by decide) (show ∀ x_ ∈ ([5] : List Nat), x_ ∈ ([1, 5, 7, 11, 26, 27, 29, 30, 31, 32, 34, 37, 38, 39, 40, 41, 42, 53, 54] : List Nat) from by decide)))
 (SJ_sq (p0 := 9) (p1 := 14) (nN := 0) (nB := 0) (nC := 0) (SJ_istore_n (i := 1) (j := 1) (p0 := 9) (p1 := 13) (EJ_getI (t := 5) (c := 4) (kf := 2) (r := (RX4, TX4, 9)) (p0 := 9) (p1 := 10) (EJ_aload_n (j := 0) (i := 0) (pc := 9) D_Reader_readPart_9 rfl) D_Reader_readPart_10 ⟨rfl, rfl, by decide, q_148⟩ (fun _ _ => rfl)) D_Reader_readPart_13 rfl)
 (SJ_sq (p0 := 14) (p1 := 19) (nN := 0) (nB := 0) (nC := 0) (SJ_istore_n (i := 2) (j := 2) (p0 := 14) (p1 := 18) (EJ_callV (t := 5) (c := 4) (r := (RX4, TX4, 9)) (p0 := 14) (p1 := 15) (p2 := 15) (EJ_aload_n (j := 0) (i := 0) (pc := 14) D_Reader_readPart_14 rfl) AJ_nil m_Reader_readSigns E1_I D_Reader_readPart_15 rfl rfl rfl q_315 q_316 q_3 q_92 ⟨by decide +kernel, by decide +kernel, by decide +kernel⟩ (by decide) (show 2 + 1 ≤ 6 from by decide) (show ∀ x_ ∈ ([1, 5, 11, 26, 29, 30, 38, 53, 54] : List Nat), x_ ∈ ([1, 5, 7, 11, 26, 27, 29, 30, 31, 32, 34, 37, 38, 39, 40, 41, 42, 53, 54] : List Nat) from by decide)) D_Reader_readPart_18 rfl)
 (SJ_sq (p0 := 19) (p1 := 96) (nN := 0) (nB := 0) (nC := 0) (SJ_if (p0 := 19) (pT := 26) (pF := 96) (nN := 96) (nB := 0) (nC := 0) (CZ_eq' (off := 73) (tgt := 96) (p0 := 19) (p1 := 23) (EJ_getI (t := 5) (c := 4) (kf := 3) (r := (RX4, TX4, 9)) (p0 := 19) (p1 := 20) (EJ_aload_n (j := 0) (i := 0) (pc := 19) D_Reader_readPart_19 rfl) D_Reader_readPart_20 ⟨rfl, rfl, by decide, q_149⟩ (fun _ _ => rfl)) D_Reader_readPart_23 rfl) (SJ_if (p0 := 26) (pT := 51) (pF := 65) (nN := 96) (nB := 0) (nC := 0) (CJ_and (p0 := 26) (pM := 40) (pT := 51) (pF := 65) (CJ_and (p0 := 26) (pM := 35) (pT := 40) (pF := 65) (CZ_ne' (off := 33) (tgt := 65) (p0 := 26) (p1 := 32) (EJ_callV (t := 5) (c := 4) (r := (RX4, TX4, 9)) (p0 := 26) (p1 := 27) (p2 := 29) (EJ_aload_n (j := 0) (i := 0) (pc := 26) D_Reader_readPart_26 rfl) (AJ_I (p0 := 27) (p1 := 29) (p2 := 29) (EJ_bipush (n := 61) (v := (nI 61)) (pc := 27) D_Reader_readPart_27 (by decide +kernel)) AJ_nil) m_Reader_sees E1_I D_Reader_readPart_29 rfl rfl rfl q_329 q_330 q_5 q_92 ⟨by decide +kernel, by decide +kernel, by decide +kernel⟩ (by decide) (show 1 + 1 ≤ 6 from by decide) (fun _ h => absurd h List.not_mem_nil)) D_Reader_readPart_32 rfl) (CJ_eq' (off := 28) (tgt := 65) (p0 := 35) (p1 := 36) (p2 := 37) (EJ_iload_n (j := 2) (i := 2) (pc := 35) D_Reader_readPart_35 rfl) (EJ_iconst (n := 1) (v := (nI 1)) (pc := 36) D_Reader_readPart_36 (by decide +kernel)) D_Reader_readPart_37 rfl)) (CJ_ge' (off := 17) (tgt := 65) (p0 := 40) (p1 := 46) (p2 := 48) (EJ_iald (p0 := 40) (p1 := 44) (p2 := 45) (EJ_getR (t := 5) (c := 4) (kf := 4) (r := (RX4, TX4, 9)) (p0 := 40) (p1 := 41) (EJ_aload_n (j := 0) (i := 0) (pc := 40) D_Reader_readPart_40 rfl) D_Reader_readPart_41 ⟨rfl, rfl, by decide, q_150⟩ (fun _ _ => rfl)) (EJ_iconst (n := 0) (v := (nI 0)) (pc := 44) D_Reader_readPart_44 (by decide +kernel)) D_Reader_readPart_45) (EJ_bipush (n := 32) (v := (nI 32)) (pc := 46) D_Reader_readPart_46 (by decide +kernel)) D_Reader_readPart_48 rfl)) (SJ_post (SJ_void (p0 := 51) (p1 := 62) (EJ_callV (t := 5) (c := 4) (r := (RX4, TX4, 9)) (p0 := 51) (p1 := 52) (p2 := 59) (EJ_aload_n (j := 0) (i := 0) (pc := 51) D_Reader_readPart_51 rfl) (AJ_I (p0 := 52) (p1 := 53) (p2 := 59) (EJ_iload_n (j := 1) (i := 1) (pc := 52) D_Reader_readPart_52 rfl) (AJ_I (p0 := 53) (p1 := 59) (p2 := 59) (EJ_iald (p0 := 53) (p1 := 57) (p2 := 58) (EJ_getR (t := 5) (c := 4) (kf := 4) (r := (RX4, TX4, 9)) (p0 := 53) (p1 := 54) (EJ_aload_n (j := 0) (i := 0) (pc := 53) D_Reader_readPart_53 rfl) D_Reader_readPart_54 ⟨rfl, rfl, by decide, q_150⟩ (fun _ _ => rfl)) (EJ_iconst (n := 0) (v := (nI 0)) (pc := 57) D_Reader_readPart_57 (by decide +kernel)) D_Reader_readPart_58) AJ_nil)) m_Reader_readMetanotion E1_U D_Reader_readPart_59 rfl rfl rfl q_332 q_333 q_6 q_92 ⟨by decide +kernel, by decide +kernel, by decide +kernel⟩ (by decide) (show 3 + 1 ≤ 6 from by decide) (show ∀ x_ ∈ ([1, 5, 11, 26, 29, 30, 31, 32, 34, 38, 53, 54] : List Nat), x_ ∈ ([1, 5, 7, 11, 26, 27, 29, 30, 31, 32, 34, 37, 38, 39, 40, 41, 42, 53, 54] : List Nat) from by decide))) (Lead.goto (K := K_Reader_readPart) (pc := 62) (tgt := 96) D_Reader_readPart_62 rfl)) (SJ_if (p0 := 65) (pT := 78) (pF := 87) (nN := 96) (nB := 0) (nC := 0) (CJ_and (p0 := 65) (pM := 74) (pT := 78) (pF := 87) (CZ_ne' (off := 16) (tgt := 87) (p0 := 65) (p1 := 71) (EJ_callV (t := 5) (c := 4) (r := (RX4, TX4, 9)) (p0 := 65) (p1 := 66) (p2 := 68) (EJ_aload_n (j := 0) (i := 0) (pc := 65) D_Reader_readPart_65 rfl) (AJ_I (p0 := 66) (p1 := 68) (p2 := 68) (EJ_bipush (n := 58) (v := (nI 58)) (pc := 66) D_Reader_readPart_66 (by decide +kernel)) AJ_nil) m_Reader_sees E1_I D_Reader_readPart_68 rfl rfl rfl q_329 q_330 q_5 q_92 ⟨by decide +kernel, by decide +kernel, by decide +kernel⟩ (by decide) (show 1 + 1 ≤ 6 from by decide) (fun _ h => absurd h List.not_mem_nil)) D_Reader_readPart_71 rfl) (CZ_gt' (off := 12) (tgt := 87) (p0 := 74) (p1 := 75) (EJ_iload_n (j := 2) (i := 2) (pc := 74) D_Reader_readPart_74 rfl) D_Reader_readPart_75 rfl)) (SJ_post (SJ_void (p0 := 78) (p1 := 84) (EJ_callV (t := 5) (c := 4) (r := (RX4, TX4, 9)) (p0 := 78) (p1 := 79) (p2 := 81) (EJ_aload_n (j := 0) (i := 0) (pc := 78) D_Reader_readPart_78 rfl) (AJ_I (p0 := 79) (p1 := 80) (p2 := 81) (EJ_iload_n (j := 1) (i := 1) (pc := 79) D_Reader_readPart_79 rfl) (AJ_I (p0 := 80) (p1 := 81) (p2 := 81) (EJ_iload_n (j := 2) (i := 2) (pc := 80) D_Reader_readPart_80 rfl) AJ_nil)) m_Reader_readRule E1_U D_Reader_readPart_81 rfl rfl rfl q_376 q_377 q_8 q_92 ⟨by decide +kernel, by decide +kernel, by decide +kernel⟩ (by decide) (show 5 + 1 ≤ 6 from by decide) (show ∀ x_ ∈ ([1, 5, 7, 11, 26, 27, 29, 30, 37, 38, 39, 40, 41, 42, 53, 54] : List Nat), x_ ∈ ([1, 5, 7, 11, 26, 27, 29, 30, 31, 32, 34, 37, 38, 39, 40, 41, 42, 53, 54] : List Nat) from by decide))) (Lead.goto (K := K_Reader_readPart) (pc := 84) (tgt := 96) D_Reader_readPart_84 rfl)) (SJ_void (p0 := 87) (p1 := 96) (EJ_callV (t := 5) (c := 4) (r := (RX4, TX4, 9)) (p0 := 87) (p1 := 88) (p2 := 93) (EJ_aload_n (j := 0) (i := 0) (pc := 87) D_Reader_readPart_87 rfl) (AJ_I (p0 := 88) (p1 := 92) (p2 := 93) (EJ_getI (t := 5) (c := 4) (kf := 2) (r := (RX4, TX4, 9)) (p0 := 88) (p1 := 89) (EJ_aload_n (j := 0) (i := 0) (pc := 88) D_Reader_readPart_88 rfl) D_Reader_readPart_89 ⟨rfl, rfl, by decide, q_148⟩ (fun _ _ => rfl)) (AJ_I (p0 := 92) (p1 := 93) (p2 := 93) (EJ_iconst (n := 1) (v := (nI 1)) (pc := 92) D_Reader_readPart_92 (by decide +kernel)) AJ_nil)) m_Reader_failAt E1_U D_Reader_readPart_93 rfl rfl rfl q_322 q_323 q_4 q_92 ⟨by decide +kernel, by decide +kernel, by decide +kernel⟩ (by decide) (show 1 + 1 ≤ 6 from by decide) (show ∀ x_ ∈ ([5] : List Nat), x_ ∈ ([1, 5, 7, 11, 26, 27, 29, 30, 31, 32, 34, 37, 38, 39, 40, 41, 42, 53, 54] : List Nat) from by decide))))) SJ_sk)
 (SJ_ret (p0 := 96) (p1 := 117) (EJ_if (p0 := 96) (pT := 112) (pF := 116) (pE := 113) (p1 := 117) (CJ_and (p0 := 96) (pM := 103) (pT := 112) (pF := 116) (CZ_eq' (off := 16) (tgt := 116) (p0 := 96) (p1 := 100) (EJ_getI (t := 5) (c := 4) (kf := 3) (r := (RX4, TX4, 9)) (p0 := 96) (p1 := 97) (EJ_aload_n (j := 0) (i := 0) (pc := 96) D_Reader_readPart_96 rfl) D_Reader_readPart_97 ⟨rfl, rfl, by decide, q_149⟩ (fun _ _ => rfl)) D_Reader_readPart_100 rfl) (CZ_ne' (off := 7) (tgt := 116) (p0 := 103) (p1 := 109) (EJ_callV (t := 5) (c := 4) (r := (RX4, TX4, 9)) (p0 := 103) (p1 := 104) (p2 := 106) (EJ_aload_n (j := 0) (i := 0) (pc := 103) D_Reader_readPart_103 rfl) (AJ_I (p0 := 104) (p1 := 106) (p2 := 106) (EJ_bipush (n := 59) (v := (nI 59)) (pc := 104) D_Reader_readPart_104 (by decide +kernel)) AJ_nil) m_Reader_goesOver E1_I D_Reader_readPart_106 rfl rfl rfl q_455 q_456 q_11 q_92 ⟨by decide +kernel, by decide +kernel, by decide +kernel⟩ (by decide) (show 2 + 1 ≤ 6 from by decide) (show ∀ x_ ∈ ([5] : List Nat), x_ ∈ ([1, 5, 7, 11, 26, 27, 29, 30, 31, 32, 34, 37, 38, 39, 40, 41, 42, 53, 54] : List Nat) from by decide)) D_Reader_readPart_109 rfl)) (EJ_iconst (n := 1) (v := (nI 1)) (pc := 112) D_Reader_readPart_112 (by decide +kernel)) (Lead.goto (K := K_Reader_readPart) (pc := 113) (tgt := 117) D_Reader_readPart_113 rfl) (EJ_iconst (n := 0) (v := (nI 0)) (pc := 116) D_Reader_readPart_116 (by decide +kernel))) D_Reader_readPart_117))))))
 RTm_bool q_314 (by decide +kernel) rfl (fun h => by cases h) (show 3 ≤ 40 from by decide) (fun _ => trivial)
theorem D_Upper_takeWords_0 : decode cX10_takeWords 0 = .ok (.iconst (0), 1) := by decide +kernel
theorem D_Upper_takeWords_1 : decode cX10_takeWords 1 = .ok (.istore 4, 2) := by decide +kernel
theorem D_Upper_takeWords_3 : decode cX10_takeWords 3 = .ok (.aload_n 3, 1) := by decide +kernel
theorem D_Upper_takeWords_4 : decode cX10_takeWords 4 = .ok (.iload 4, 2) := by decide +kernel
theorem D_Upper_takeWords_6 : decode cX10_takeWords 6 = .ok (.aaload, 1) := by decide +kernel
theorem D_Upper_takeWords_7 : decode cX10_takeWords 7 = .ok (.iconst (0), 1) := by decide +kernel
theorem D_Upper_takeWords_8 : decode cX10_takeWords 8 = .ok (.invokevirtual 67, 3) := by decide +kernel
theorem D_Upper_takeWords_11 : decode cX10_takeWords 11 = .ok (.aload_n 2, 1) := by decide +kernel
theorem D_Upper_takeWords_12 : decode cX10_takeWords 12 = .ok (.astore 5, 2) := by decide +kernel
theorem D_Upper_takeWords_14 : decode cX10_takeWords 14 = .ok (.aload 5, 2) := by decide +kernel
theorem D_Upper_takeWords_16 : decode cX10_takeWords 16 = .ok (.arraylength, 1) := by decide +kernel
theorem D_Upper_takeWords_17 : decode cX10_takeWords 17 = .ok (.istore 6, 2) := by decide +kernel
theorem D_Upper_takeWords_19 : decode cX10_takeWords 19 = .ok (.iconst (0), 1) := by decide +kernel
theorem D_Upper_takeWords_20 : decode cX10_takeWords 20 = .ok (.istore 7, 2) := by decide +kernel
theorem D_Upper_takeWords_22 : decode cX10_takeWords 22 = .ok (.iload 7, 2) := by decide +kernel
theorem D_Upper_takeWords_24 : decode cX10_takeWords 24 = .ok (.iload 6, 2) := by decide +kernel
theorem D_Upper_takeWords_26 : decode cX10_takeWords 26 = .ok (.if_icmp .ge (76), 3) := by decide +kernel
theorem D_Upper_takeWords_29 : decode cX10_takeWords 29 = .ok (.aload 5, 2) := by decide +kernel
theorem D_Upper_takeWords_31 : decode cX10_takeWords 31 = .ok (.iload 7, 2) := by decide +kernel
theorem D_Upper_takeWords_33 : decode cX10_takeWords 33 = .ok (.iaload, 1) := by decide +kernel
theorem D_Upper_takeWords_34 : decode cX10_takeWords 34 = .ok (.istore 8, 2) := by decide +kernel
theorem D_Upper_takeWords_36 : decode cX10_takeWords 36 = .ok (.iload 8, 2) := by decide +kernel
theorem D_Upper_takeWords_38 : decode cX10_takeWords 38 = .ok (.bipush (32), 2) := by decide +kernel
theorem D_Upper_takeWords_40 : decode cX10_takeWords 40 = .ok (.if_icmp .ge (9), 3) := by decide +kernel
theorem D_Upper_takeWords_43 : decode cX10_takeWords 43 = .ok (.aload_n 3, 1) := by decide +kernel
theorem D_Upper_takeWords_44 : decode cX10_takeWords 44 = .ok (.iconst (2), 1) := by decide +kernel
theorem D_Upper_takeWords_45 : decode cX10_takeWords 45 = .ok (.aaload, 1) := by decide +kernel
theorem D_Upper_takeWords_46 : decode cX10_takeWords 46 = .ok (.goto (13), 3) := by decide +kernel
theorem D_Upper_takeWords_49 : decode cX10_takeWords 49 = .ok (.aload_n 0, 1) := by decide +kernel
theorem D_Upper_takeWords_50 : decode cX10_takeWords 50 = .ok (.getfield 28, 3) := by decide +kernel
theorem D_Upper_takeWords_53 : decode cX10_takeWords 53 = .ok (.iload 8, 2) := by decide +kernel
theorem D_Upper_takeWords_55 : decode cX10_takeWords 55 = .ok (.bipush (32), 2) := by decide +kernel
theorem D_Upper_takeWords_57 : decode cX10_takeWords 57 = .ok (.isub, 1) := by decide +kernel
theorem D_Upper_takeWords_58 : decode cX10_takeWords 58 = .ok (.aaload, 1) := by decide +kernel
theorem D_Upper_takeWords_59 : decode cX10_takeWords 59 = .ok (.astore 9, 2) := by decide +kernel
theorem D_Upper_takeWords_61 : decode cX10_takeWords 61 = .ok (.iload 8, 2) := by decide +kernel
theorem D_Upper_takeWords_63 : decode cX10_takeWords 63 = .ok (.bipush (32), 2) := by decide +kernel
theorem D_Upper_takeWords_65 : decode cX10_takeWords 65 = .ok (.if_icmp .ge (10), 3) := by decide +kernel
theorem D_Upper_takeWords_68 : decode cX10_takeWords 68 = .ok (.aload 9, 2) := by decide +kernel
theorem D_Upper_takeWords_70 : decode cX10_takeWords 70 = .ok (.iload 8, 2) := by decide +kernel
theorem D_Upper_takeWords_72 : decode cX10_takeWords 72 = .ok (.invokevirtual 67, 3) := by decide +kernel
theorem D_Upper_takeWords_75 : decode cX10_takeWords 75 = .ok (.aload_n 3, 1) := by decide +kernel
theorem D_Upper_takeWords_76 : decode cX10_takeWords 76 = .ok (.iconst (1), 1) := by decide +kernel
theorem D_Upper_takeWords_77 : decode cX10_takeWords 77 = .ok (.iload 4, 2) := by decide +kernel
theorem D_Upper_takeWords_79 : decode cX10_takeWords 79 = .ok (.isub, 1) := by decide +kernel
theorem D_Upper_takeWords_80 : decode cX10_takeWords 80 = .ok (.aaload, 1) := by decide +kernel
theorem D_Upper_takeWords_81 : decode cX10_takeWords 81 = .ok (.aload_n 3, 1) := by decide +kernel
theorem D_Upper_takeWords_82 : decode cX10_takeWords 82 = .ok (.iload 4, 2) := by decide +kernel
theorem D_Upper_takeWords_84 : decode cX10_takeWords 84 = .ok (.aaload, 1) := by decide +kernel
theorem D_Upper_takeWords_85 : decode cX10_takeWords 85 = .ok (.aload 9, 2) := by decide +kernel
theorem D_Upper_takeWords_87 : decode cX10_takeWords 87 = .ok (.invokevirtual 71, 3) := by decide +kernel
theorem D_Upper_takeWords_90 : decode cX10_takeWords 90 = .ok (.iconst (1), 1) := by decide +kernel
theorem D_Upper_takeWords_91 : decode cX10_takeWords 91 = .ok (.iload 4, 2) := by decide +kernel
theorem D_Upper_takeWords_93 : decode cX10_takeWords 93 = .ok (.isub, 1) := by decide +kernel
theorem D_Upper_takeWords_94 : decode cX10_takeWords 94 = .ok (.istore 4, 2) := by decide +kernel
theorem D_Upper_takeWords_96 : decode cX10_takeWords 96 = .ok (.iinc 7 (1), 3) := by decide +kernel
theorem D_Upper_takeWords_99 : decode cX10_takeWords 99 = .ok (.goto (-77), 3) := by decide +kernel
theorem D_Upper_takeWords_102 : decode cX10_takeWords 102 = .ok (.iconst (0), 1) := by decide +kernel
theorem D_Upper_takeWords_103 : decode cX10_takeWords 103 = .ok (.istore 5, 2) := by decide +kernel
theorem D_Upper_takeWords_105 : decode cX10_takeWords 105 = .ok (.iconst (0), 1) := by decide +kernel
theorem D_Upper_takeWords_106 : decode cX10_takeWords 106 = .ok (.istore 6, 2) := by decide +kernel
theorem D_Upper_takeWords_108 : decode cX10_takeWords 108 = .ok (.iload 6, 2) := by decide +kernel
theorem D_Upper_takeWords_110 : decode cX10_takeWords 110 = .ok (.aload_n 3, 1) := by decide +kernel
theorem D_Upper_takeWords_111 : decode cX10_takeWords 111 = .ok (.iload 4, 2) := by decide +kernel
theorem D_Upper_takeWords_113 : decode cX10_takeWords 113 = .ok (.aaload, 1) := by decide +kernel
theorem D_Upper_takeWords_114 : decode cX10_takeWords 114 = .ok (.getfield 56, 3) := by decide +kernel
theorem D_Upper_takeWords_117 : decode cX10_takeWords 117 = .ok (.if_icmp .ge (28), 3) := by decide +kernel
theorem D_Upper_takeWords_120 : decode cX10_takeWords 120 = .ok (.iload 5, 2) := by decide +kernel
theorem D_Upper_takeWords_122 : decode cX10_takeWords 122 = .ok (.aload_n 1, 1) := by decide +kernel
theorem D_Upper_takeWords_123 : decode cX10_takeWords 123 = .ok (.aload_n 3, 1) := by decide +kernel
theorem D_Upper_takeWords_124 : decode cX10_takeWords 124 = .ok (.iload 4, 2) := by decide +kernel
theorem D_Upper_takeWords_126 : decode cX10_takeWords 126 = .ok (.aaload, 1) := by decide +kernel
theorem D_Upper_takeWords_127 : decode cX10_takeWords 127 = .ok (.getfield 57, 3) := by decide +kernel
theorem D_Upper_takeWords_130 : decode cX10_takeWords 130 = .ok (.iload 6, 2) := by decide +kernel
theorem D_Upper_takeWords_132 : decode cX10_takeWords 132 = .ok (.iaload, 1) := by decide +kernel
theorem D_Upper_takeWords_133 : decode cX10_takeWords 133 = .ok (.invokevirtual 75, 3) := by decide +kernel
theorem D_Upper_takeWords_136 : decode cX10_takeWords 136 = .ok (.ior, 1) := by decide +kernel
theorem D_Upper_takeWords_137 : decode cX10_takeWords 137 = .ok (.istore 5, 2) := by decide +kernel
theorem D_Upper_takeWords_139 : decode cX10_takeWords 139 = .ok (.iinc 6 (1), 3) := by decide +kernel
theorem D_Upper_takeWords_142 : decode cX10_takeWords 142 = .ok (.goto (-34), 3) := by decide +kernel
theorem D_Upper_takeWords_145 : decode cX10_takeWords 145 = .ok (.iload 5, 2) := by decide +kernel
theorem D_Upper_takeWords_147 : decode cX10_takeWords 147 = .ok (.ireturn, 1) := by decide +kernel
def K_Upper_takeWords : SC := (cX10_takeWords, "TwoLevels$Upper", 10, 3, false, [2, 36], NoQ)
def d_Upper_takeWords : MD Int32 := mth zz 10 (sq (sI1 4 (eC (nI 0)))
 (sq (sE (kV 2 d_Firsts_setOnly (eh2 (aR (.object "TwoLevels$Firsts")) (lR 3) (lI 4)) [vI (eC (nI 0))]))
 (sq (sq (sR1 5 (lR 2))
 (sq (sI1 6 (eh1 aL (lR 5)))
 (sq (sI1 7 (eC (nI 0)))
 (loop (eh2 c_lt (lI 7) (lI 6))
 (sq (sI1 8 (eh2 (aI .int) (lR 5) (lI 7)))
 (sq (sR1 9 (eIf (eh2 c_lt (lI 8) (eC (nI 32))) (eh2 (aR (.object "TwoLevels$Firsts")) (lR 3) (eC (nI 2))) (eh2 (aR (.object "TwoLevels$Firsts")) (eh1 (gR 11 4) (lR 0)) (eh2 isubF (lI 8) (eC (nI 32))))))
 (sq (sIf (eh2 c_lt (lI 8) (eC (nI 32))) (sE (kV 2 d_Firsts_setOnly (lR 9) [vI (lI 8)])) sk)
 (sq (sE (kV 2 d_Firsts_setJoined (eh2 (aR (.object "TwoLevels$Firsts")) (lR 3) (eh2 isubF (eC (nI 1)) (lI 4))) [vR (eh2 (aR (.object "TwoLevels$Firsts")) (lR 3) (lI 4)), vR (lR 9)]))
 (sI1 4 (eh2 isubF (eC (nI 1)) (lI 4)))))))
 (sInc 7 (nI 1))))))
 (sq (sI1 5 (eC (nI 0)))
 (sq (sq (sI1 6 (eC (nI 0)))
 (loop (eh2 c_lt (lI 6) (eh1 (gI 2 1) (eh2 (aR (.object "TwoLevels$Firsts")) (lR 3) (lI 4))))
 (sI1 5 (eh2 iorF (lI 5) (kV 2 d_Firsts_put (lR 1) [vI (eh2 (aI .int) (eh1 (gR 2 0) (eh2 (aR (.object "TwoLevels$Firsts")) (lR 3) (lI 4))) (lI 6))])))
 (sInc 6 (nI 1))))
 (rtn (lI 5)))))))
theorem m_Upper_takeWords : MJ 3 [2, 36] yX10_takeWords (some .boolean) eI (d_Upper_takeWords) := MJ_of (K := K_Upper_takeWords) (ri := .ireturn) (n1 := 0) (n2 := 0) (n3 := 0)
 (SJ_sq (p0 := 0) (p1 := 3) (nN := 0) (nB := 0) (nC := 0) (SJ_istore (i := 4) (p0 := 0) (p1 := 1) (EJ_iconst (n := 0) (v := (nI 0)) (pc := 0) D_Upper_takeWords_0 (by decide +kernel)) D_Upper_takeWords_1)
 (SJ_sq (p0 := 3) (p1 := 11) (nN := 0) (nB := 0) (nC := 0) (SJ_void (p0 := 3) (p1 := 11) (EJ_callV (t := 2) (c := 1) (r := (RX1, TX1, 2)) (p0 := 3) (p1 := 7) (p2 := 8) (EJ_aald (p0 := 3) (p1 := 4) (p2 := 6) (EJ_aload_n (j := 3) (i := 3) (pc := 3) D_Upper_takeWords_3 rfl) (EJ_iload (i := 4) (pc := 4) D_Upper_takeWords_4) D_Upper_takeWords_6 (Or.inl ⟨_, rfl⟩)) (AJ_I (p0 := 7) (p1 := 8) (p2 := 8) (EJ_iconst (n := 0) (v := (nI 0)) (pc := 7) D_Upper_takeWords_7 (by decide +kernel)) AJ_nil) m_Firsts_setOnly E1_U D_Upper_takeWords_8 rfl rfl rfl q_495 q_496 q_497 q_105 ⟨by decide +kernel, by decide +kernel, by decide +kernel⟩ (by decide) (show 1 + 1 ≤ 3 from by decide) (show ∀ x_ ∈ ([2, 36] : List Nat), x_ ∈ ([2, 36] : List Nat) from by decide)))
 (SJ_sq (p0 := 11) (p1 := 102) (nN := 0) (nB := 0) (nC := 0) (SJ_sq (p0 := 11) (p1 := 14) (nN := 102) (nB := 0) (nC := 0) (SJ_astore (i := 5) (p0 := 11) (p1 := 12) (EJ_aload_n (j := 2) (i := 2) (pc := 11) D_Upper_takeWords_11 rfl) D_Upper_takeWords_12)
 (SJ_sq (p0 := 14) (p1 := 19) (nN := 102) (nB := 0) (nC := 0) (SJ_istore (i := 6) (p0 := 14) (p1 := 17) (EJ_alen (p0 := 14) (p1 := 16) (EJ_aload (i := 5) (pc := 14) D_Upper_takeWords_14) D_Upper_takeWords_16) D_Upper_takeWords_17)
 (SJ_sq (p0 := 19) (p1 := 22) (nN := 102) (nB := 0) (nC := 0) (SJ_istore (i := 7) (p0 := 19) (p1 := 20) (EJ_iconst (n := 0) (v := (nI 0)) (pc := 19) D_Upper_takeWords_19 (by decide +kernel)) D_Upper_takeWords_20)
 (SJ_loop (p0 := 22) (pB := 29) (pS := 96) (pE := 102) (CJ_lt' (off := 76) (tgt := 102) (p0 := 22) (p1 := 24) (p2 := 26) (EJ_iload (i := 7) (pc := 22) D_Upper_takeWords_22) (EJ_iload (i := 6) (pc := 24) D_Upper_takeWords_24) D_Upper_takeWords_26 rfl)
 (SJ_sq (p0 := 29) (p1 := 36) (nN := 96) (nB := 102) (nC := 96) (SJ_istore (i := 8) (p0 := 29) (p1 := 34) (EJ_iald (p0 := 29) (p1 := 31) (p2 := 33) (EJ_aload (i := 5) (pc := 29) D_Upper_takeWords_29) (EJ_iload (i := 7) (pc := 31) D_Upper_takeWords_31) D_Upper_takeWords_33) D_Upper_takeWords_34)
 (SJ_sq (p0 := 36) (p1 := 61) (nN := 96) (nB := 102) (nC := 96) (SJ_astore (i := 9) (p0 := 36) (p1 := 59) (EJ_if (p0 := 36) (pT := 43) (pF := 49) (pE := 46) (p1 := 59) (CJ_lt' (off := 9) (tgt := 49) (p0 := 36) (p1 := 38) (p2 := 40) (EJ_iload (i := 8) (pc := 36) D_Upper_takeWords_36) (EJ_bipush (n := 32) (v := (nI 32)) (pc := 38) D_Upper_takeWords_38 (by decide +kernel)) D_Upper_takeWords_40 rfl) (EJ_aald (p0 := 43) (p1 := 44) (p2 := 45) (EJ_aload_n (j := 3) (i := 3) (pc := 43) D_Upper_takeWords_43 rfl) (EJ_iconst (n := 2) (v := (nI 2)) (pc := 44) D_Upper_takeWords_44 (by decide +kernel)) D_Upper_takeWords_45 (Or.inl ⟨_, rfl⟩)) (Lead.goto (K := K_Upper_takeWords) (pc := 46) (tgt := 59) D_Upper_takeWords_46 rfl) (EJ_aald (p0 := 49) (p1 := 53) (p2 := 58) (EJ_getR (t := 11) (c := 10) (kf := 4) (r := (RX10, TX10, 7)) (p0 := 49) (p1 := 50) (EJ_aload_n (j := 0) (i := 0) (pc := 49) D_Upper_takeWords_49 rfl) D_Upper_takeWords_50 ⟨rfl, rfl, by decide, q_133⟩ (fun _ _ => rfl)) (EJ_isub (p0 := 53) (p1 := 55) (p2 := 57) (EJ_iload (i := 8) (pc := 53) D_Upper_takeWords_53) (EJ_bipush (n := 32) (v := (nI 32)) (pc := 55) D_Upper_takeWords_55 (by decide +kernel)) D_Upper_takeWords_57) D_Upper_takeWords_58 (Or.inl ⟨_, rfl⟩))) D_Upper_takeWords_59)
 (SJ_sq (p0 := 61) (p1 := 75) (nN := 96) (nB := 102) (nC := 96) (SJ_if (p0 := 61) (pT := 68) (pF := 75) (nN := 75) (nB := 102) (nC := 96) (CJ_lt' (off := 10) (tgt := 75) (p0 := 61) (p1 := 63) (p2 := 65) (EJ_iload (i := 8) (pc := 61) D_Upper_takeWords_61) (EJ_bipush (n := 32) (v := (nI 32)) (pc := 63) D_Upper_takeWords_63 (by decide +kernel)) D_Upper_takeWords_65 rfl) (SJ_void (p0 := 68) (p1 := 75) (EJ_callV (t := 2) (c := 1) (r := (RX1, TX1, 2)) (p0 := 68) (p1 := 70) (p2 := 72) (EJ_aload (i := 9) (pc := 68) D_Upper_takeWords_68) (AJ_I (p0 := 70) (p1 := 72) (p2 := 72) (EJ_iload (i := 8) (pc := 70) D_Upper_takeWords_70) AJ_nil) m_Firsts_setOnly E1_U D_Upper_takeWords_72 rfl rfl rfl q_495 q_496 q_497 q_105 ⟨by decide +kernel, by decide +kernel, by decide +kernel⟩ (by decide) (show 1 + 1 ≤ 3 from by decide) (show ∀ x_ ∈ ([2, 36] : List Nat), x_ ∈ ([2, 36] : List Nat) from by decide))) SJ_sk)
 (SJ_sq (p0 := 75) (p1 := 90) (nN := 96) (nB := 102) (nC := 96) (SJ_void (p0 := 75) (p1 := 90) (EJ_callV (t := 2) (c := 1) (r := (RX1, TX1, 2)) (p0 := 75) (p1 := 81) (p2 := 87) (EJ_aald (p0 := 75) (p1 := 76) (p2 := 80) (EJ_aload_n (j := 3) (i := 3) (pc := 75) D_Upper_takeWords_75 rfl) (EJ_isub (p0 := 76) (p1 := 77) (p2 := 79) (EJ_iconst (n := 1) (v := (nI 1)) (pc := 76) D_Upper_takeWords_76 (by decide +kernel)) (EJ_iload (i := 4) (pc := 77) D_Upper_takeWords_77) D_Upper_takeWords_79) D_Upper_takeWords_80 (Or.inl ⟨_, rfl⟩)) (AJ_R (p0 := 81) (p1 := 85) (p2 := 87) (EJ_aald (p0 := 81) (p1 := 82) (p2 := 84) (EJ_aload_n (j := 3) (i := 3) (pc := 81) D_Upper_takeWords_81 rfl) (EJ_iload (i := 4) (pc := 82) D_Upper_takeWords_82) D_Upper_takeWords_84 (Or.inl ⟨_, rfl⟩)) (AJ_R (p0 := 85) (p1 := 87) (p2 := 87) (EJ_aload (i := 9) (pc := 85) D_Upper_takeWords_85) AJ_nil)) m_Firsts_setJoined E1_U D_Upper_takeWords_87 rfl rfl rfl q_499 q_500 q_501 q_105 ⟨by decide +kernel, by decide +kernel, by decide +kernel⟩ (by decide) (show 2 + 1 ≤ 3 from by decide) (show ∀ x_ ∈ ([2, 36] : List Nat), x_ ∈ ([2, 36] : List Nat) from by decide)))
 (SJ_istore (i := 4) (p0 := 90) (p1 := 94) (EJ_isub (p0 := 90) (p1 := 91) (p2 := 93) (EJ_iconst (n := 1) (v := (nI 1)) (pc := 90) D_Upper_takeWords_90 (by decide +kernel)) (EJ_iload (i := 4) (pc := 91) D_Upper_takeWords_91) D_Upper_takeWords_93) D_Upper_takeWords_94)))))
 (SJ_post (SJ_iinc (i := 7) (n := 1) (v := (nI 1)) (pc := 96) D_Upper_takeWords_96 (by decide +kernel)) (Lead.goto (K := K_Upper_takeWords) (pc := 99) (tgt := 22) D_Upper_takeWords_99 rfl))))))
 (SJ_sq (p0 := 102) (p1 := 105) (nN := 0) (nB := 0) (nC := 0) (SJ_istore (i := 5) (p0 := 102) (p1 := 103) (EJ_iconst (n := 0) (v := (nI 0)) (pc := 102) D_Upper_takeWords_102 (by decide +kernel)) D_Upper_takeWords_103)
 (SJ_sq (p0 := 105) (p1 := 145) (nN := 0) (nB := 0) (nC := 0) (SJ_sq (p0 := 105) (p1 := 108) (nN := 145) (nB := 0) (nC := 0) (SJ_istore (i := 6) (p0 := 105) (p1 := 106) (EJ_iconst (n := 0) (v := (nI 0)) (pc := 105) D_Upper_takeWords_105 (by decide +kernel)) D_Upper_takeWords_106)
 (SJ_loop (p0 := 108) (pB := 120) (pS := 139) (pE := 145) (CJ_lt' (off := 28) (tgt := 145) (p0 := 108) (p1 := 110) (p2 := 117) (EJ_iload (i := 6) (pc := 108) D_Upper_takeWords_108) (EJ_getI (t := 2) (c := 1) (kf := 1) (r := (RX1, TX1, 2)) (p0 := 110) (p1 := 114) (EJ_aald (p0 := 110) (p1 := 111) (p2 := 113) (EJ_aload_n (j := 3) (i := 3) (pc := 110) D_Upper_takeWords_110 rfl) (EJ_iload (i := 4) (pc := 111) D_Upper_takeWords_111) D_Upper_takeWords_113 (Or.inl ⟨_, rfl⟩)) D_Upper_takeWords_114 ⟨rfl, rfl, by decide, q_484⟩ (fun _ _ => rfl)) D_Upper_takeWords_117 rfl)
 (SJ_istore (i := 5) (p0 := 120) (p1 := 137) (EJ_ior (p0 := 120) (p1 := 122) (p2 := 136) (EJ_iload (i := 5) (pc := 120) D_Upper_takeWords_120) (EJ_callV (t := 2) (c := 1) (r := (RX1, TX1, 2)) (p0 := 122) (p1 := 123) (p2 := 133) (EJ_aload_n (j := 1) (i := 1) (pc := 122) D_Upper_takeWords_122 rfl) (AJ_I (p0 := 123) (p1 := 133) (p2 := 133) (EJ_iald (p0 := 123) (p1 := 130) (p2 := 132) (EJ_getR (t := 2) (c := 1) (kf := 0) (r := (RX1, TX1, 2)) (p0 := 123) (p1 := 127) (EJ_aald (p0 := 123) (p1 := 124) (p2 := 126) (EJ_aload_n (j := 3) (i := 3) (pc := 123) D_Upper_takeWords_123 rfl) (EJ_iload (i := 4) (pc := 124) D_Upper_takeWords_124) D_Upper_takeWords_126 (Or.inl ⟨_, rfl⟩)) D_Upper_takeWords_127 ⟨rfl, rfl, by decide, q_482⟩ (fun _ _ => rfl)) (EJ_iload (i := 6) (pc := 130) D_Upper_takeWords_130) D_Upper_takeWords_132) AJ_nil) m_Firsts_put E1_I D_Upper_takeWords_133 rfl rfl rfl q_510 q_507 q_508 q_105 ⟨by decide +kernel, by decide +kernel, by decide +kernel⟩ (by decide) (show 1 + 1 ≤ 3 from by decide) (show ∀ x_ ∈ ([2, 36] : List Nat), x_ ∈ ([2, 36] : List Nat) from by decide)) D_Upper_takeWords_136) D_Upper_takeWords_137)
 (SJ_post (SJ_iinc (i := 6) (n := 1) (v := (nI 1)) (pc := 139) D_Upper_takeWords_139 (by decide +kernel)) (Lead.goto (K := K_Upper_takeWords) (pc := 142) (tgt := 108) D_Upper_takeWords_142 rfl))))
 (SJ_ret (p0 := 145) (p1 := 147) (EJ_iload (i := 5) (pc := 145) D_Upper_takeWords_145) D_Upper_takeWords_147))))))
 RTm_bool q_494 (by decide +kernel) rfl (fun h => by cases h) (show 10 ≤ 40 from by decide) (fun _ => trivial)
theorem D_Upper_findWords_0 : decode cX10_findWords 0 = .ok (.aload_n 0, 1) := by decide +kernel
theorem D_Upper_findWords_1 : decode cX10_findWords 1 = .ok (.aload_n 0, 1) := by decide +kernel
theorem D_Upper_findWords_2 : decode cX10_findWords 2 = .ok (.getfield 32, 3) := by decide +kernel
theorem D_Upper_findWords_5 : decode cX10_findWords 5 = .ok (.anewarray 26, 3) := by decide +kernel
theorem D_Upper_findWords_8 : decode cX10_findWords 8 = .ok (.putfield 28, 3) := by decide +kernel
theorem D_Upper_findWords_11 : decode cX10_findWords 11 = .ok (.iconst (0), 1) := by decide +kernel
theorem D_Upper_findWords_12 : decode cX10_findWords 12 = .ok (.istore_n 1, 1) := by decide +kernel
theorem D_Upper_findWords_13 : decode cX10_findWords 13 = .ok (.iload_n 1, 1) := by decide +kernel
theorem D_Upper_findWords_14 : decode cX10_findWords 14 = .ok (.aload_n 0, 1) := by decide +kernel
theorem D_Upper_findWords_15 : decode cX10_findWords 15 = .ok (.getfield 32, 3) := by decide +kernel
theorem D_Upper_findWords_18 : decode cX10_findWords 18 = .ok (.if_icmp .ge (22), 3) := by decide +kernel
theorem D_Upper_findWords_21 : decode cX10_findWords 21 = .ok (.aload_n 0, 1) := by decide +kernel
theorem D_Upper_findWords_22 : decode cX10_findWords 22 = .ok (.getfield 28, 3) := by decide +kernel
theorem D_Upper_findWords_25 : decode cX10_findWords 25 = .ok (.iload_n 1, 1) := by decide +kernel
theorem D_Upper_findWords_26 : decode cX10_findWords 26 = .ok (.new 26, 3) := by decide +kernel
theorem D_Upper_findWords_29 : decode cX10_findWords 29 = .ok (.dup, 1) := by decide +kernel
theorem D_Upper_findWords_30 : decode cX10_findWords 30 = .ok (.invokespecial 61, 3) := by decide +kernel
theorem D_Upper_findWords_33 : decode cX10_findWords 33 = .ok (.aastore, 1) := by decide +kernel
theorem D_Upper_findWords_34 : decode cX10_findWords 34 = .ok (.iinc 1 (1), 3) := by decide +kernel
theorem D_Upper_findWords_37 : decode cX10_findWords 37 = .ok (.goto (-24), 3) := by decide +kernel
theorem D_Upper_findWords_40 : decode cX10_findWords 40 = .ok (.iconst (3), 1) := by decide +kernel
theorem D_Upper_findWords_41 : decode cX10_findWords 41 = .ok (.anewarray 26, 3) := by decide +kernel
theorem D_Upper_findWords_44 : decode cX10_findWords 44 = .ok (.dup, 1) := by decide +kernel
theorem D_Upper_findWords_45 : decode cX10_findWords 45 = .ok (.iconst (0), 1) := by decide +kernel
theorem D_Upper_findWords_46 : decode cX10_findWords 46 = .ok (.new 26, 3) := by decide +kernel
theorem D_Upper_findWords_49 : decode cX10_findWords 49 = .ok (.dup, 1) := by decide +kernel
theorem D_Upper_findWords_50 : decode cX10_findWords 50 = .ok (.invokespecial 61, 3) := by decide +kernel
theorem D_Upper_findWords_53 : decode cX10_findWords 53 = .ok (.aastore, 1) := by decide +kernel
theorem D_Upper_findWords_54 : decode cX10_findWords 54 = .ok (.dup, 1) := by decide +kernel
theorem D_Upper_findWords_55 : decode cX10_findWords 55 = .ok (.iconst (1), 1) := by decide +kernel
theorem D_Upper_findWords_56 : decode cX10_findWords 56 = .ok (.new 26, 3) := by decide +kernel
theorem D_Upper_findWords_59 : decode cX10_findWords 59 = .ok (.dup, 1) := by decide +kernel
theorem D_Upper_findWords_60 : decode cX10_findWords 60 = .ok (.invokespecial 61, 3) := by decide +kernel
theorem D_Upper_findWords_63 : decode cX10_findWords 63 = .ok (.aastore, 1) := by decide +kernel
theorem D_Upper_findWords_64 : decode cX10_findWords 64 = .ok (.dup, 1) := by decide +kernel
theorem D_Upper_findWords_65 : decode cX10_findWords 65 = .ok (.iconst (2), 1) := by decide +kernel
theorem D_Upper_findWords_66 : decode cX10_findWords 66 = .ok (.new 26, 3) := by decide +kernel
theorem D_Upper_findWords_69 : decode cX10_findWords 69 = .ok (.dup, 1) := by decide +kernel
theorem D_Upper_findWords_70 : decode cX10_findWords 70 = .ok (.invokespecial 61, 3) := by decide +kernel
theorem D_Upper_findWords_73 : decode cX10_findWords 73 = .ok (.aastore, 1) := by decide +kernel
theorem D_Upper_findWords_74 : decode cX10_findWords 74 = .ok (.astore_n 1, 1) := by decide +kernel
theorem D_Upper_findWords_75 : decode cX10_findWords 75 = .ok (.aload_n 0, 1) := by decide +kernel
theorem D_Upper_findWords_76 : decode cX10_findWords 76 = .ok (.getfield 32, 3) := by decide +kernel
theorem D_Upper_findWords_79 : decode cX10_findWords 79 = .ok (.ifCond .le (7), 3) := by decide +kernel
theorem D_Upper_findWords_82 : decode cX10_findWords 82 = .ok (.iconst (1), 1) := by decide +kernel
theorem D_Upper_findWords_83 : decode cX10_findWords 83 = .ok (.goto (4), 3) := by decide +kernel
theorem D_Upper_findWords_86 : decode cX10_findWords 86 = .ok (.iconst (0), 1) := by decide +kernel
theorem D_Upper_findWords_87 : decode cX10_findWords 87 = .ok (.istore_n 2, 1) := by decide +kernel
theorem D_Upper_findWords_88 : decode cX10_findWords 88 = .ok (.iconst (0), 1) := by decide +kernel
theorem D_Upper_findWords_89 : decode cX10_findWords 89 = .ok (.istore_n 3, 1) := by decide +kernel
theorem D_Upper_findWords_90 : decode cX10_findWords 90 = .ok (.iload_n 2, 1) := by decide +kernel
theorem D_Upper_findWords_91 : decode cX10_findWords 91 = .ok (.ifCond .eq (79), 3) := by decide +kernel
theorem D_Upper_findWords_94 : decode cX10_findWords 94 = .ok (.iload_n 3, 1) := by decide +kernel
theorem D_Upper_findWords_95 : decode cX10_findWords 95 = .ok (.ldc 62, 2) := by decide +kernel
theorem D_Upper_findWords_97 : decode cX10_findWords 97 = .ok (.if_icmp .ge (73), 3) := by decide +kernel
theorem D_Upper_findWords_100 : decode cX10_findWords 100 = .ok (.iconst (0), 1) := by decide +kernel
theorem D_Upper_findWords_101 : decode cX10_findWords 101 = .ok (.istore_n 2, 1) := by decide +kernel
theorem D_Upper_findWords_102 : decode cX10_findWords 102 = .ok (.iconst (0), 1) := by decide +kernel
theorem D_Upper_findWords_103 : decode cX10_findWords 103 = .ok (.istore 4, 2) := by decide +kernel
theorem D_Upper_findWords_105 : decode cX10_findWords 105 = .ok (.iload 4, 2) := by decide +kernel
theorem D_Upper_findWords_107 : decode cX10_findWords 107 = .ok (.aload_n 0, 1) := by decide +kernel
theorem D_Upper_findWords_108 : decode cX10_findWords 108 = .ok (.getfield 32, 3) := by decide +kernel
theorem D_Upper_findWords_111 : decode cX10_findWords 111 = .ok (.if_icmp .ge (53), 3) := by decide +kernel
theorem D_Upper_findWords_114 : decode cX10_findWords 114 = .ok (.iconst (0), 1) := by decide +kernel
theorem D_Upper_findWords_115 : decode cX10_findWords 115 = .ok (.istore 5, 2) := by decide +kernel
theorem D_Upper_findWords_117 : decode cX10_findWords 117 = .ok (.iload 5, 2) := by decide +kernel
theorem D_Upper_findWords_119 : decode cX10_findWords 119 = .ok (.aload_n 0, 1) := by decide +kernel
theorem D_Upper_findWords_120 : decode cX10_findWords 120 = .ok (.getfield 23, 3) := by decide +kernel
theorem D_Upper_findWords_123 : decode cX10_findWords 123 = .ok (.iload 4, 2) := by decide +kernel
theorem D_Upper_findWords_125 : decode cX10_findWords 125 = .ok (.iaload, 1) := by decide +kernel
theorem D_Upper_findWords_126 : decode cX10_findWords 126 = .ok (.if_icmp .ge (32), 3) := by decide +kernel
theorem D_Upper_findWords_129 : decode cX10_findWords 129 = .ok (.iload_n 2, 1) := by decide +kernel
theorem D_Upper_findWords_130 : decode cX10_findWords 130 = .ok (.aload_n 0, 1) := by decide +kernel
theorem D_Upper_findWords_131 : decode cX10_findWords 131 = .ok (.aload_n 0, 1) := by decide +kernel
theorem D_Upper_findWords_132 : decode cX10_findWords 132 = .ok (.getfield 28, 3) := by decide +kernel
theorem D_Upper_findWords_135 : decode cX10_findWords 135 = .ok (.iload 4, 2) := by decide +kernel
theorem D_Upper_findWords_137 : decode cX10_findWords 137 = .ok (.aaload, 1) := by decide +kernel
theorem D_Upper_findWords_138 : decode cX10_findWords 138 = .ok (.aload_n 0, 1) := by decide +kernel
theorem D_Upper_findWords_139 : decode cX10_findWords 139 = .ok (.iload 4, 2) := by decide +kernel
theorem D_Upper_findWords_141 : decode cX10_findWords 141 = .ok (.iload 5, 2) := by decide +kernel
theorem D_Upper_findWords_143 : decode cX10_findWords 143 = .ok (.invokevirtual 48, 3) := by decide +kernel
theorem D_Upper_findWords_146 : decode cX10_findWords 146 = .ok (.aload_n 1, 1) := by decide +kernel
theorem D_Upper_findWords_147 : decode cX10_findWords 147 = .ok (.invokevirtual 63, 3) := by decide +kernel
theorem D_Upper_findWords_150 : decode cX10_findWords 150 = .ok (.ior, 1) := by decide +kernel
theorem D_Upper_findWords_151 : decode cX10_findWords 151 = .ok (.istore_n 2, 1) := by decide +kernel
theorem D_Upper_findWords_152 : decode cX10_findWords 152 = .ok (.iinc 5 (1), 3) := by decide +kernel
theorem D_Upper_findWords_155 : decode cX10_findWords 155 = .ok (.goto (-38), 3) := by decide +kernel
theorem D_Upper_findWords_158 : decode cX10_findWords 158 = .ok (.iinc 4 (1), 3) := by decide +kernel
theorem D_Upper_findWords_161 : decode cX10_findWords 161 = .ok (.goto (-56), 3) := by decide +kernel
theorem D_Upper_findWords_164 : decode cX10_findWords 164 = .ok (.iinc 3 (1), 3) := by decide +kernel
theorem D_Upper_findWords_167 : decode cX10_findWords 167 = .ok (.goto (-77), 3) := by decide +kernel
theorem D_Upper_findWords_170 : decode cX10_findWords 170 = .ok (.return_, 1) := by decide +kernel
def K_Upper_findWords : SC := (cX10_findWords, "TwoLevels$Upper", 6, 4, false, [2, 11, 33, 35, 36], NoQ)
def d_Upper_findWords : MD Unit := mth tt 6 (sq (sh2 (pR 11 4) (lR 0) (nA 33 (eh1 (gI 11 6) (lR 0))))
 (sq (sq (sI1 1 (eC (nI 0)))
 (loop (eh2 c_lt (lI 1) (eh1 (gI 11 6) (lR 0)))
 (sh3 (stO [33] "TwoLevels$Firsts" 2) (eh1 (gR 11 4) (lR 0)) (lI 1) (kN 2 2 d_Firsts_init []))
 (sInc 1 (nI 1))))
 (sq (sR1 1 (eSt [35] "TwoLevels$Firsts" 2 (eSt [35] "TwoLevels$Firsts" 2 (eSt [35] "TwoLevels$Firsts" 2 (nA 35 (eC (nI 3))) (nI 0) (kN 2 2 d_Firsts_init [])) (nI 1) (kN 2 2 d_Firsts_init [])) (nI 2) (kN 2 2 d_Firsts_init [])))
 (sq (sI1 2 (eIf (eh1 z_gt (eh1 (gI 11 6) (lR 0))) (eC (nI 1)) (eC (nI 0))))
 (sq (sq (sI1 3 (eC (nI 0)))
 (loop (cAnd (eh1 z_ne (lI 2)) (eh2 c_lt (lI 3) (eC (nI 1000000))))
 (sq (sI1 2 (eC (nI 0)))
 (sq (sI1 4 (eC (nI 0)))
 (loop (eh2 c_lt (lI 4) (eh1 (gI 11 6) (lR 0)))
 (sq (sI1 5 (eC (nI 0)))
 (loop (eh2 c_lt (lI 5) (eh2 (aI .int) (eh1 (gR 11 3) (lR 0)) (lI 4)))
 (sI1 2 (eh2 iorF (lI 2) (kV 11 d_Upper_takeWords (lR 0) [vR (eh2 (aR (.object "TwoLevels$Firsts")) (eh1 (gR 11 4) (lR 0)) (lI 4)), vR (kV 11 d_Upper_rowOf (lR 0) [vI (lI 4), vI (lI 5)]), vR (lR 1)])))
 (sInc 5 (nI 1))))
 (sInc 4 (nI 1)))))
 (sInc 3 (nI 1))))
 rtnU)))))
theorem m_Upper_findWords : MJ 4 [2, 11, 33, 35, 36] yX10_findWords none eU (d_Upper_findWords) := MJ_of (K := K_Upper_findWords) (ri := .return_) (n1 := 0) (n2 := 0) (n3 := 0)
 (SJ_sq (p0 := 0) (p1 := 11) (nN := 0) (nB := 0) (nC := 0) (SJ_putR (t := 11) (c := 10) (kf := 4) (r := (RX10, TX10, 7)) (p0 := 0) (p1 := 1) (p2 := 8) (EJ_aload_n (j := 0) (i := 0) (pc := 0) D_Upper_findWords_0 rfl) (EJ_anew (C := "TwoLevels$Firsts") (t := 33) (p0 := 1) (p1 := 5) (EJ_getI (t := 11) (c := 10) (kf := 6) (r := (RX10, TX10, 7)) (p0 := 1) (p1 := 2) (EJ_aload_n (j := 0) (i := 0) (pc := 1) D_Upper_findWords_1 rfl) D_Upper_findWords_2 ⟨rfl, rfl, by decide, q_135⟩ (fun _ _ => rfl)) D_Upper_findWords_5 q_128 (by decide) rfl) D_Upper_findWords_8 ⟨rfl, rfl, by decide, q_133⟩ (Or.inl rfl) (Or.inr ⟨_, rfl⟩) (fun _ _ => rfl) (show (11 : Nat) ∈ ([2, 11, 33, 35, 36] : List Nat) from by decide))
 (SJ_sq (p0 := 11) (p1 := 40) (nN := 0) (nB := 0) (nC := 0) (SJ_sq (p0 := 11) (p1 := 13) (nN := 40) (nB := 0) (nC := 0) (SJ_istore_n (i := 1) (j := 1) (p0 := 11) (p1 := 12) (EJ_iconst (n := 0) (v := (nI 0)) (pc := 11) D_Upper_findWords_11 (by decide +kernel)) D_Upper_findWords_12 rfl)
 (SJ_loop (p0 := 13) (pB := 21) (pS := 34) (pE := 40) (CJ_lt' (off := 22) (tgt := 40) (p0 := 13) (p1 := 14) (p2 := 18) (EJ_iload_n (j := 1) (i := 1) (pc := 13) D_Upper_findWords_13 rfl) (EJ_getI (t := 11) (c := 10) (kf := 6) (r := (RX10, TX10, 7)) (p0 := 14) (p1 := 15) (EJ_aload_n (j := 0) (i := 0) (pc := 14) D_Upper_findWords_14 rfl) D_Upper_findWords_15 ⟨rfl, rfl, by decide, q_135⟩ (fun _ _ => rfl)) D_Upper_findWords_18 rfl)
 (SJ_oast (tv := 2) (cv := 1) (r := (RX1, TX1, 2)) (ws := [33]) (p0 := 21) (p1 := 25) (p2 := 26) (p3 := 33) (EJ_getR (t := 11) (c := 10) (kf := 4) (r := (RX10, TX10, 7)) (p0 := 21) (p1 := 22) (EJ_aload_n (j := 0) (i := 0) (pc := 21) D_Upper_findWords_21 rfl) D_Upper_findWords_22 ⟨rfl, rfl, by decide, q_133⟩ (fun _ _ => rfl)) (EJ_iload_n (j := 1) (i := 1) (pc := 25) D_Upper_findWords_25 rfl) (EJ_new (t := 2) (c := 1) (r := (RX1, TX1, 2)) (p0 := 26) (p1 := 30) D_Upper_findWords_26 D_Upper_findWords_29 AJ_nil m_Firsts_init D_Upper_findWords_30 rfl rfl q_128 q_477 q_105 rfl rfl (Or.inr ⟨("TwoLevels$Upper", 61, yX1_init, "TwoLevels"), by simp [NWs], rfl, rfl, rfl⟩) q_478 ⟨by decide +kernel, by decide +kernel, by decide +kernel⟩ (by decide) (show 1 + 1 ≤ 4 from by decide) (show ∀ x_ ∈ ([2] : List Nat), x_ ∈ ([2, 11, 33, 35, 36] : List Nat) from by decide)) D_Upper_findWords_33 rfl rfl rfl (show ∀ x_ ∈ ([33] : List Nat), x_ ∈ ([2, 11, 33, 35, 36] : List Nat) from by decide))
 (SJ_post (SJ_iinc (i := 1) (n := 1) (v := (nI 1)) (pc := 34) D_Upper_findWords_34 (by decide +kernel)) (Lead.goto (K := K_Upper_findWords) (pc := 37) (tgt := 13) D_Upper_findWords_37 rfl))))
 (SJ_sq (p0 := 40) (p1 := 75) (nN := 0) (nB := 0) (nC := 0) (SJ_astore_n (i := 1) (j := 1) (p0 := 40) (p1 := 74) (EJ_arrst (tv := 2) (cv := 1) (r := (RX1, TX1, 2)) (p0 := 40) (p1 := 64) (p2 := 66) (p3 := 73) (EJ_arrst (tv := 2) (cv := 1) (r := (RX1, TX1, 2)) (p0 := 40) (p1 := 54) (p2 := 56) (p3 := 63) (EJ_arrst (tv := 2) (cv := 1) (r := (RX1, TX1, 2)) (p0 := 40) (p1 := 44) (p2 := 46) (p3 := 53) (EJ_anew (C := "TwoLevels$Firsts") (t := 35) (p0 := 40) (p1 := 41) (EJ_iconst (n := 3) (v := (nI 3)) (pc := 40) D_Upper_findWords_40 (by decide +kernel)) D_Upper_findWords_41 q_128 (by decide) rfl) D_Upper_findWords_44 (EJ_iconst (n := 0) (v := (nI 0)) (pc := 45) D_Upper_findWords_45 (by decide +kernel)) (EJ_new (t := 2) (c := 1) (r := (RX1, TX1, 2)) (p0 := 46) (p1 := 50) D_Upper_findWords_46 D_Upper_findWords_49 AJ_nil m_Firsts_init D_Upper_findWords_50 rfl rfl q_128 q_477 q_105 rfl rfl (Or.inr ⟨("TwoLevels$Upper", 61, yX1_init, "TwoLevels"), by simp [NWs], rfl, rfl, rfl⟩) q_478 ⟨by decide +kernel, by decide +kernel, by decide +kernel⟩ (by decide) (show 1 + 1 ≤ 4 from by decide) (show ∀ x_ ∈ ([2] : List Nat), x_ ∈ ([2, 11, 33, 35, 36] : List Nat) from by decide)) D_Upper_findWords_53 rfl rfl rfl (show ∀ x_ ∈ ([35] : List Nat), x_ ∈ ([2, 11, 33, 35, 36] : List Nat) from by decide)) D_Upper_findWords_54 (EJ_iconst (n := 1) (v := (nI 1)) (pc := 55) D_Upper_findWords_55 (by decide +kernel)) (EJ_new (t := 2) (c := 1) (r := (RX1, TX1, 2)) (p0 := 56) (p1 := 60) D_Upper_findWords_56 D_Upper_findWords_59 AJ_nil m_Firsts_init D_Upper_findWords_60 rfl rfl q_128 q_477 q_105 rfl rfl (Or.inr ⟨("TwoLevels$Upper", 61, yX1_init, "TwoLevels"), by simp [NWs], rfl, rfl, rfl⟩) q_478 ⟨by decide +kernel, by decide +kernel, by decide +kernel⟩ (by decide) (show 1 + 1 ≤ 4 from by decide) (show ∀ x_ ∈ ([2] : List Nat), x_ ∈ ([2, 11, 33, 35, 36] : List Nat) from by decide)) D_Upper_findWords_63 rfl rfl rfl (show ∀ x_ ∈ ([35] : List Nat), x_ ∈ ([2, 11, 33, 35, 36] : List Nat) from by decide)) D_Upper_findWords_64 (EJ_iconst (n := 2) (v := (nI 2)) (pc := 65) D_Upper_findWords_65 (by decide +kernel)) (EJ_new (t := 2) (c := 1) (r := (RX1, TX1, 2)) (p0 := 66) (p1 := 70) D_Upper_findWords_66 D_Upper_findWords_69 AJ_nil m_Firsts_init D_Upper_findWords_70 rfl rfl q_128 q_477 q_105 rfl rfl (Or.inr ⟨("TwoLevels$Upper", 61, yX1_init, "TwoLevels"), by simp [NWs], rfl, rfl, rfl⟩) q_478 ⟨by decide +kernel, by decide +kernel, by decide +kernel⟩ (by decide) (show 1 + 1 ≤ 4 from by decide) (show ∀ x_ ∈ ([2] : List Nat), x_ ∈ ([2, 11, 33, 35, 36] : List Nat) from by decide)) D_Upper_findWords_73 rfl rfl rfl (show ∀ x_ ∈ ([35] : List Nat), x_ ∈ ([2, 11, 33, 35, 36] : List Nat) from by decide)) D_Upper_findWords_74 rfl)
 (SJ_sq (p0 := 75) (p1 := 88) (nN := 0) (nB := 0) (nC := 0) (SJ_istore_n (i := 2) (j := 2) (p0 := 75) (p1 := 87) (EJ_if (p0 := 75) (pT := 82) (pF := 86) (pE := 83) (p1 := 87) (CZ_gt' (off := 7) (tgt := 86) (p0 := 75) (p1 := 79) (EJ_getI (t := 11) (c := 10) (kf := 6) (r := (RX10, TX10, 7)) (p0 := 75) (p1 := 76) (EJ_aload_n (j := 0) (i := 0) (pc := 75) D_Upper_findWords_75 rfl) D_Upper_findWords_76 ⟨rfl, rfl, by decide, q_135⟩ (fun _ _ => rfl)) D_Upper_findWords_79 rfl) (EJ_iconst (n := 1) (v := (nI 1)) (pc := 82) D_Upper_findWords_82 (by decide +kernel)) (Lead.goto (K := K_Upper_findWords) (pc := 83) (tgt := 87) D_Upper_findWords_83 rfl) (EJ_iconst (n := 0) (v := (nI 0)) (pc := 86) D_Upper_findWords_86 (by decide +kernel))) D_Upper_findWords_87 rfl)
 (SJ_sq (p0 := 88) (p1 := 170) (nN := 0) (nB := 0) (nC := 0) (SJ_sq (p0 := 88) (p1 := 90) (nN := 170) (nB := 0) (nC := 0) (SJ_istore_n (i := 3) (j := 3) (p0 := 88) (p1 := 89) (EJ_iconst (n := 0) (v := (nI 0)) (pc := 88) D_Upper_findWords_88 (by decide +kernel)) D_Upper_findWords_89 rfl)
 (SJ_loop (p0 := 90) (pB := 100) (pS := 164) (pE := 170) (CJ_and (p0 := 90) (pM := 94) (pT := 100) (pF := 170) (CZ_ne' (off := 79) (tgt := 170) (p0 := 90) (p1 := 91) (EJ_iload_n (j := 2) (i := 2) (pc := 90) D_Upper_findWords_90 rfl) D_Upper_findWords_91 rfl) (CJ_lt' (off := 73) (tgt := 170) (p0 := 94) (p1 := 95) (p2 := 97) (EJ_iload_n (j := 3) (i := 3) (pc := 94) D_Upper_findWords_94 rfl) (EJ_ldc (i := 62) (v := (nI 1000000)) (pc := 95) D_Upper_findWords_95 q_487) D_Upper_findWords_97 rfl))
 (SJ_sq (p0 := 100) (p1 := 102) (nN := 164) (nB := 170) (nC := 164) (SJ_istore_n (i := 2) (j := 2) (p0 := 100) (p1 := 101) (EJ_iconst (n := 0) (v := (nI 0)) (pc := 100) D_Upper_findWords_100 (by decide +kernel)) D_Upper_findWords_101 rfl)
 (SJ_sq (p0 := 102) (p1 := 105) (nN := 164) (nB := 170) (nC := 164) (SJ_istore (i := 4) (p0 := 102) (p1 := 103) (EJ_iconst (n := 0) (v := (nI 0)) (pc := 102) D_Upper_findWords_102 (by decide +kernel)) D_Upper_findWords_103)
 (SJ_loop (p0 := 105) (pB := 114) (pS := 158) (pE := 164) (CJ_lt' (off := 53) (tgt := 164) (p0 := 105) (p1 := 107) (p2 := 111) (EJ_iload (i := 4) (pc := 105) D_Upper_findWords_105) (EJ_getI (t := 11) (c := 10) (kf := 6) (r := (RX10, TX10, 7)) (p0 := 107) (p1 := 108) (EJ_aload_n (j := 0) (i := 0) (pc := 107) D_Upper_findWords_107 rfl) D_Upper_findWords_108 ⟨rfl, rfl, by decide, q_135⟩ (fun _ _ => rfl)) D_Upper_findWords_111 rfl)
 (SJ_sq (p0 := 114) (p1 := 117) (nN := 158) (nB := 164) (nC := 158) (SJ_istore (i := 5) (p0 := 114) (p1 := 115) (EJ_iconst (n := 0) (v := (nI 0)) (pc := 114) D_Upper_findWords_114 (by decide +kernel)) D_Upper_findWords_115)
 (SJ_loop (p0 := 117) (pB := 129) (pS := 152) (pE := 158) (CJ_lt' (off := 32) (tgt := 158) (p0 := 117) (p1 := 119) (p2 := 126) (EJ_iload (i := 5) (pc := 117) D_Upper_findWords_117) (EJ_iald (p0 := 119) (p1 := 123) (p2 := 125) (EJ_getR (t := 11) (c := 10) (kf := 3) (r := (RX10, TX10, 7)) (p0 := 119) (p1 := 120) (EJ_aload_n (j := 0) (i := 0) (pc := 119) D_Upper_findWords_119 rfl) D_Upper_findWords_120 ⟨rfl, rfl, by decide, q_132⟩ (fun _ _ => rfl)) (EJ_iload (i := 4) (pc := 123) D_Upper_findWords_123) D_Upper_findWords_125) D_Upper_findWords_126 rfl)
 (SJ_istore_n (i := 2) (j := 2) (p0 := 129) (p1 := 151) (EJ_ior (p0 := 129) (p1 := 130) (p2 := 150) (EJ_iload_n (j := 2) (i := 2) (pc := 129) D_Upper_findWords_129 rfl) (EJ_callV (t := 11) (c := 10) (r := (RX10, TX10, 7)) (p0 := 130) (p1 := 131) (p2 := 147) (EJ_aload_n (j := 0) (i := 0) (pc := 130) D_Upper_findWords_130 rfl) (AJ_R (p0 := 131) (p1 := 138) (p2 := 147) (EJ_aald (p0 := 131) (p1 := 135) (p2 := 137) (EJ_getR (t := 11) (c := 10) (kf := 4) (r := (RX10, TX10, 7)) (p0 := 131) (p1 := 132) (EJ_aload_n (j := 0) (i := 0) (pc := 131) D_Upper_findWords_131 rfl) D_Upper_findWords_132 ⟨rfl, rfl, by decide, q_133⟩ (fun _ _ => rfl)) (EJ_iload (i := 4) (pc := 135) D_Upper_findWords_135) D_Upper_findWords_137 (Or.inl ⟨_, rfl⟩)) (AJ_R (p0 := 138) (p1 := 146) (p2 := 147) (EJ_callV (t := 11) (c := 10) (r := (RX10, TX10, 7)) (p0 := 138) (p1 := 139) (p2 := 143) (EJ_aload_n (j := 0) (i := 0) (pc := 138) D_Upper_findWords_138 rfl) (AJ_I (p0 := 139) (p1 := 141) (p2 := 143) (EJ_iload (i := 4) (pc := 139) D_Upper_findWords_139) (AJ_I (p0 := 141) (p1 := 143) (p2 := 143) (EJ_iload (i := 5) (pc := 141) D_Upper_findWords_141) AJ_nil)) m_Upper_rowOf E1_R D_Upper_findWords_143 rfl rfl rfl q_488 q_489 q_490 q_93 ⟨by decide +kernel, by decide +kernel, by decide +kernel⟩ (by decide) (show 1 + 1 ≤ 4 from by decide) (fun _ h => absurd h List.not_mem_nil)) (AJ_R (p0 := 146) (p1 := 147) (p2 := 147) (EJ_aload_n (j := 1) (i := 1) (pc := 146) D_Upper_findWords_146 rfl) AJ_nil))) m_Upper_takeWords E1_I D_Upper_findWords_147 rfl rfl rfl q_492 q_493 q_13 q_93 ⟨by decide +kernel, by decide +kernel, by decide +kernel⟩ (by decide) (show 3 + 1 ≤ 4 from by decide) (show ∀ x_ ∈ ([2, 36] : List Nat), x_ ∈ ([2, 11, 33, 35, 36] : List Nat) from by decide)) D_Upper_findWords_150) D_Upper_findWords_151 rfl)
 (SJ_post (SJ_iinc (i := 5) (n := 1) (v := (nI 1)) (pc := 152) D_Upper_findWords_152 (by decide +kernel)) (Lead.goto (K := K_Upper_findWords) (pc := 155) (tgt := 117) D_Upper_findWords_155 rfl))))
 (SJ_post (SJ_iinc (i := 4) (n := 1) (v := (nI 1)) (pc := 158) D_Upper_findWords_158 (by decide +kernel)) (Lead.goto (K := K_Upper_findWords) (pc := 161) (tgt := 105) D_Upper_findWords_161 rfl)))))
 (SJ_post (SJ_iinc (i := 3) (n := 1) (v := (nI 1)) (pc := 164) D_Upper_findWords_164 (by decide +kernel)) (Lead.goto (K := K_Upper_findWords) (pc := 167) (tgt := 90) D_Upper_findWords_167 rfl))))
 (SJ_retU (pc := 170) D_Upper_findWords_170))))))
 RTm_void q_476 (by decide +kernel) rfl (fun h => by cases h) (show 6 ≤ 40 from by decide) (fun _ => trivial)
theorem D_Reader_read_0 : decode cX4_read 0 = .ok (.aload_n 0, 1) := by decide +kernel
theorem D_Reader_read_1 : decode cX4_read 1 = .ok (.aload_n 1, 1) := by decide +kernel
theorem D_Reader_read_2 : decode cX4_read 2 = .ok (.putfield 9, 3) := by decide +kernel
theorem D_Reader_read_5 : decode cX4_read 5 = .ok (.aload_n 0, 1) := by decide +kernel
theorem D_Reader_read_6 : decode cX4_read 6 = .ok (.iload_n 2, 1) := by decide +kernel
theorem D_Reader_read_7 : decode cX4_read 7 = .ok (.aload_n 1, 1) := by decide +kernel
theorem D_Reader_read_8 : decode cX4_read 8 = .ok (.arraylength, 1) := by decide +kernel
theorem D_Reader_read_9 : decode cX4_read 9 = .ok (.invokestatic 31, 3) := by decide +kernel
theorem D_Reader_read_12 : decode cX4_read 12 = .ok (.putfield 37, 3) := by decide +kernel
theorem D_Reader_read_15 : decode cX4_read 15 = .ok (.aload_n 0, 1) := by decide +kernel
theorem D_Reader_read_16 : decode cX4_read 16 = .ok (.iconst (0), 1) := by decide +kernel
theorem D_Reader_read_17 : decode cX4_read 17 = .ok (.putfield 41, 3) := by decide +kernel
theorem D_Reader_read_20 : decode cX4_read 20 = .ok (.aload_n 0, 1) := by decide +kernel
theorem D_Reader_read_21 : decode cX4_read 21 = .ok (.iconst (0), 1) := by decide +kernel
theorem D_Reader_read_22 : decode cX4_read 22 = .ok (.putfield 44, 3) := by decide +kernel
theorem D_Reader_read_25 : decode cX4_read 25 = .ok (.aload_n 0, 1) := by decide +kernel
theorem D_Reader_read_26 : decode cX4_read 26 = .ok (.iconst (0), 1) := by decide +kernel
theorem D_Reader_read_27 : decode cX4_read 27 = .ok (.putfield 47, 3) := by decide +kernel
theorem D_Reader_read_30 : decode cX4_read 30 = .ok (.aload_n 0, 1) := by decide +kernel
theorem D_Reader_read_31 : decode cX4_read 31 = .ok (.new 24, 3) := by decide +kernel
theorem D_Reader_read_34 : decode cX4_read 34 = .ok (.dup, 1) := by decide +kernel
theorem D_Reader_read_35 : decode cX4_read 35 = .ok (.invokespecial 26, 3) := by decide +kernel
theorem D_Reader_read_38 : decode cX4_read 38 = .ok (.putfield 27, 3) := by decide +kernel
theorem D_Reader_read_41 : decode cX4_read 41 = .ok (.aload_n 0, 1) := by decide +kernel
theorem D_Reader_read_42 : decode cX4_read 42 = .ok (.invokevirtual 50, 3) := by decide +kernel
theorem D_Reader_read_45 : decode cX4_read 45 = .ok (.aload_n 0, 1) := by decide +kernel
theorem D_Reader_read_46 : decode cX4_read 46 = .ok (.getfield 41, 3) := by decide +kernel
theorem D_Reader_read_49 : decode cX4_read 49 = .ok (.aload_n 0, 1) := by decide +kernel
theorem D_Reader_read_50 : decode cX4_read 50 = .ok (.getfield 37, 3) := by decide +kernel
theorem D_Reader_read_53 : decode cX4_read 53 = .ok (.if_icmp .ge (7), 3) := by decide +kernel
theorem D_Reader_read_56 : decode cX4_read 56 = .ok (.iconst (1), 1) := by decide +kernel
theorem D_Reader_read_57 : decode cX4_read 57 = .ok (.goto (4), 3) := by decide +kernel
theorem D_Reader_read_60 : decode cX4_read 60 = .ok (.iconst (0), 1) := by decide +kernel
theorem D_Reader_read_61 : decode cX4_read 61 = .ok (.istore_n 3, 1) := by decide +kernel
theorem D_Reader_read_62 : decode cX4_read 62 = .ok (.iconst (0), 1) := by decide +kernel
theorem D_Reader_read_63 : decode cX4_read 63 = .ok (.istore 4, 2) := by decide +kernel
theorem D_Reader_read_65 : decode cX4_read 65 = .ok (.iload_n 3, 1) := by decide +kernel
theorem D_Reader_read_66 : decode cX4_read 66 = .ok (.ifCond .eq (22), 3) := by decide +kernel
theorem D_Reader_read_69 : decode cX4_read 69 = .ok (.iload 4, 2) := by decide +kernel
theorem D_Reader_read_71 : decode cX4_read 71 = .ok (.sipush (500), 3) := by decide +kernel
theorem D_Reader_read_74 : decode cX4_read 74 = .ok (.if_icmp .gt (14), 3) := by decide +kernel
theorem D_Reader_read_77 : decode cX4_read 77 = .ok (.aload_n 0, 1) := by decide +kernel
theorem D_Reader_read_78 : decode cX4_read 78 = .ok (.invokevirtual 53, 3) := by decide +kernel
theorem D_Reader_read_81 : decode cX4_read 81 = .ok (.istore_n 3, 1) := by decide +kernel
theorem D_Reader_read_82 : decode cX4_read 82 = .ok (.iinc 4 (1), 3) := by decide +kernel
theorem D_Reader_read_85 : decode cX4_read 85 = .ok (.goto (-20), 3) := by decide +kernel
theorem D_Reader_read_88 : decode cX4_read 88 = .ok (.aload_n 0, 1) := by decide +kernel
theorem D_Reader_read_89 : decode cX4_read 89 = .ok (.getfield 44, 3) := by decide +kernel
theorem D_Reader_read_92 : decode cX4_read 92 = .ok (.ifCond .ne (7), 3) := by decide +kernel
theorem D_Reader_read_95 : decode cX4_read 95 = .ok (.aload_n 0, 1) := by decide +kernel
theorem D_Reader_read_96 : decode cX4_read 96 = .ok (.invokevirtual 57, 3) := by decide +kernel
theorem D_Reader_read_99 : decode cX4_read 99 = .ok (.aload_n 0, 1) := by decide +kernel
theorem D_Reader_read_100 : decode cX4_read 100 = .ok (.getfield 44, 3) := by decide +kernel
theorem D_Reader_read_103 : decode cX4_read 103 = .ok (.ifCond .ne (10), 3) := by decide +kernel
theorem D_Reader_read_106 : decode cX4_read 106 = .ok (.aload_n 0, 1) := by decide +kernel
theorem D_Reader_read_107 : decode cX4_read 107 = .ok (.getfield 27, 3) := by decide +kernel
theorem D_Reader_read_110 : decode cX4_read 110 = .ok (.invokevirtual 60, 3) := by decide +kernel
theorem D_Reader_read_113 : decode cX4_read 113 = .ok (.aload_n 0, 1) := by decide +kernel
theorem D_Reader_read_114 : decode cX4_read 114 = .ok (.getfield 44, 3) := by decide +kernel
theorem D_Reader_read_117 : decode cX4_read 117 = .ok (.ireturn, 1) := by decide +kernel
def K_Reader_read : SC := (cX4_read, "TwoLevels$Reader", 5, 7, false, [1, 2, 5, 7, 11, 26, 27, 29, 30, 31, 32, 33, 34, 35, 36, 37, 38, 39, 40, 41, 42, 53, 54], NoQ)
def d_Reader_read : MD Int32 := mth tt 5 (sq (sh2 (pR 5 0) (lR 0) (lR 1))
 (sq (sh2 (pI false 5 1) (lR 0) (kS d_Math_min [vI (lI 2), vI (eh1 aL (lR 1))]))
 (sq (sh2 (pI false 5 2) (lR 0) (eC (nI 0)))
 (sq (sh2 (pI false 5 3) (lR 0) (eC (nI 0)))
 (sq (sh2 (pI false 5 6) (lR 0) (eC (nI 0)))
 (sq (sh2 (pR 5 8) (lR 0) (kN 11 7 d_Upper_init []))
 (sq (sE (kV 5 d_Reader_skipBlanks (lR 0) []))
 (sq (sI1 3 (eIf (eh2 c_lt (eh1 (gI 5 2) (lR 0)) (eh1 (gI 5 1) (lR 0))) (eC (nI 1)) (eC (nI 0))))
 (sq (sq (sI1 4 (eC (nI 0)))
 (loop (cAnd (eh1 z_ne (lI 3)) (eh2 c_le (lI 4) (eC (nI 500))))
 (sI1 3 (kV 5 d_Reader_readPart (lR 0) []))
 (sInc 4 (nI 1))))
 (sq (sIf (eh1 z_eq (eh1 (gI 5 3) (lR 0))) (sE (kV 5 d_Reader_findStranger (lR 0) [])) sk)
 (sq (sIf (eh1 z_eq (eh1 (gI 5 3) (lR 0))) (sE (kV 11 d_Upper_findWords (eh1 (gR 5 8) (lR 0)) [])) sk)
 (rtn (eh1 (gI 5 3) (lR 0))))))))))))))
theorem m_Reader_read : MJ 7 [1, 2, 5, 7, 11, 26, 27, 29, 30, 31, 32, 33, 34, 35, 36, 37, 38, 39, 40, 41, 42, 53, 54] yX4_read (some .int) eI (d_Reader_read) := MJ_of (K := K_Reader_read) (ri := .ireturn) (n1 := 0) (n2 := 0) (n3 := 0)
 (SJ_sq (p0 := 0) (p1 := 5) (nN := 0) (nB := 0) (nC := 0) (SJ_putR (t := 5) (c := 4) (kf := 0) (r := (RX4, TX4, 9)) (p0 := 0) (p1 := 1) (p2 := 2) (EJ_aload_n (j := 0) (i := 0) (pc := 0) D_Reader_read_0 rfl) (EJ_aload_n (j := 1) (i := 1) (pc := 1) D_Reader_read_1 rfl) D_Reader_read_2 ⟨rfl, rfl, by decide, q_146⟩ (Or.inl rfl) (Or.inr ⟨_, rfl⟩) (fun _ _ => rfl) (show (5 : Nat) ∈ ([1, 2, 5, 7, 11, 26, 27, 29, 30, 31, 32, 33, 34, 35, 36, 37, 38, 39, 40, 41, 42, 53, 54] : List Nat) from by decide))
 (SJ_sq (p0 := 5) (p1 := 15) (nN := 0) (nB := 0) (nC := 0) (SJ_putI (z := false) (t := 5) (c := 4) (kf := 1) (r := (RX4, TX4, 9)) (p0 := 5) (p1 := 6) (p2 := 12) (EJ_aload_n (j := 0) (i := 0) (pc := 5) D_Reader_read_5 rfl) (EJ_callS (p0 := 6) (p1 := 9) (AJ_I (p0 := 6) (p1 := 7) (p2 := 9) (EJ_iload_n (j := 2) (i := 2) (pc := 6) D_Reader_read_6 rfl) (AJ_I (p0 := 7) (p1 := 9) (p2 := 9) (EJ_alen (p0 := 7) (p1 := 8) (EJ_aload_n (j := 1) (i := 1) (pc := 7) D_Reader_read_7 rfl) D_Reader_read_8) AJ_nil)) m_Math_min E1_I D_Reader_read_9 q_306 q_307 q_98 ⟨by decide +kernel, by decide +kernel, by decide +kernel⟩ (by decide) (show 1 + 1 ≤ 7 from by decide) (fun _ h => absurd h List.not_mem_nil)) D_Reader_read_12 ⟨rfl, rfl, by decide, q_147⟩ (Or.inl rfl) (fun _ _ => ⟨rfl, rfl⟩) (fun _ _ => rfl) (show (5 : Nat) ∈ ([1, 2, 5, 7, 11, 26, 27, 29, 30, 31, 32, 33, 34, 35, 36, 37, 38, 39, 40, 41, 42, 53, 54] : List Nat) from by decide))
 (SJ_sq (p0 := 15) (p1 := 20) (nN := 0) (nB := 0) (nC := 0) (SJ_putI (z := false) (t := 5) (c := 4) (kf := 2) (r := (RX4, TX4, 9)) (p0 := 15) (p1 := 16) (p2 := 17) (EJ_aload_n (j := 0) (i := 0) (pc := 15) D_Reader_read_15 rfl) (EJ_iconst (n := 0) (v := (nI 0)) (pc := 16) D_Reader_read_16 (by decide +kernel)) D_Reader_read_17 ⟨rfl, rfl, by decide, q_148⟩ (Or.inl rfl) (fun _ _ => ⟨rfl, rfl⟩) (fun _ _ => rfl) (show (5 : Nat) ∈ ([1, 2, 5, 7, 11, 26, 27, 29, 30, 31, 32, 33, 34, 35, 36, 37, 38, 39, 40, 41, 42, 53, 54] : List Nat) from by decide))
 (SJ_sq (p0 := 20) (p1 := 25) (nN := 0) (nB := 0) (nC := 0) (SJ_putI (z := false) (t := 5) (c := 4) (kf := 3) (r := (RX4, TX4, 9)) (p0 := 20) (p1 := 21) (p2 := 22) (EJ_aload_n (j := 0) (i := 0) (pc := 20) D_Reader_read_20 rfl) (EJ_iconst (n := 0) (v := (nI 0)) (pc := 21) D_Reader_read_21 (by decide +kernel)) D_Reader_read_22 ⟨rfl, rfl, by decide, q_149⟩ (Or.inl rfl) (fun _ _ => ⟨rfl, rfl⟩) (fun _ _ => rfl) (show (5 : Nat) ∈ ([1, 2, 5, 7, 11, 26, 27, 29, 30, 31, 32, 33, 34, 35, 36, 37, 38, 39, 40, 41, 42, 53, 54] : List Nat) from by decide))
 (SJ_sq (p0 := 25) (p1 := 30) (nN := 0) (nB := 0) (nC := 0) (SJ_putI (z := false) (t := 5) (c := 4) (kf := 6) (r := (RX4, TX4, 9)) (p0 := 25) (p1 := 26) (p2 := 27) (EJ_aload_n (j := 0) (i := 0) (pc := 25) D_Reader_read_25 rfl) (EJ_iconst (n := 0) (v := (nI 0)) (pc := 26) D_Reader_read_26 (by decide +kernel)) D_Reader_read_27 ⟨rfl, rfl, by decide, q_152⟩ (Or.inl rfl) (fun _ _ => ⟨rfl, rfl⟩) (fun _ _ => rfl) (show (5 : Nat) ∈ ([1, 2, 5, 7, 11, 26, 27, 29, 30, 31, 32, 33, 34, 35, 36, 37, 38, 39, 40, 41, 42, 53, 54] : List Nat) from by decide))
 (SJ_sq (p0 := 30) (p1 := 41) (nN := 0) (nB := 0) (nC := 0) (SJ_putR (t := 5) (c := 4) (kf := 8) (r := (RX4, TX4, 9)) (p0 := 30) (p1 := 31) (p2 := 38) (EJ_aload_n (j := 0) (i := 0) (pc := 30) D_Reader_read_30 rfl) (EJ_new (t := 11) (c := 10) (r := (RX10, TX10, 7)) (p0 := 31) (p1 := 35) D_Reader_read_31 D_Reader_read_34 AJ_nil m_Upper_init D_Reader_read_35 rfl rfl q_122 q_123 q_93 rfl rfl (Or.inr ⟨("TwoLevels$Reader", 26, yX10_init, "TwoLevels"), by simp [NWs], rfl, rfl, rfl⟩) q_124 ⟨by decide +kernel, by decide +kernel, by decide +kernel⟩ (by decide) (show 1 + 1 ≤ 7 from by decide) (show ∀ x_ ∈ ([11] : List Nat), x_ ∈ ([1, 2, 5, 7, 11, 26, 27, 29, 30, 31, 32, 33, 34, 35, 36, 37, 38, 39, 40, 41, 42, 53, 54] : List Nat) from by decide)) D_Reader_read_38 ⟨rfl, rfl, by decide, q_154⟩ (Or.inl rfl) (Or.inl ⟨_, rfl⟩) (fun _ _ => rfl) (show (5 : Nat) ∈ ([1, 2, 5, 7, 11, 26, 27, 29, 30, 31, 32, 33, 34, 35, 36, 37, 38, 39, 40, 41, 42, 53, 54] : List Nat) from by decide))
 (SJ_sq (p0 := 41) (p1 := 45) (nN := 0) (nB := 0) (nC := 0) (SJ_void (p0 := 41) (p1 := 45) (EJ_callV (t := 5) (c := 4) (r := (RX4, TX4, 9)) (p0 := 41) (p1 := 42) (p2 := 42) (EJ_aload_n (j := 0) (i := 0) (pc := 41) D_Reader_read_41 rfl) AJ_nil m_Reader_skipBlanks E1_U D_Reader_read_42 rfl rfl rfl q_309 q_310 q_1 q_92 ⟨by decide +kernel, by decide +kernel, by decide +kernel⟩ (by decide) (show 1 + 1 ≤ 7 from by decide) (show ∀ x_ ∈ ([5] : List Nat), x_ ∈ ([1, 2, 5, 7, 11, 26, 27, 29, 30, 31, 32, 33, 34, 35, 36, 37, 38, 39, 40, 41, 42, 53, 54] : List Nat) from by decide)))
 (SJ_sq (p0 := 45) (p1 := 62) (nN := 0) (nB := 0) (nC := 0) (SJ_istore_n (i := 3) (j := 3) (p0 := 45) (p1 := 61) (EJ_if (p0 := 45) (pT := 56) (pF := 60) (pE := 57) (p1 := 61) (CJ_lt' (off := 7) (tgt := 60) (p0 := 45) (p1 := 49) (p2 := 53) (EJ_getI (t := 5) (c := 4) (kf := 2) (r := (RX4, TX4, 9)) (p0 := 45) (p1 := 46) (EJ_aload_n (j := 0) (i := 0) (pc := 45) D_Reader_read_45 rfl) D_Reader_read_46 ⟨rfl, rfl, by decide, q_148⟩ (fun _ _ => rfl)) (EJ_getI (t := 5) (c := 4) (kf := 1) (r := (RX4, TX4, 9)) (p0 := 49) (p1 := 50) (EJ_aload_n (j := 0) (i := 0) (pc := 49) D_Reader_read_49 rfl) D_Reader_read_50 ⟨rfl, rfl, by decide, q_147⟩ (fun _ _ => rfl)) D_Reader_read_53 rfl) (EJ_iconst (n := 1) (v := (nI 1)) (pc := 56) D_Reader_read_56 (by decide +kernel)) (Lead.goto (K := K_Reader_read) (pc := 57) (tgt := 61) D_Reader_read_57 rfl) (EJ_iconst (n := 0) (v := (nI 0)) (pc := 60) D_Reader_read_60 (by decide +kernel))) D_Reader_read_61 rfl)
 (SJ_sq (p0 := 62) (p1 := 88) (nN := 0) (nB := 0) (nC := 0) (SJ_sq (p0 := 62) (p1 := 65) (nN := 88) (nB := 0) (nC := 0) (SJ_istore (i := 4) (p0 := 62) (p1 := 63) (EJ_iconst (n := 0) (v := (nI 0)) (pc := 62) D_Reader_read_62 (by decide +kernel)) D_Reader_read_63)
 (SJ_loop (p0 := 65) (pB := 77) (pS := 82) (pE := 88) (CJ_and (p0 := 65) (pM := 69) (pT := 77) (pF := 88) (CZ_ne' (off := 22) (tgt := 88) (p0 := 65) (p1 := 66) (EJ_iload_n (j := 3) (i := 3) (pc := 65) D_Reader_read_65 rfl) D_Reader_read_66 rfl) (CJ_le' (off := 14) (tgt := 88) (p0 := 69) (p1 := 71) (p2 := 74) (EJ_iload (i := 4) (pc := 69) D_Reader_read_69) (EJ_sipush (n := 500) (v := (nI 500)) (pc := 71) D_Reader_read_71 (by decide +kernel)) D_Reader_read_74 rfl))
 (SJ_istore_n (i := 3) (j := 3) (p0 := 77) (p1 := 81) (EJ_callV (t := 5) (c := 4) (r := (RX4, TX4, 9)) (p0 := 77) (p1 := 78) (p2 := 78) (EJ_aload_n (j := 0) (i := 0) (pc := 77) D_Reader_read_77 rfl) AJ_nil m_Reader_readPart E1_I D_Reader_read_78 rfl rfl rfl q_312 q_313 q_2 q_92 ⟨by decide +kernel, by decide +kernel, by decide +kernel⟩ (by decide) (show 6 + 1 ≤ 7 from by decide) (show ∀ x_ ∈ ([1, 5, 7, 11, 26, 27, 29, 30, 31, 32, 34, 37, 38, 39, 40, 41, 42, 53, 54] : List Nat), x_ ∈ ([1, 2, 5, 7, 11, 26, 27, 29, 30, 31, 32, 33, 34, 35, 36, 37, 38, 39, 40, 41, 42, 53, 54] : List Nat) from by decide)) D_Reader_read_81 rfl)
 (SJ_post (SJ_iinc (i := 4) (n := 1) (v := (nI 1)) (pc := 82) D_Reader_read_82 (by decide +kernel)) (Lead.goto (K := K_Reader_read) (pc := 85) (tgt := 65) D_Reader_read_85 rfl))))
 (SJ_sq (p0 := 88) (p1 := 99) (nN := 0) (nB := 0) (nC := 0) (SJ_if (p0 := 88) (pT := 95) (pF := 99) (nN := 99) (nB := 0) (nC := 0) (CZ_eq' (off := 7) (tgt := 99) (p0 := 88) (p1 := 92) (EJ_getI (t := 5) (c := 4) (kf := 3) (r := (RX4, TX4, 9)) (p0 := 88) (p1 := 89) (EJ_aload_n (j := 0) (i := 0) (pc := 88) D_Reader_read_88 rfl) D_Reader_read_89 ⟨rfl, rfl, by decide, q_149⟩ (fun _ _ => rfl)) D_Reader_read_92 rfl) (SJ_void (p0 := 95) (p1 := 99) (EJ_callV (t := 5) (c := 4) (r := (RX4, TX4, 9)) (p0 := 95) (p1 := 96) (p2 := 96) (EJ_aload_n (j := 0) (i := 0) (pc := 95) D_Reader_read_95 rfl) AJ_nil m_Reader_findStranger E1_U D_Reader_read_96 rfl rfl rfl q_467 q_468 q_12 q_92 ⟨by decide +kernel, by decide +kernel, by decide +kernel⟩ (by decide) (show 3 + 1 ≤ 7 from by decide) (show ∀ x_ ∈ ([5, 11, 29, 30] : List Nat), x_ ∈ ([1, 2, 5, 7, 11, 26, 27, 29, 30, 31, 32, 33, 34, 35, 36, 37, 38, 39, 40, 41, 42, 53, 54] : List Nat) from by decide))) SJ_sk)
 (SJ_sq (p0 := 99) (p1 := 113) (nN := 0) (nB := 0) (nC := 0) (SJ_if (p0 := 99) (pT := 106) (pF := 113) (nN := 113) (nB := 0) (nC := 0) (CZ_eq' (off := 10) (tgt := 113) (p0 := 99) (p1 := 103) (EJ_getI (t := 5) (c := 4) (kf := 3) (r := (RX4, TX4, 9)) (p0 := 99) (p1 := 100) (EJ_aload_n (j := 0) (i := 0) (pc := 99) D_Reader_read_99 rfl) D_Reader_read_100 ⟨rfl, rfl, by decide, q_149⟩ (fun _ _ => rfl)) D_Reader_read_103 rfl) (SJ_void (p0 := 106) (p1 := 113) (EJ_callV (t := 11) (c := 10) (r := (RX10, TX10, 7)) (p0 := 106) (p1 := 110) (p2 := 110) (EJ_getR (t := 5) (c := 4) (kf := 8) (r := (RX4, TX4, 9)) (p0 := 106) (p1 := 107) (EJ_aload_n (j := 0) (i := 0) (pc := 106) D_Reader_read_106 rfl) D_Reader_read_107 ⟨rfl, rfl, by decide, q_154⟩ (fun _ _ => rfl)) AJ_nil m_Upper_findWords E1_U D_Reader_read_110 rfl rfl rfl q_473 q_474 q_475 q_93 ⟨by decide +kernel, by decide +kernel, by decide +kernel⟩ (by decide) (show 4 + 1 ≤ 7 from by decide) (show ∀ x_ ∈ ([2, 11, 33, 35, 36] : List Nat), x_ ∈ ([1, 2, 5, 7, 11, 26, 27, 29, 30, 31, 32, 33, 34, 35, 36, 37, 38, 39, 40, 41, 42, 53, 54] : List Nat) from by decide))) SJ_sk)
 (SJ_ret (p0 := 113) (p1 := 117) (EJ_getI (t := 5) (c := 4) (kf := 3) (r := (RX4, TX4, 9)) (p0 := 113) (p1 := 114) (EJ_aload_n (j := 0) (i := 0) (pc := 113) D_Reader_read_113 rfl) D_Reader_read_114 ⟨rfl, rfl, by decide, q_149⟩ (fun _ _ => rfl)) D_Reader_read_117))))))))))))
 RTm_int q_305 (by decide +kernel) rfl (fun h => by cases h) (show 5 ≤ 40 from by decide) (fun _ => trivial)
theorem D_Reader_takeRules_0 : decode cX4_takeRules 0 = .ok (.aload_n 0, 1) := by decide +kernel
theorem D_Reader_takeRules_1 : decode cX4_takeRules 1 = .ok (.getfield 47, 3) := by decide +kernel
theorem D_Reader_takeRules_4 : decode cX4_takeRules 4 = .ok (.anewarray 15, 3) := by decide +kernel
theorem D_Reader_takeRules_7 : decode cX4_takeRules 7 = .ok (.astore_n 1, 1) := by decide +kernel
theorem D_Reader_takeRules_8 : decode cX4_takeRules 8 = .ok (.iconst (0), 1) := by decide +kernel
theorem D_Reader_takeRules_9 : decode cX4_takeRules 9 = .ok (.istore_n 2, 1) := by decide +kernel
theorem D_Reader_takeRules_10 : decode cX4_takeRules 10 = .ok (.iload_n 2, 1) := by decide +kernel
theorem D_Reader_takeRules_11 : decode cX4_takeRules 11 = .ok (.aload_n 0, 1) := by decide +kernel
theorem D_Reader_takeRules_12 : decode cX4_takeRules 12 = .ok (.getfield 47, 3) := by decide +kernel
theorem D_Reader_takeRules_15 : decode cX4_takeRules 15 = .ok (.if_icmp .ge (18), 3) := by decide +kernel
theorem D_Reader_takeRules_18 : decode cX4_takeRules 18 = .ok (.aload_n 1, 1) := by decide +kernel
theorem D_Reader_takeRules_19 : decode cX4_takeRules 19 = .ok (.iload_n 2, 1) := by decide +kernel
theorem D_Reader_takeRules_20 : decode cX4_takeRules 20 = .ok (.aload_n 0, 1) := by decide +kernel
theorem D_Reader_takeRules_21 : decode cX4_takeRules 21 = .ok (.getfield 20, 3) := by decide +kernel
theorem D_Reader_takeRules_24 : decode cX4_takeRules 24 = .ok (.iload_n 2, 1) := by decide +kernel
theorem D_Reader_takeRules_25 : decode cX4_takeRules 25 = .ok (.aaload, 1) := by decide +kernel
theorem D_Reader_takeRules_26 : decode cX4_takeRules 26 = .ok (.aastore, 1) := by decide +kernel
theorem D_Reader_takeRules_27 : decode cX4_takeRules 27 = .ok (.iinc 2 (1), 3) := by decide +kernel
theorem D_Reader_takeRules_30 : decode cX4_takeRules 30 = .ok (.goto (-20), 3) := by decide +kernel
theorem D_Reader_takeRules_33 : decode cX4_takeRules 33 = .ok (.aload_n 1, 1) := by decide +kernel
theorem D_Reader_takeRules_34 : decode cX4_takeRules 34 = .ok (.areturn, 1) := by decide +kernel
def K_Reader_takeRules : SC := (cX4_takeRules, "TwoLevels$Reader", 3, 1, false, [28], NoQ)
def d_Reader_takeRules : MD (Option Nat) := mth tt 3 (sq (sR1 1 (nA 28 (eh1 (gI 5 6) (lR 0))))
 (sq (sq (sI1 2 (eC (nI 0)))
 (loop (eh2 c_lt (lI 2) (eh1 (gI 5 6) (lR 0)))
 (sh3 (stO [28] "TwoLevels$Rule" 7) (lR 1) (lI 2) (eh2 (aR (.object "TwoLevels$Rule")) (eh1 (gR 5 5) (lR 0)) (lI 2)))
 (sInc 2 (nI 1))))
 (rtn (lR 1))))
theorem m_Reader_takeRules : MJ 1 [28] yX4_takeRules (some (.array (.object "TwoLevels$Rule"))) eR (d_Reader_takeRules) := MJ_of (K := K_Reader_takeRules) (ri := .areturn) (n1 := 0) (n2 := 0) (n3 := 0)
 (SJ_sq (p0 := 0) (p1 := 8) (nN := 0) (nB := 0) (nC := 0) (SJ_astore_n (i := 1) (j := 1) (p0 := 0) (p1 := 7) (EJ_anew (C := "TwoLevels$Rule") (t := 28) (p0 := 0) (p1 := 4) (EJ_getI (t := 5) (c := 4) (kf := 6) (r := (RX4, TX4, 9)) (p0 := 0) (p1 := 1) (EJ_aload_n (j := 0) (i := 0) (pc := 0) D_Reader_takeRules_0 rfl) D_Reader_takeRules_1 ⟨rfl, rfl, by decide, q_152⟩ (fun _ _ => rfl)) D_Reader_takeRules_4 q_121 (by decide) rfl) D_Reader_takeRules_7 rfl)
 (SJ_sq (p0 := 8) (p1 := 33) (nN := 0) (nB := 0) (nC := 0) (SJ_sq (p0 := 8) (p1 := 10) (nN := 33) (nB := 0) (nC := 0) (SJ_istore_n (i := 2) (j := 2) (p0 := 8) (p1 := 9) (EJ_iconst (n := 0) (v := (nI 0)) (pc := 8) D_Reader_takeRules_8 (by decide +kernel)) D_Reader_takeRules_9 rfl)
 (SJ_loop (p0 := 10) (pB := 18) (pS := 27) (pE := 33) (CJ_lt' (off := 18) (tgt := 33) (p0 := 10) (p1 := 11) (p2 := 15) (EJ_iload_n (j := 2) (i := 2) (pc := 10) D_Reader_takeRules_10 rfl) (EJ_getI (t := 5) (c := 4) (kf := 6) (r := (RX4, TX4, 9)) (p0 := 11) (p1 := 12) (EJ_aload_n (j := 0) (i := 0) (pc := 11) D_Reader_takeRules_11 rfl) D_Reader_takeRules_12 ⟨rfl, rfl, by decide, q_152⟩ (fun _ _ => rfl)) D_Reader_takeRules_15 rfl)
 (SJ_oast (tv := 7) (cv := 6) (r := (RX6, TX6, 5)) (ws := [28]) (p0 := 18) (p1 := 19) (p2 := 20) (p3 := 26) (EJ_aload_n (j := 1) (i := 1) (pc := 18) D_Reader_takeRules_18 rfl) (EJ_iload_n (j := 2) (i := 2) (pc := 19) D_Reader_takeRules_19 rfl) (EJ_aald (p0 := 20) (p1 := 24) (p2 := 25) (EJ_getR (t := 5) (c := 4) (kf := 5) (r := (RX4, TX4, 9)) (p0 := 20) (p1 := 21) (EJ_aload_n (j := 0) (i := 0) (pc := 20) D_Reader_takeRules_20 rfl) D_Reader_takeRules_21 ⟨rfl, rfl, by decide, q_151⟩ (fun _ _ => rfl)) (EJ_iload_n (j := 2) (i := 2) (pc := 24) D_Reader_takeRules_24 rfl) D_Reader_takeRules_25 (Or.inl ⟨_, rfl⟩)) D_Reader_takeRules_26 rfl rfl rfl (show ∀ x_ ∈ ([28] : List Nat), x_ ∈ ([28] : List Nat) from by decide))
 (SJ_post (SJ_iinc (i := 2) (n := 1) (v := (nI 1)) (pc := 27) D_Reader_takeRules_27 (by decide +kernel)) (Lead.goto (K := K_Reader_takeRules) (pc := 30) (tgt := 10) D_Reader_takeRules_30 rfl))))
 (SJ_ret (p0 := 33) (p1 := 34) (EJ_aload_n (j := 1) (i := 1) (pc := 33) D_Reader_takeRules_33 rfl) D_Reader_takeRules_34)))
 (RTm_ref (Or.inr ⟨_, rfl⟩)) q_514 (by decide +kernel) rfl (fun h => by cases h) (show 3 ≤ 40 from by decide) (fun _ => trivial)
