/-! the program: part 1 -/
theorem D_Upper_bitsOf_0 : decode cX10_bitsOf 0 = .ok (.iconst (0), 1) := by decide +kernel
theorem D_Upper_bitsOf_1 : decode cX10_bitsOf 1 = .ok (.istore_n 1, 1) := by decide +kernel
theorem D_Upper_bitsOf_2 : decode cX10_bitsOf 2 = .ok (.aload_n 0, 1) := by decide +kernel
theorem D_Upper_bitsOf_3 : decode cX10_bitsOf 3 = .ok (.astore_n 2, 1) := by decide +kernel
theorem D_Upper_bitsOf_4 : decode cX10_bitsOf 4 = .ok (.aload_n 2, 1) := by decide +kernel
theorem D_Upper_bitsOf_5 : decode cX10_bitsOf 5 = .ok (.arraylength, 1) := by decide +kernel
theorem D_Upper_bitsOf_6 : decode cX10_bitsOf 6 = .ok (.istore_n 3, 1) := by decide +kernel
theorem D_Upper_bitsOf_7 : decode cX10_bitsOf 7 = .ok (.iconst (0), 1) := by decide +kernel
theorem D_Upper_bitsOf_8 : decode cX10_bitsOf 8 = .ok (.istore 4, 2) := by decide +kernel
theorem D_Upper_bitsOf_10 : decode cX10_bitsOf 10 = .ok (.iload 4, 2) := by decide +kernel
theorem D_Upper_bitsOf_12 : decode cX10_bitsOf 12 = .ok (.iload_n 3, 1) := by decide +kernel
theorem D_Upper_bitsOf_13 : decode cX10_bitsOf 13 = .ok (.if_icmp .ge (36), 3) := by decide +kernel
theorem D_Upper_bitsOf_16 : decode cX10_bitsOf 16 = .ok (.aload_n 2, 1) := by decide +kernel
theorem D_Upper_bitsOf_17 : decode cX10_bitsOf 17 = .ok (.iload 4, 2) := by decide +kernel
theorem D_Upper_bitsOf_19 : decode cX10_bitsOf 19 = .ok (.iaload, 1) := by decide +kernel
theorem D_Upper_bitsOf_20 : decode cX10_bitsOf 20 = .ok (.istore 5, 2) := by decide +kernel
theorem D_Upper_bitsOf_22 : decode cX10_bitsOf 22 = .ok (.iload_n 1, 1) := by decide +kernel
theorem D_Upper_bitsOf_23 : decode cX10_bitsOf 23 = .ok (.iload 5, 2) := by decide +kernel
theorem D_Upper_bitsOf_25 : decode cX10_bitsOf 25 = .ok (.bipush (32), 2) := by decide +kernel
theorem D_Upper_bitsOf_27 : decode cX10_bitsOf 27 = .ok (.if_icmp .ge (7), 3) := by decide +kernel
theorem D_Upper_bitsOf_30 : decode cX10_bitsOf 30 = .ok (.iconst (0), 1) := by decide +kernel
theorem D_Upper_bitsOf_31 : decode cX10_bitsOf 31 = .ok (.goto (10), 3) := by decide +kernel
theorem D_Upper_bitsOf_34 : decode cX10_bitsOf 34 = .ok (.iconst (1), 1) := by decide +kernel
theorem D_Upper_bitsOf_35 : decode cX10_bitsOf 35 = .ok (.iload 5, 2) := by decide +kernel
theorem D_Upper_bitsOf_37 : decode cX10_bitsOf 37 = .ok (.bipush (32), 2) := by decide +kernel
theorem D_Upper_bitsOf_39 : decode cX10_bitsOf 39 = .ok (.isub, 1) := by decide +kernel
theorem D_Upper_bitsOf_40 : decode cX10_bitsOf 40 = .ok (.ishl, 1) := by decide +kernel
theorem D_Upper_bitsOf_41 : decode cX10_bitsOf 41 = .ok (.ior, 1) := by decide +kernel
theorem D_Upper_bitsOf_42 : decode cX10_bitsOf 42 = .ok (.istore_n 1, 1) := by decide +kernel
theorem D_Upper_bitsOf_43 : decode cX10_bitsOf 43 = .ok (.iinc 4 (1), 3) := by decide +kernel
theorem D_Upper_bitsOf_46 : decode cX10_bitsOf 46 = .ok (.goto (-36), 3) := by decide +kernel
theorem D_Upper_bitsOf_49 : decode cX10_bitsOf 49 = .ok (.iload_n 1, 1) := by decide +kernel
theorem D_Upper_bitsOf_50 : decode cX10_bitsOf 50 = .ok (.ireturn, 1) := by decide +kernel
def K_Upper_bitsOf : SC := (cX10_bitsOf, "TwoLevels$Upper", 6, 1, false, [], NoQ)
def d_Upper_bitsOf : MD Int32 := mth tt 6 (sq (sI1 1 (eC (nI 0)))
 (sq (sq (sR1 2 (lR 0))
 (sq (sI1 3 (eh1 aL (lR 2)))
 (sq (sI1 4 (eC (nI 0)))
 (loop (eh2 c_lt (lI 4) (lI 3))
 (sq (sI1 5 (eh2 (aI .int) (lR 2) (lI 4)))
 (sI1 1 (eh2 iorF (lI 1) (eIf (eh2 c_lt (lI 5) (eC (nI 32))) (eC (nI 0)) (eh2 ishlF (eC (nI 1)) (eh2 isubF (lI 5) (eC (nI 32))))))))
 (sInc 4 (nI 1))))))
 (rtn (lI 1))))
theorem m_Upper_bitsOf : MJ 1 [] yX10_bitsOf (some .int) eI (d_Upper_bitsOf) := MJ_of (K := K_Upper_bitsOf) (ri := .ireturn) (n1 := 0) (n2 := 0) (n3 := 0)
 (SJ_sq (p0 := 0) (p1 := 2) (nN := 0) (nB := 0) (nC := 0) (SJ_istore_n (i := 1) (j := 1) (p0 := 0) (p1 := 1) (EJ_iconst (n := 0) (v := (nI 0)) (pc := 0) D_Upper_bitsOf_0 (by decide +kernel)) D_Upper_bitsOf_1 rfl)
 (SJ_sq (p0 := 2) (p1 := 49) (nN := 0) (nB := 0) (nC := 0) (SJ_sq (p0 := 2) (p1 := 4) (nN := 49) (nB := 0) (nC := 0) (SJ_astore_n (i := 2) (j := 2) (p0 := 2) (p1 := 3) (EJ_aload_n (j := 0) (i := 0) (pc := 2) D_Upper_bitsOf_2 rfl) D_Upper_bitsOf_3 rfl)
 (SJ_sq (p0 := 4) (p1 := 7) (nN := 49) (nB := 0) (nC := 0) (SJ_istore_n (i := 3) (j := 3) (p0 := 4) (p1 := 6) (EJ_alen (p0 := 4) (p1 := 5) (EJ_aload_n (j := 2) (i := 2) (pc := 4) D_Upper_bitsOf_4 rfl) D_Upper_bitsOf_5) D_Upper_bitsOf_6 rfl)
 (SJ_sq (p0 := 7) (p1 := 10) (nN := 49) (nB := 0) (nC := 0) (SJ_istore (i := 4) (p0 := 7) (p1 := 8) (EJ_iconst (n := 0) (v := (nI 0)) (pc := 7) D_Upper_bitsOf_7 (by decide +kernel)) D_Upper_bitsOf_8)
 (SJ_loop (p0 := 10) (pB := 16) (pS := 43) (pE := 49) (CJ_lt' (off := 36) (tgt := 49) (p0 := 10) (p1 := 12) (p2 := 13) (EJ_iload (i := 4) (pc := 10) D_Upper_bitsOf_10) (EJ_iload_n (j := 3) (i := 3) (pc := 12) D_Upper_bitsOf_12 rfl) D_Upper_bitsOf_13 rfl)
 (SJ_sq (p0 := 16) (p1 := 22) (nN := 43) (nB := 49) (nC := 43) (SJ_istore (i := 5) (p0 := 16) (p1 := 20) (EJ_iald (p0 := 16) (p1 := 17) (p2 := 19) (EJ_aload_n (j := 2) (i := 2) (pc := 16) D_Upper_bitsOf_16 rfl) (EJ_iload (i := 4) (pc := 17) D_Upper_bitsOf_17) D_Upper_bitsOf_19) D_Upper_bitsOf_20)
 (SJ_istore_n (i := 1) (j := 1) (p0 := 22) (p1 := 42) (EJ_ior (p0 := 22) (p1 := 23) (p2 := 41) (EJ_iload_n (j := 1) (i := 1) (pc := 22) D_Upper_bitsOf_22 rfl) (EJ_if (p0 := 23) (pT := 30) (pF := 34) (pE := 31) (p1 := 41) (CJ_lt' (off := 7) (tgt := 34) (p0 := 23) (p1 := 25) (p2 := 27) (EJ_iload (i := 5) (pc := 23) D_Upper_bitsOf_23) (EJ_bipush (n := 32) (v := (nI 32)) (pc := 25) D_Upper_bitsOf_25 (by decide +kernel)) D_Upper_bitsOf_27 rfl) (EJ_iconst (n := 0) (v := (nI 0)) (pc := 30) D_Upper_bitsOf_30 (by decide +kernel)) (Lead.goto (K := K_Upper_bitsOf) (pc := 31) (tgt := 41) D_Upper_bitsOf_31 rfl) (EJ_ishl (p0 := 34) (p1 := 35) (p2 := 40) (EJ_iconst (n := 1) (v := (nI 1)) (pc := 34) D_Upper_bitsOf_34 (by decide +kernel)) (EJ_isub (p0 := 35) (p1 := 37) (p2 := 39) (EJ_iload (i := 5) (pc := 35) D_Upper_bitsOf_35) (EJ_bipush (n := 32) (v := (nI 32)) (pc := 37) D_Upper_bitsOf_37 (by decide +kernel)) D_Upper_bitsOf_39) D_Upper_bitsOf_40)) D_Upper_bitsOf_41) D_Upper_bitsOf_42 rfl))
 (SJ_post (SJ_iinc (i := 4) (n := 1) (v := (nI 1)) (pc := 43) D_Upper_bitsOf_43 (by decide +kernel)) (Lead.goto (K := K_Upper_bitsOf) (pc := 46) (tgt := 10) D_Upper_bitsOf_46 rfl))))))
 (SJ_ret (p0 := 49) (p1 := 50) (EJ_iload_n (j := 1) (i := 1) (pc := 49) D_Upper_bitsOf_49 rfl) D_Upper_bitsOf_50)))
 RTm_int q_387 (by decide +kernel) rfl (fun h => by cases h) (show 6 ≤ 40 from by decide) (fun _ => trivial)
theorem D_Choice_addMember_0 : decode cX0_addMember 0 = .ok (.aload_n 0, 1) := by decide +kernel
theorem D_Choice_addMember_1 : decode cX0_addMember 1 = .ok (.getfield 38, 3) := by decide +kernel
theorem D_Choice_addMember_4 : decode cX0_addMember 4 = .ok (.iconst (4), 1) := by decide +kernel
theorem D_Choice_addMember_5 : decode cX0_addMember 5 = .ok (.if_icmp .ge (88), 3) := by decide +kernel
theorem D_Choice_addMember_8 : decode cX0_addMember 8 = .ok (.aload_n 0, 1) := by decide +kernel
theorem D_Choice_addMember_9 : decode cX0_addMember 9 = .ok (.getfield 13, 3) := by decide +kernel
theorem D_Choice_addMember_12 : decode cX0_addMember 12 = .ok (.aload_n 0, 1) := by decide +kernel
theorem D_Choice_addMember_13 : decode cX0_addMember 13 = .ok (.getfield 38, 3) := by decide +kernel
theorem D_Choice_addMember_16 : decode cX0_addMember 16 = .ok (.aload_n 1, 1) := by decide +kernel
theorem D_Choice_addMember_17 : decode cX0_addMember 17 = .ok (.aastore, 1) := by decide +kernel
theorem D_Choice_addMember_18 : decode cX0_addMember 18 = .ok (.aload_n 0, 1) := by decide +kernel
theorem D_Choice_addMember_19 : decode cX0_addMember 19 = .ok (.dup, 1) := by decide +kernel
theorem D_Choice_addMember_20 : decode cX0_addMember 20 = .ok (.getfield 41, 3) := by decide +kernel
theorem D_Choice_addMember_23 : decode cX0_addMember 23 = .ok (.iload_n 2, 1) := by decide +kernel
theorem D_Choice_addMember_24 : decode cX0_addMember 24 = .ok (.ifCond .eq (12), 3) := by decide +kernel
theorem D_Choice_addMember_27 : decode cX0_addMember 27 = .ok (.iconst (1), 1) := by decide +kernel
theorem D_Choice_addMember_28 : decode cX0_addMember 28 = .ok (.aload_n 0, 1) := by decide +kernel
theorem D_Choice_addMember_29 : decode cX0_addMember 29 = .ok (.getfield 38, 3) := by decide +kernel
theorem D_Choice_addMember_32 : decode cX0_addMember 32 = .ok (.ishl, 1) := by decide +kernel
theorem D_Choice_addMember_33 : decode cX0_addMember 33 = .ok (.goto (4), 3) := by decide +kernel
theorem D_Choice_addMember_36 : decode cX0_addMember 36 = .ok (.iconst (0), 1) := by decide +kernel
theorem D_Choice_addMember_37 : decode cX0_addMember 37 = .ok (.ior, 1) := by decide +kernel
theorem D_Choice_addMember_38 : decode cX0_addMember 38 = .ok (.putfield 41, 3) := by decide +kernel
theorem D_Choice_addMember_41 : decode cX0_addMember 41 = .ok (.aload_n 0, 1) := by decide +kernel
theorem D_Choice_addMember_42 : decode cX0_addMember 42 = .ok (.dup, 1) := by decide +kernel
theorem D_Choice_addMember_43 : decode cX0_addMember 43 = .ok (.getfield 44, 3) := by decide +kernel
theorem D_Choice_addMember_46 : decode cX0_addMember 46 = .ok (.aload_n 1, 1) := by decide +kernel
theorem D_Choice_addMember_47 : decode cX0_addMember 47 = .ok (.invokestatic 47, 3) := by decide +kernel
theorem D_Choice_addMember_50 : decode cX0_addMember 50 = .ok (.ior, 1) := by decide +kernel
theorem D_Choice_addMember_51 : decode cX0_addMember 51 = .ok (.putfield 44, 3) := by decide +kernel
theorem D_Choice_addMember_54 : decode cX0_addMember 54 = .ok (.aload_n 0, 1) := by decide +kernel
theorem D_Choice_addMember_55 : decode cX0_addMember 55 = .ok (.dup, 1) := by decide +kernel
theorem D_Choice_addMember_56 : decode cX0_addMember 56 = .ok (.getfield 51, 3) := by decide +kernel
theorem D_Choice_addMember_59 : decode cX0_addMember 59 = .ok (.iload_n 2, 1) := by decide +kernel
theorem D_Choice_addMember_60 : decode cX0_addMember 60 = .ok (.ifCond .eq (18), 3) := by decide +kernel
theorem D_Choice_addMember_63 : decode cX0_addMember 63 = .ok (.aload_n 0, 1) := by decide +kernel
theorem D_Choice_addMember_64 : decode cX0_addMember 64 = .ok (.getfield 51, 3) := by decide +kernel
theorem D_Choice_addMember_67 : decode cX0_addMember 67 = .ok (.aload_n 0, 1) := by decide +kernel
theorem D_Choice_addMember_68 : decode cX0_addMember 68 = .ok (.getfield 38, 3) := by decide +kernel
theorem D_Choice_addMember_71 : decode cX0_addMember 71 = .ok (.if_icmp .ne (7), 3) := by decide +kernel
theorem D_Choice_addMember_74 : decode cX0_addMember 74 = .ok (.iconst (1), 1) := by decide +kernel
theorem D_Choice_addMember_75 : decode cX0_addMember 75 = .ok (.goto (4), 3) := by decide +kernel
theorem D_Choice_addMember_78 : decode cX0_addMember 78 = .ok (.iconst (0), 1) := by decide +kernel
theorem D_Choice_addMember_79 : decode cX0_addMember 79 = .ok (.iadd, 1) := by decide +kernel
theorem D_Choice_addMember_80 : decode cX0_addMember 80 = .ok (.putfield 51, 3) := by decide +kernel
theorem D_Choice_addMember_83 : decode cX0_addMember 83 = .ok (.aload_n 0, 1) := by decide +kernel
theorem D_Choice_addMember_84 : decode cX0_addMember 84 = .ok (.dup, 1) := by decide +kernel
theorem D_Choice_addMember_85 : decode cX0_addMember 85 = .ok (.getfield 38, 3) := by decide +kernel
theorem D_Choice_addMember_88 : decode cX0_addMember 88 = .ok (.iconst (1), 1) := by decide +kernel
theorem D_Choice_addMember_89 : decode cX0_addMember 89 = .ok (.iadd, 1) := by decide +kernel
theorem D_Choice_addMember_90 : decode cX0_addMember 90 = .ok (.putfield 38, 3) := by decide +kernel
theorem D_Choice_addMember_93 : decode cX0_addMember 93 = .ok (.return_, 1) := by decide +kernel
def K_Choice_addMember : SC := (cX0_addMember, "TwoLevels$Choice", 3, 2, false, [1, 37], NoQ)
def d_Choice_addMember : MD Unit := mth tt 3 (sq (sIf (eh2 c_lt (eh1 (gI 1 2) (lR 0)) (eC (nI 4))) (sq (sh3 (stA [37]) (eh1 (gR 1 1) (lR 0)) (eh1 (gI 1 2) (lR 0)) (lR 1))
 (sq (su2 (gI 1 3) (uF false 1 3 (fun x y => x ||| y)) (lR 0) (eIf (eh1 z_ne (lI 2)) (eh2 ishlF (eC (nI 1)) (eh1 (gI 1 2) (lR 0))) (eC (nI 0))))
 (sq (su2 (gI 1 4) (uF false 1 4 (fun x y => x ||| y)) (lR 0) (kS d_Upper_bitsOf [vR (lR 1)]))
 (sq (su2 (gI 1 10) (uF false 1 10 (fun x y => x + y)) (lR 0) (eIf (cAnd (eh1 z_ne (lI 2)) (eh2 c_eq (eh1 (gI 1 10) (lR 0)) (eh1 (gI 1 2) (lR 0)))) (eC (nI 1)) (eC (nI 0))))
 (su2 (gI 1 2) (uF false 1 2 (fun x y => x + y)) (lR 0) (eC (nI 1))))))) sk)
 rtnU)
theorem m_Choice_addMember : MJ 2 [1, 37] yX0_addMember none eU (d_Choice_addMember) := MJ_of (K := K_Choice_addMember) (ri := .return_) (n1 := 0) (n2 := 0) (n3 := 0)
 (SJ_sq (p0 := 0) (p1 := 93) (nN := 0) (nB := 0) (nC := 0) (SJ_if (p0 := 0) (pT := 8) (pF := 93) (nN := 93) (nB := 0) (nC := 0) (CJ_lt' (off := 88) (tgt := 93) (p0 := 0) (p1 := 4) (p2 := 5) (EJ_getI (t := 1) (c := 0) (kf := 2) (r := (RX0, TX0, 11)) (p0 := 0) (p1 := 1) (EJ_aload_n (j := 0) (i := 0) (pc := 0) D_Choice_addMember_0 rfl) D_Choice_addMember_1 ⟨rfl, rfl, by decide, q_422⟩ (fun _ _ => rfl)) (EJ_iconst (n := 4) (v := (nI 4)) (pc := 4) D_Choice_addMember_4 (by decide +kernel)) D_Choice_addMember_5 rfl) (SJ_sq (p0 := 8) (p1 := 18) (nN := 93) (nB := 0) (nC := 0) (SJ_rast (ws := [37]) (p0 := 8) (p1 := 12) (p2 := 16) (p3 := 17) (EJ_getR (t := 1) (c := 0) (kf := 1) (r := (RX0, TX0, 11)) (p0 := 8) (p1 := 9) (EJ_aload_n (j := 0) (i := 0) (pc := 8) D_Choice_addMember_8 rfl) D_Choice_addMember_9 ⟨rfl, rfl, by decide, q_420⟩ (fun _ _ => rfl)) (EJ_getI (t := 1) (c := 0) (kf := 2) (r := (RX0, TX0, 11)) (p0 := 12) (p1 := 13) (EJ_aload_n (j := 0) (i := 0) (pc := 12) D_Choice_addMember_12 rfl) D_Choice_addMember_13 ⟨rfl, rfl, by decide, q_422⟩ (fun _ _ => rfl)) (EJ_aload_n (j := 1) (i := 1) (pc := 16) D_Choice_addMember_16 rfl) D_Choice_addMember_17 (show ∀ x_ ∈ ([37] : List Nat), x_ ∈ ([1, 37] : List Nat) from by decide))
 (SJ_sq (p0 := 18) (p1 := 41) (nN := 93) (nB := 0) (nC := 0) (SJ_upF (z := false) (t := 1) (c := 0) (kf := 3) (r := (RX0, TX0, 11)) (f := (fun x y => x ||| y)) (p0 := 18) (p1 := 19) (p3 := 37) (EJ_aload_n (j := 0) (i := 0) (pc := 18) D_Choice_addMember_18 rfl) D_Choice_addMember_19 D_Choice_addMember_20 (EJ_if (p0 := 23) (pT := 27) (pF := 36) (pE := 33) (p1 := 37) (CZ_ne' (off := 12) (tgt := 36) (p0 := 23) (p1 := 24) (EJ_iload_n (j := 2) (i := 2) (pc := 23) D_Choice_addMember_23 rfl) D_Choice_addMember_24 rfl) (EJ_ishl (p0 := 27) (p1 := 28) (p2 := 32) (EJ_iconst (n := 1) (v := (nI 1)) (pc := 27) D_Choice_addMember_27 (by decide +kernel)) (EJ_getI (t := 1) (c := 0) (kf := 2) (r := (RX0, TX0, 11)) (p0 := 28) (p1 := 29) (EJ_aload_n (j := 0) (i := 0) (pc := 28) D_Choice_addMember_28 rfl) D_Choice_addMember_29 ⟨rfl, rfl, by decide, q_422⟩ (fun _ _ => rfl)) D_Choice_addMember_32) (Lead.goto (K := K_Choice_addMember) (pc := 33) (tgt := 37) D_Choice_addMember_33 rfl) (EJ_iconst (n := 0) (v := (nI 0)) (pc := 36) D_Choice_addMember_36 (by decide +kernel))) (Op2_ior D_Choice_addMember_37) D_Choice_addMember_38 ⟨rfl, rfl, by decide, q_425⟩ ⟨rfl, rfl, by decide, q_425⟩ (Or.inl rfl) (fun _ _ => ⟨rfl, rfl⟩) (fun _ _ => rfl) (show (1 : Nat) ∈ ([1, 37] : List Nat) from by decide))
 (SJ_sq (p0 := 41) (p1 := 54) (nN := 93) (nB := 0) (nC := 0) (SJ_upF (z := false) (t := 1) (c := 0) (kf := 4) (r := (RX0, TX0, 11)) (f := (fun x y => x ||| y)) (p0 := 41) (p1 := 42) (p3 := 50) (EJ_aload_n (j := 0) (i := 0) (pc := 41) D_Choice_addMember_41 rfl) D_Choice_addMember_42 D_Choice_addMember_43 (EJ_callS (p0 := 46) (p1 := 47) (AJ_R (p0 := 46) (p1 := 47) (p2 := 47) (EJ_aload_n (j := 1) (i := 1) (pc := 46) D_Choice_addMember_46 rfl) AJ_nil) m_Upper_bitsOf E1_I D_Choice_addMember_47 q_462 q_386 q_93 ⟨by decide +kernel, by decide +kernel, by decide +kernel⟩ (by decide) (show 1 + 1 ≤ 2 from by decide) (fun _ h => absurd h List.not_mem_nil)) (Op2_ior D_Choice_addMember_50) D_Choice_addMember_51 ⟨rfl, rfl, by decide, q_428⟩ ⟨rfl, rfl, by decide, q_428⟩ (Or.inl rfl) (fun _ _ => ⟨rfl, rfl⟩) (fun _ _ => rfl) (show (1 : Nat) ∈ ([1, 37] : List Nat) from by decide))
 (SJ_sq (p0 := 54) (p1 := 83) (nN := 93) (nB := 0) (nC := 0) (SJ_upF (z := false) (t := 1) (c := 0) (kf := 10) (r := (RX0, TX0, 11)) (f := (fun x y => x + y)) (p0 := 54) (p1 := 55) (p3 := 79) (EJ_aload_n (j := 0) (i := 0) (pc := 54) D_Choice_addMember_54 rfl) D_Choice_addMember_55 D_Choice_addMember_56 (EJ_if (p0 := 59) (pT := 74) (pF := 78) (pE := 75) (p1 := 79) (CJ_and (p0 := 59) (pM := 63) (pT := 74) (pF := 78) (CZ_ne' (off := 18) (tgt := 78) (p0 := 59) (p1 := 60) (EJ_iload_n (j := 2) (i := 2) (pc := 59) D_Choice_addMember_59 rfl) D_Choice_addMember_60 rfl) (CJ_eq' (off := 7) (tgt := 78) (p0 := 63) (p1 := 67) (p2 := 71) (EJ_getI (t := 1) (c := 0) (kf := 10) (r := (RX0, TX0, 11)) (p0 := 63) (p1 := 64) (EJ_aload_n (j := 0) (i := 0) (pc := 63) D_Choice_addMember_63 rfl) D_Choice_addMember_64 ⟨rfl, rfl, by decide, q_439⟩ (fun _ _ => rfl)) (EJ_getI (t := 1) (c := 0) (kf := 2) (r := (RX0, TX0, 11)) (p0 := 67) (p1 := 68) (EJ_aload_n (j := 0) (i := 0) (pc := 67) D_Choice_addMember_67 rfl) D_Choice_addMember_68 ⟨rfl, rfl, by decide, q_422⟩ (fun _ _ => rfl)) D_Choice_addMember_71 rfl)) (EJ_iconst (n := 1) (v := (nI 1)) (pc := 74) D_Choice_addMember_74 (by decide +kernel)) (Lead.goto (K := K_Choice_addMember) (pc := 75) (tgt := 79) D_Choice_addMember_75 rfl) (EJ_iconst (n := 0) (v := (nI 0)) (pc := 78) D_Choice_addMember_78 (by decide +kernel))) (Op2_iadd D_Choice_addMember_79) D_Choice_addMember_80 ⟨rfl, rfl, by decide, q_439⟩ ⟨rfl, rfl, by decide, q_439⟩ (Or.inl rfl) (fun _ _ => ⟨rfl, rfl⟩) (fun _ _ => rfl) (show (1 : Nat) ∈ ([1, 37] : List Nat) from by decide))
 (SJ_upF (z := false) (t := 1) (c := 0) (kf := 2) (r := (RX0, TX0, 11)) (f := (fun x y => x + y)) (p0 := 83) (p1 := 84) (p3 := 89) (EJ_aload_n (j := 0) (i := 0) (pc := 83) D_Choice_addMember_83 rfl) D_Choice_addMember_84 D_Choice_addMember_85 (EJ_iconst (n := 1) (v := (nI 1)) (pc := 88) D_Choice_addMember_88 (by decide +kernel)) (Op2_iadd D_Choice_addMember_89) D_Choice_addMember_90 ⟨rfl, rfl, by decide, q_422⟩ ⟨rfl, rfl, by decide, q_422⟩ (Or.inl rfl) (fun _ _ => ⟨rfl, rfl⟩) (fun _ _ => rfl) (show (1 : Nat) ∈ ([1, 37] : List Nat) from by decide)))))) SJ_sk)
 (SJ_retU (pc := 93) D_Choice_addMember_93))
 RTm_void q_461 (by decide +kernel) rfl (fun h => by cases h) (show 3 ≤ 40 from by decide) (fun _ => trivial)
theorem D_Choice_admits_0 : decode cX0_admits 0 = .ok (.iload_n 1, 1) := by decide +kernel
theorem D_Choice_admits_1 : decode cX0_admits 1 = .ok (.bipush (32), 2) := by decide +kernel
theorem D_Choice_admits_3 : decode cX0_admits 3 = .ok (.if_icmp .ge (7), 3) := by decide +kernel
theorem D_Choice_admits_6 : decode cX0_admits 6 = .ok (.iconst (0), 1) := by decide +kernel
theorem D_Choice_admits_7 : decode cX0_admits 7 = .ok (.goto (9), 3) := by decide +kernel
theorem D_Choice_admits_10 : decode cX0_admits 10 = .ok (.iconst (1), 1) := by decide +kernel
theorem D_Choice_admits_11 : decode cX0_admits 11 = .ok (.iload_n 1, 1) := by decide +kernel
theorem D_Choice_admits_12 : decode cX0_admits 12 = .ok (.bipush (32), 2) := by decide +kernel
theorem D_Choice_admits_14 : decode cX0_admits 14 = .ok (.isub, 1) := by decide +kernel
theorem D_Choice_admits_15 : decode cX0_admits 15 = .ok (.ishl, 1) := by decide +kernel
theorem D_Choice_admits_16 : decode cX0_admits 16 = .ok (.istore_n 3, 1) := by decide +kernel
theorem D_Choice_admits_17 : decode cX0_admits 17 = .ok (.iload_n 3, 1) := by decide +kernel
theorem D_Choice_admits_18 : decode cX0_admits 18 = .ok (.aload_n 0, 1) := by decide +kernel
theorem D_Choice_admits_19 : decode cX0_admits 19 = .ok (.getfield 26, 3) := by decide +kernel
theorem D_Choice_admits_22 : decode cX0_admits 22 = .ok (.iconst (-1), 1) := by decide +kernel
theorem D_Choice_admits_23 : decode cX0_admits 23 = .ok (.ixor, 1) := by decide +kernel
theorem D_Choice_admits_24 : decode cX0_admits 24 = .ok (.iand, 1) := by decide +kernel
theorem D_Choice_admits_25 : decode cX0_admits 25 = .ok (.aload_n 0, 1) := by decide +kernel
theorem D_Choice_admits_26 : decode cX0_admits 26 = .ok (.getfield 32, 3) := by decide +kernel
theorem D_Choice_admits_29 : decode cX0_admits 29 = .ok (.iconst (-1), 1) := by decide +kernel
theorem D_Choice_admits_30 : decode cX0_admits 30 = .ok (.ixor, 1) := by decide +kernel
theorem D_Choice_admits_31 : decode cX0_admits 31 = .ok (.iand, 1) := by decide +kernel
theorem D_Choice_admits_32 : decode cX0_admits 32 = .ok (.ifCond .ne (5), 3) := by decide +kernel
theorem D_Choice_admits_35 : decode cX0_admits 35 = .ok (.iconst (1), 1) := by decide +kernel
theorem D_Choice_admits_36 : decode cX0_admits 36 = .ok (.ireturn, 1) := by decide +kernel
theorem D_Choice_admits_37 : decode cX0_admits 37 = .ok (.aload_n 0, 1) := by decide +kernel
theorem D_Choice_admits_38 : decode cX0_admits 38 = .ok (.getfield 35, 3) := by decide +kernel
theorem D_Choice_admits_41 : decode cX0_admits 41 = .ok (.iconst (2), 1) := by decide +kernel
theorem D_Choice_admits_42 : decode cX0_admits 42 = .ok (.if_icmp .ne (5), 3) := by decide +kernel
theorem D_Choice_admits_45 : decode cX0_admits 45 = .ok (.iconst (0), 1) := by decide +kernel
theorem D_Choice_admits_46 : decode cX0_admits 46 = .ok (.ireturn, 1) := by decide +kernel
theorem D_Choice_admits_47 : decode cX0_admits 47 = .ok (.aload_n 0, 1) := by decide +kernel
theorem D_Choice_admits_48 : decode cX0_admits 48 = .ok (.getfield 17, 3) := by decide +kernel
theorem D_Choice_admits_51 : decode cX0_admits 51 = .ok (.aload_n 0, 1) := by decide +kernel
theorem D_Choice_admits_52 : decode cX0_admits 52 = .ok (.getfield 35, 3) := by decide +kernel
theorem D_Choice_admits_55 : decode cX0_admits 55 = .ok (.iload_n 1, 1) := by decide +kernel
theorem D_Choice_admits_56 : decode cX0_admits 56 = .ok (.bipush (32), 2) := by decide +kernel
theorem D_Choice_admits_58 : decode cX0_admits 58 = .ok (.isub, 1) := by decide +kernel
theorem D_Choice_admits_59 : decode cX0_admits 59 = .ok (.iastore, 1) := by decide +kernel
theorem D_Choice_admits_60 : decode cX0_admits 60 = .ok (.aload_n 0, 1) := by decide +kernel
theorem D_Choice_admits_61 : decode cX0_admits 61 = .ok (.getfield 20, 3) := by decide +kernel
theorem D_Choice_admits_64 : decode cX0_admits 64 = .ok (.aload_n 0, 1) := by decide +kernel
theorem D_Choice_admits_65 : decode cX0_admits 65 = .ok (.getfield 35, 3) := by decide +kernel
theorem D_Choice_admits_68 : decode cX0_admits 68 = .ok (.aload_n 0, 1) := by decide +kernel
theorem D_Choice_admits_69 : decode cX0_admits 69 = .ok (.getfield 38, 3) := by decide +kernel
theorem D_Choice_admits_72 : decode cX0_admits 72 = .ok (.iastore, 1) := by decide +kernel
theorem D_Choice_admits_73 : decode cX0_admits 73 = .ok (.aload_n 0, 1) := by decide +kernel
theorem D_Choice_admits_74 : decode cX0_admits 74 = .ok (.getfield 23, 3) := by decide +kernel
theorem D_Choice_admits_77 : decode cX0_admits 77 = .ok (.aload_n 0, 1) := by decide +kernel
theorem D_Choice_admits_78 : decode cX0_admits 78 = .ok (.getfield 35, 3) := by decide +kernel
theorem D_Choice_admits_81 : decode cX0_admits 81 = .ok (.iload_n 2, 1) := by decide +kernel
theorem D_Choice_admits_82 : decode cX0_admits 82 = .ok (.iastore, 1) := by decide +kernel
theorem D_Choice_admits_83 : decode cX0_admits 83 = .ok (.aload_n 0, 1) := by decide +kernel
theorem D_Choice_admits_84 : decode cX0_admits 84 = .ok (.dup, 1) := by decide +kernel
theorem D_Choice_admits_85 : decode cX0_admits 85 = .ok (.getfield 35, 3) := by decide +kernel
theorem D_Choice_admits_88 : decode cX0_admits 88 = .ok (.iconst (1), 1) := by decide +kernel
theorem D_Choice_admits_89 : decode cX0_admits 89 = .ok (.iadd, 1) := by decide +kernel
theorem D_Choice_admits_90 : decode cX0_admits 90 = .ok (.putfield 35, 3) := by decide +kernel
theorem D_Choice_admits_93 : decode cX0_admits 93 = .ok (.aload_n 0, 1) := by decide +kernel
theorem D_Choice_admits_94 : decode cX0_admits 94 = .ok (.dup, 1) := by decide +kernel
theorem D_Choice_admits_95 : decode cX0_admits 95 = .ok (.getfield 32, 3) := by decide +kernel
theorem D_Choice_admits_98 : decode cX0_admits 98 = .ok (.iload_n 3, 1) := by decide +kernel
theorem D_Choice_admits_99 : decode cX0_admits 99 = .ok (.ior, 1) := by decide +kernel
theorem D_Choice_admits_100 : decode cX0_admits 100 = .ok (.putfield 32, 3) := by decide +kernel
theorem D_Choice_admits_103 : decode cX0_admits 103 = .ok (.iconst (1), 1) := by decide +kernel
theorem D_Choice_admits_104 : decode cX0_admits 104 = .ok (.ireturn, 1) := by decide +kernel
def K_Choice_admits : SC := (cX0_admits, "TwoLevels$Choice", 4, 1, false, [1, 38, 53, 54], NoQ)
def d_Choice_admits : MD Int32 := mth zz 4 (sq (sI1 3 (eIf (eh2 c_lt (lI 1) (eC (nI 32))) (eC (nI 0)) (eh2 ishlF (eC (nI 1)) (eh2 isubF (lI 1) (eC (nI 32))))))
 (sq (sIf (eh1 z_eq (eh2 iandF (eh2 iandF (lI 3) (eh2 ixorF (eh1 (gI 1 0) (lR 0)) (eC (-1)))) (eh2 ixorF (eh1 (gI 1 7) (lR 0)) (eC (-1))))) (rtn (eC (nI 1))) sk)
 (sq (sIf (eh2 c_eq (eh1 (gI 1 6) (lR 0)) (eC (nI 2))) (rtn (eC (nI 0))) sk)
 (sq (sh3 (stI [38]) (eh1 (gR 1 5) (lR 0)) (eh1 (gI 1 6) (lR 0)) (eh2 isubF (lI 1) (eC (nI 32))))
 (sq (sh3 (stI [53]) (eh1 (gR 1 8) (lR 0)) (eh1 (gI 1 6) (lR 0)) (eh1 (gI 1 2) (lR 0)))
 (sq (sh3 (stI [54]) (eh1 (gR 1 9) (lR 0)) (eh1 (gI 1 6) (lR 0)) (lI 2))
 (sq (su2 (gI 1 6) (uF false 1 6 (fun x y => x + y)) (lR 0) (eC (nI 1)))
 (sq (su2 (gI 1 7) (uF false 1 7 (fun x y => x ||| y)) (lR 0) (lI 3))
 (rtn (eC (nI 1)))))))))))
theorem m_Choice_admits : MJ 1 [1, 38, 53, 54] yX0_admits (some .boolean) eI (d_Choice_admits) := MJ_of (K := K_Choice_admits) (ri := .ireturn) (n1 := 0) (n2 := 0) (n3 := 0)
 (SJ_sq (p0 := 0) (p1 := 17) (nN := 0) (nB := 0) (nC := 0) (SJ_istore_n (i := 3) (j := 3) (p0 := 0) (p1 := 16) (EJ_if (p0 := 0) (pT := 6) (pF := 10) (pE := 7) (p1 := 16) (CJ_lt' (off := 7) (tgt := 10) (p0 := 0) (p1 := 1) (p2 := 3) (EJ_iload_n (j := 1) (i := 1) (pc := 0) D_Choice_admits_0 rfl) (EJ_bipush (n := 32) (v := (nI 32)) (pc := 1) D_Choice_admits_1 (by decide +kernel)) D_Choice_admits_3 rfl) (EJ_iconst (n := 0) (v := (nI 0)) (pc := 6) D_Choice_admits_6 (by decide +kernel)) (Lead.goto (K := K_Choice_admits) (pc := 7) (tgt := 16) D_Choice_admits_7 rfl) (EJ_ishl (p0 := 10) (p1 := 11) (p2 := 15) (EJ_iconst (n := 1) (v := (nI 1)) (pc := 10) D_Choice_admits_10 (by decide +kernel)) (EJ_isub (p0 := 11) (p1 := 12) (p2 := 14) (EJ_iload_n (j := 1) (i := 1) (pc := 11) D_Choice_admits_11 rfl) (EJ_bipush (n := 32) (v := (nI 32)) (pc := 12) D_Choice_admits_12 (by decide +kernel)) D_Choice_admits_14) D_Choice_admits_15)) D_Choice_admits_16 rfl)
 (SJ_sq (p0 := 17) (p1 := 37) (nN := 0) (nB := 0) (nC := 0) (SJ_if (p0 := 17) (pT := 35) (pF := 37) (nN := 37) (nB := 0) (nC := 0) (CZ_eq' (off := 5) (tgt := 37) (p0 := 17) (p1 := 32) (EJ_iand (p0 := 17) (p1 := 25) (p2 := 31) (EJ_iand (p0 := 17) (p1 := 18) (p2 := 24) (EJ_iload_n (j := 3) (i := 3) (pc := 17) D_Choice_admits_17 rfl) (EJ_ixor (p0 := 18) (p1 := 22) (p2 := 23) (EJ_getI (t := 1) (c := 0) (kf := 0) (r := (RX0, TX0, 11)) (p0 := 18) (p1 := 19) (EJ_aload_n (j := 0) (i := 0) (pc := 18) D_Choice_admits_18 rfl) D_Choice_admits_19 ⟨rfl, rfl, by decide, q_419⟩ (fun _ _ => rfl)) (EJ_iconst (n := -1) (v := (-1)) (pc := 22) D_Choice_admits_22 (by decide +kernel)) D_Choice_admits_23) D_Choice_admits_24) (EJ_ixor (p0 := 25) (p1 := 29) (p2 := 30) (EJ_getI (t := 1) (c := 0) (kf := 7) (r := (RX0, TX0, 11)) (p0 := 25) (p1 := 26) (EJ_aload_n (j := 0) (i := 0) (pc := 25) D_Choice_admits_25 rfl) D_Choice_admits_26 ⟨rfl, rfl, by decide, q_433⟩ (fun _ _ => rfl)) (EJ_iconst (n := -1) (v := (-1)) (pc := 29) D_Choice_admits_29 (by decide +kernel)) D_Choice_admits_30) D_Choice_admits_31) D_Choice_admits_32 rfl) (SJ_ret (p0 := 35) (p1 := 36) (EJ_iconst (n := 1) (v := (nI 1)) (pc := 35) D_Choice_admits_35 (by decide +kernel)) D_Choice_admits_36) SJ_sk)
 (SJ_sq (p0 := 37) (p1 := 47) (nN := 0) (nB := 0) (nC := 0) (SJ_if (p0 := 37) (pT := 45) (pF := 47) (nN := 47) (nB := 0) (nC := 0) (CJ_eq' (off := 5) (tgt := 47) (p0 := 37) (p1 := 41) (p2 := 42) (EJ_getI (t := 1) (c := 0) (kf := 6) (r := (RX0, TX0, 11)) (p0 := 37) (p1 := 38) (EJ_aload_n (j := 0) (i := 0) (pc := 37) D_Choice_admits_37 rfl) D_Choice_admits_38 ⟨rfl, rfl, by decide, q_431⟩ (fun _ _ => rfl)) (EJ_iconst (n := 2) (v := (nI 2)) (pc := 41) D_Choice_admits_41 (by decide +kernel)) D_Choice_admits_42 rfl) (SJ_ret (p0 := 45) (p1 := 46) (EJ_iconst (n := 0) (v := (nI 0)) (pc := 45) D_Choice_admits_45 (by decide +kernel)) D_Choice_admits_46) SJ_sk)
 (SJ_sq (p0 := 47) (p1 := 60) (nN := 0) (nB := 0) (nC := 0) (SJ_iast (ws := [38]) (p0 := 47) (p1 := 51) (p2 := 55) (p3 := 59) (EJ_getR (t := 1) (c := 0) (kf := 5) (r := (RX0, TX0, 11)) (p0 := 47) (p1 := 48) (EJ_aload_n (j := 0) (i := 0) (pc := 47) D_Choice_admits_47 rfl) D_Choice_admits_48 ⟨rfl, rfl, by decide, q_429⟩ (fun _ _ => rfl)) (EJ_getI (t := 1) (c := 0) (kf := 6) (r := (RX0, TX0, 11)) (p0 := 51) (p1 := 52) (EJ_aload_n (j := 0) (i := 0) (pc := 51) D_Choice_admits_51 rfl) D_Choice_admits_52 ⟨rfl, rfl, by decide, q_431⟩ (fun _ _ => rfl)) (EJ_isub (p0 := 55) (p1 := 56) (p2 := 58) (EJ_iload_n (j := 1) (i := 1) (pc := 55) D_Choice_admits_55 rfl) (EJ_bipush (n := 32) (v := (nI 32)) (pc := 56) D_Choice_admits_56 (by decide +kernel)) D_Choice_admits_58) D_Choice_admits_59 (show ∀ x_ ∈ ([38] : List Nat), x_ ∈ ([1, 38, 53, 54] : List Nat) from by decide))
 (SJ_sq (p0 := 60) (p1 := 73) (nN := 0) (nB := 0) (nC := 0) (SJ_iast (ws := [53]) (p0 := 60) (p1 := 64) (p2 := 68) (p3 := 72) (EJ_getR (t := 1) (c := 0) (kf := 8) (r := (RX0, TX0, 11)) (p0 := 60) (p1 := 61) (EJ_aload_n (j := 0) (i := 0) (pc := 60) D_Choice_admits_60 rfl) D_Choice_admits_61 ⟨rfl, rfl, by decide, q_435⟩ (fun _ _ => rfl)) (EJ_getI (t := 1) (c := 0) (kf := 6) (r := (RX0, TX0, 11)) (p0 := 64) (p1 := 65) (EJ_aload_n (j := 0) (i := 0) (pc := 64) D_Choice_admits_64 rfl) D_Choice_admits_65 ⟨rfl, rfl, by decide, q_431⟩ (fun _ _ => rfl)) (EJ_getI (t := 1) (c := 0) (kf := 2) (r := (RX0, TX0, 11)) (p0 := 68) (p1 := 69) (EJ_aload_n (j := 0) (i := 0) (pc := 68) D_Choice_admits_68 rfl) D_Choice_admits_69 ⟨rfl, rfl, by decide, q_422⟩ (fun _ _ => rfl)) D_Choice_admits_72 (show ∀ x_ ∈ ([53] : List Nat), x_ ∈ ([1, 38, 53, 54] : List Nat) from by decide))
 (SJ_sq (p0 := 73) (p1 := 83) (nN := 0) (nB := 0) (nC := 0) (SJ_iast (ws := [54]) (p0 := 73) (p1 := 77) (p2 := 81) (p3 := 82) (EJ_getR (t := 1) (c := 0) (kf := 9) (r := (RX0, TX0, 11)) (p0 := 73) (p1 := 74) (EJ_aload_n (j := 0) (i := 0) (pc := 73) D_Choice_admits_73 rfl) D_Choice_admits_74 ⟨rfl, rfl, by decide, q_437⟩ (fun _ _ => rfl)) (EJ_getI (t := 1) (c := 0) (kf := 6) (r := (RX0, TX0, 11)) (p0 := 77) (p1 := 78) (EJ_aload_n (j := 0) (i := 0) (pc := 77) D_Choice_admits_77 rfl) D_Choice_admits_78 ⟨rfl, rfl, by decide, q_431⟩ (fun _ _ => rfl)) (EJ_iload_n (j := 2) (i := 2) (pc := 81) D_Choice_admits_81 rfl) D_Choice_admits_82 (show ∀ x_ ∈ ([54] : List Nat), x_ ∈ ([1, 38, 53, 54] : List Nat) from by decide))
 (SJ_sq (p0 := 83) (p1 := 93) (nN := 0) (nB := 0) (nC := 0) (SJ_upF (z := false) (t := 1) (c := 0) (kf := 6) (r := (RX0, TX0, 11)) (f := (fun x y => x + y)) (p0 := 83) (p1 := 84) (p3 := 89) (EJ_aload_n (j := 0) (i := 0) (pc := 83) D_Choice_admits_83 rfl) D_Choice_admits_84 D_Choice_admits_85 (EJ_iconst (n := 1) (v := (nI 1)) (pc := 88) D_Choice_admits_88 (by decide +kernel)) (Op2_iadd D_Choice_admits_89) D_Choice_admits_90 ⟨rfl, rfl, by decide, q_431⟩ ⟨rfl, rfl, by decide, q_431⟩ (Or.inl rfl) (fun _ _ => ⟨rfl, rfl⟩) (fun _ _ => rfl) (show (1 : Nat) ∈ ([1, 38, 53, 54] : List Nat) from by decide))
 (SJ_sq (p0 := 93) (p1 := 103) (nN := 0) (nB := 0) (nC := 0) (SJ_upF (z := false) (t := 1) (c := 0) (kf := 7) (r := (RX0, TX0, 11)) (f := (fun x y => x ||| y)) (p0 := 93) (p1 := 94) (p3 := 99) (EJ_aload_n (j := 0) (i := 0) (pc := 93) D_Choice_admits_93 rfl) D_Choice_admits_94 D_Choice_admits_95 (EJ_iload_n (j := 3) (i := 3) (pc := 98) D_Choice_admits_98 rfl) (Op2_ior D_Choice_admits_99) D_Choice_admits_100 ⟨rfl, rfl, by decide, q_433⟩ ⟨rfl, rfl, by decide, q_433⟩ (Or.inl rfl) (fun _ _ => ⟨rfl, rfl⟩) (fun _ _ => rfl) (show (1 : Nat) ∈ ([1, 38, 53, 54] : List Nat) from by decide))
 (SJ_ret (p0 := 103) (p1 := 104) (EJ_iconst (n := 1) (v := (nI 1)) (pc := 103) D_Choice_admits_103 (by decide +kernel)) D_Choice_admits_104)))))))))
 RTm_bool q_328 (by decide +kernel) rfl (fun h => by cases h) (show 4 ≤ 40 from by decide) (fun _ => trivial)
theorem D_Choice_freeAt_0 : decode cX0_freeAt 0 = .ok (.iconst (0), 1) := by decide +kernel
theorem D_Choice_freeAt_1 : decode cX0_freeAt 1 = .ok (.istore_n 2, 1) := by decide +kernel
theorem D_Choice_freeAt_2 : decode cX0_freeAt 2 = .ok (.iload_n 2, 1) := by decide +kernel
theorem D_Choice_freeAt_3 : decode cX0_freeAt 3 = .ok (.aload_n 0, 1) := by decide +kernel
theorem D_Choice_freeAt_4 : decode cX0_freeAt 4 = .ok (.getfield 35, 3) := by decide +kernel
theorem D_Choice_freeAt_7 : decode cX0_freeAt 7 = .ok (.if_icmp .ge (21), 3) := by decide +kernel
theorem D_Choice_freeAt_10 : decode cX0_freeAt 10 = .ok (.aload_n 0, 1) := by decide +kernel
theorem D_Choice_freeAt_11 : decode cX0_freeAt 11 = .ok (.getfield 17, 3) := by decide +kernel
theorem D_Choice_freeAt_14 : decode cX0_freeAt 14 = .ok (.iload_n 2, 1) := by decide +kernel
theorem D_Choice_freeAt_15 : decode cX0_freeAt 15 = .ok (.iaload, 1) := by decide +kernel
theorem D_Choice_freeAt_16 : decode cX0_freeAt 16 = .ok (.iload_n 1, 1) := by decide +kernel
theorem D_Choice_freeAt_17 : decode cX0_freeAt 17 = .ok (.if_icmp .ne (5), 3) := by decide +kernel
theorem D_Choice_freeAt_20 : decode cX0_freeAt 20 = .ok (.iload_n 2, 1) := by decide +kernel
theorem D_Choice_freeAt_21 : decode cX0_freeAt 21 = .ok (.ireturn, 1) := by decide +kernel
theorem D_Choice_freeAt_22 : decode cX0_freeAt 22 = .ok (.iinc 2 (1), 3) := by decide +kernel
theorem D_Choice_freeAt_25 : decode cX0_freeAt 25 = .ok (.goto (-23), 3) := by decide +kernel
theorem D_Choice_freeAt_28 : decode cX0_freeAt 28 = .ok (.iconst (-1), 1) := by decide +kernel
theorem D_Choice_freeAt_29 : decode cX0_freeAt 29 = .ok (.ireturn, 1) := by decide +kernel
def K_Choice_freeAt : SC := (cX0_freeAt, "TwoLevels$Choice", 3, 1, false, [], NoQ)
def d_Choice_freeAt : MD Int32 := mth tt 3 (sq (sq (sI1 2 (eC (nI 0)))
 (loop (eh2 c_lt (lI 2) (eh1 (gI 1 6) (lR 0)))
 (sIf (eh2 c_eq (eh2 (aI .int) (eh1 (gR 1 5) (lR 0)) (lI 2)) (lI 1)) (rtn (lI 2)) sk)
 (sInc 2 (nI 1))))
 (rtn (eC (-1))))
theorem m_Choice_freeAt : MJ 1 [] yX0_freeAt (some .int) eI (d_Choice_freeAt) := MJ_of (K := K_Choice_freeAt) (ri := .ireturn) (n1 := 0) (n2 := 0) (n3 := 0)
 (SJ_sq (p0 := 0) (p1 := 28) (nN := 0) (nB := 0) (nC := 0) (SJ_sq (p0 := 0) (p1 := 2) (nN := 28) (nB := 0) (nC := 0) (SJ_istore_n (i := 2) (j := 2) (p0 := 0) (p1 := 1) (EJ_iconst (n := 0) (v := (nI 0)) (pc := 0) D_Choice_freeAt_0 (by decide +kernel)) D_Choice_freeAt_1 rfl)
 (SJ_loop (p0 := 2) (pB := 10) (pS := 22) (pE := 28) (CJ_lt' (off := 21) (tgt := 28) (p0 := 2) (p1 := 3) (p2 := 7) (EJ_iload_n (j := 2) (i := 2) (pc := 2) D_Choice_freeAt_2 rfl) (EJ_getI (t := 1) (c := 0) (kf := 6) (r := (RX0, TX0, 11)) (p0 := 3) (p1 := 4) (EJ_aload_n (j := 0) (i := 0) (pc := 3) D_Choice_freeAt_3 rfl) D_Choice_freeAt_4 ⟨rfl, rfl, by decide, q_431⟩ (fun _ _ => rfl)) D_Choice_freeAt_7 rfl)
 (SJ_if (p0 := 10) (pT := 20) (pF := 22) (nN := 22) (nB := 28) (nC := 22) (CJ_eq' (off := 5) (tgt := 22) (p0 := 10) (p1 := 16) (p2 := 17) (EJ_iald (p0 := 10) (p1 := 14) (p2 := 15) (EJ_getR (t := 1) (c := 0) (kf := 5) (r := (RX0, TX0, 11)) (p0 := 10) (p1 := 11) (EJ_aload_n (j := 0) (i := 0) (pc := 10) D_Choice_freeAt_10 rfl) D_Choice_freeAt_11 ⟨rfl, rfl, by decide, q_429⟩ (fun _ _ => rfl)) (EJ_iload_n (j := 2) (i := 2) (pc := 14) D_Choice_freeAt_14 rfl) D_Choice_freeAt_15) (EJ_iload_n (j := 1) (i := 1) (pc := 16) D_Choice_freeAt_16 rfl) D_Choice_freeAt_17 rfl) (SJ_ret (p0 := 20) (p1 := 21) (EJ_iload_n (j := 2) (i := 2) (pc := 20) D_Choice_freeAt_20 rfl) D_Choice_freeAt_21) SJ_sk)
 (SJ_post (SJ_iinc (i := 2) (n := 1) (v := (nI 1)) (pc := 22) D_Choice_freeAt_22 (by decide +kernel)) (Lead.goto (K := K_Choice_freeAt) (pc := 25) (tgt := 2) D_Choice_freeAt_25 rfl))))
 (SJ_ret (p0 := 28) (p1 := 29) (EJ_iconst (n := -1) (v := (-1)) (pc := 28) D_Choice_freeAt_28 (by decide +kernel)) D_Choice_freeAt_29))
 RTm_int q_899 (by decide +kernel) rfl (fun h => by cases h) (show 3 ≤ 40 from by decide) (fun _ => trivial)
theorem D_Choice_init_0 : decode cX0_init 0 = .ok (.aload_n 0, 1) := by decide +kernel
theorem D_Choice_init_1 : decode cX0_init 1 = .ok (.invokespecial 3, 3) := by decide +kernel
theorem D_Choice_init_4 : decode cX0_init 4 = .ok (.aload_n 0, 1) := by decide +kernel
theorem D_Choice_init_5 : decode cX0_init 5 = .ok (.iconst (4), 1) := by decide +kernel
theorem D_Choice_init_6 : decode cX0_init 6 = .ok (.anewarray 11, 3) := by decide +kernel
theorem D_Choice_init_9 : decode cX0_init 9 = .ok (.putfield 13, 3) := by decide +kernel
theorem D_Choice_init_12 : decode cX0_init 12 = .ok (.aload_n 0, 1) := by decide +kernel
theorem D_Choice_init_13 : decode cX0_init 13 = .ok (.iconst (2), 1) := by decide +kernel
theorem D_Choice_init_14 : decode cX0_init 14 = .ok (.newarray .int, 2) := by decide +kernel
theorem D_Choice_init_16 : decode cX0_init 16 = .ok (.putfield 17, 3) := by decide +kernel
theorem D_Choice_init_19 : decode cX0_init 19 = .ok (.aload_n 0, 1) := by decide +kernel
theorem D_Choice_init_20 : decode cX0_init 20 = .ok (.iconst (2), 1) := by decide +kernel
theorem D_Choice_init_21 : decode cX0_init 21 = .ok (.newarray .int, 2) := by decide +kernel
theorem D_Choice_init_23 : decode cX0_init 23 = .ok (.putfield 20, 3) := by decide +kernel
theorem D_Choice_init_26 : decode cX0_init 26 = .ok (.aload_n 0, 1) := by decide +kernel
theorem D_Choice_init_27 : decode cX0_init 27 = .ok (.iconst (2), 1) := by decide +kernel
theorem D_Choice_init_28 : decode cX0_init 28 = .ok (.newarray .int, 2) := by decide +kernel
theorem D_Choice_init_30 : decode cX0_init 30 = .ok (.putfield 23, 3) := by decide +kernel
theorem D_Choice_init_33 : decode cX0_init 33 = .ok (.aload_n 0, 1) := by decide +kernel
theorem D_Choice_init_34 : decode cX0_init 34 = .ok (.iload_n 1, 1) := by decide +kernel
theorem D_Choice_init_35 : decode cX0_init 35 = .ok (.putfield 26, 3) := by decide +kernel
theorem D_Choice_init_38 : decode cX0_init 38 = .ok (.return_, 1) := by decide +kernel
def K_Choice_init : SC := (cX0_init, "TwoLevels$Choice", 2, 1, true, [1], NoQ)
def d_Choice_init : MD Unit := mth tt 2 (sq sObj
 (sq (sh2 (pR 1 1) (lR 0) (nA 37 (eC (nI 4))))
 (sq (sh2 (pR 1 5) (lR 0) (nA 38 (eC (nI 2))))
 (sq (sh2 (pR 1 8) (lR 0) (nA 53 (eC (nI 2))))
 (sq (sh2 (pR 1 9) (lR 0) (nA 54 (eC (nI 2))))
 (sq (sh2 (pI false 1 0) (lR 0) (lI 1))
 rtnU))))))
theorem m_Choice_init : MJ 1 [1] yX0_init none eU (d_Choice_init) := MJ_of (K := K_Choice_init) (ri := .return_) (n1 := 0) (n2 := 0) (n3 := 0)
 (SJ_sq (p0 := 0) (p1 := 4) (nN := 0) (nB := 0) (nC := 0) (SJ_obj (pc := 0) (idx := 3) D_Choice_init_0 D_Choice_init_1 q_417 q_114 q_115 (show 1 ≤ 1 from by decide))
 (SJ_sq (p0 := 4) (p1 := 12) (nN := 0) (nB := 0) (nC := 0) (SJ_putR (t := 1) (c := 0) (kf := 1) (r := (RX0, TX0, 11)) (p0 := 4) (p1 := 5) (p2 := 9) (EJ_aload_n (j := 0) (i := 0) (pc := 4) D_Choice_init_4 rfl) (EJ_anewA (t := 37) (p0 := 5) (p1 := 6) (EJ_iconst (n := 4) (v := (nI 4)) (pc := 5) D_Choice_init_5 (by decide +kernel)) D_Choice_init_6 q_418 rfl) D_Choice_init_9 ⟨rfl, rfl, by decide, q_420⟩ (Or.inr ⟨rfl, rfl⟩) (Or.inr ⟨_, rfl⟩) (fun _ _ => rfl) (show (1 : Nat) ∈ ([1] : List Nat) from by decide))
 (SJ_sq (p0 := 12) (p1 := 19) (nN := 0) (nB := 0) (nC := 0) (SJ_putR (t := 1) (c := 0) (kf := 5) (r := (RX0, TX0, 11)) (p0 := 12) (p1 := 13) (p2 := 16) (EJ_aload_n (j := 0) (i := 0) (pc := 12) D_Choice_init_12 rfl) (EJ_newarr (atype := .int) (ty := .int) (t := 38) (p0 := 13) (p1 := 14) (EJ_iconst (n := 2) (v := (nI 2)) (pc := 13) D_Choice_init_13 (by decide +kernel)) D_Choice_init_14 rfl (by decide) q_145 rfl) D_Choice_init_16 ⟨rfl, rfl, by decide, q_429⟩ (Or.inr ⟨rfl, rfl⟩) (Or.inr ⟨_, rfl⟩) (fun _ _ => rfl) (show (1 : Nat) ∈ ([1] : List Nat) from by decide))
 (SJ_sq (p0 := 19) (p1 := 26) (nN := 0) (nB := 0) (nC := 0) (SJ_putR (t := 1) (c := 0) (kf := 8) (r := (RX0, TX0, 11)) (p0 := 19) (p1 := 20) (p2 := 23) (EJ_aload_n (j := 0) (i := 0) (pc := 19) D_Choice_init_19 rfl) (EJ_newarr (atype := .int) (ty := .int) (t := 53) (p0 := 20) (p1 := 21) (EJ_iconst (n := 2) (v := (nI 2)) (pc := 20) D_Choice_init_20 (by decide +kernel)) D_Choice_init_21 rfl (by decide) q_145 rfl) D_Choice_init_23 ⟨rfl, rfl, by decide, q_435⟩ (Or.inr ⟨rfl, rfl⟩) (Or.inr ⟨_, rfl⟩) (fun _ _ => rfl) (show (1 : Nat) ∈ ([1] : List Nat) from by decide))
 (SJ_sq (p0 := 26) (p1 := 33) (nN := 0) (nB := 0) (nC := 0) (SJ_putR (t := 1) (c := 0) (kf := 9) (r := (RX0, TX0, 11)) (p0 := 26) (p1 := 27) (p2 := 30) (EJ_aload_n (j := 0) (i := 0) (pc := 26) D_Choice_init_26 rfl) (EJ_newarr (atype := .int) (ty := .int) (t := 54) (p0 := 27) (p1 := 28) (EJ_iconst (n := 2) (v := (nI 2)) (pc := 27) D_Choice_init_27 (by decide +kernel)) D_Choice_init_28 rfl (by decide) q_145 rfl) D_Choice_init_30 ⟨rfl, rfl, by decide, q_437⟩ (Or.inr ⟨rfl, rfl⟩) (Or.inr ⟨_, rfl⟩) (fun _ _ => rfl) (show (1 : Nat) ∈ ([1] : List Nat) from by decide))
 (SJ_sq (p0 := 33) (p1 := 38) (nN := 0) (nB := 0) (nC := 0) (SJ_putI (z := false) (t := 1) (c := 0) (kf := 0) (r := (RX0, TX0, 11)) (p0 := 33) (p1 := 34) (p2 := 35) (EJ_aload_n (j := 0) (i := 0) (pc := 33) D_Choice_init_33 rfl) (EJ_iload_n (j := 1) (i := 1) (pc := 34) D_Choice_init_34 rfl) D_Choice_init_35 ⟨rfl, rfl, by decide, q_419⟩ (Or.inr ⟨rfl, rfl⟩) (fun _ _ => ⟨rfl, rfl⟩) (fun _ _ => rfl) (show (1 : Nat) ∈ ([1] : List Nat) from by decide))
 (SJ_retU (pc := 38) D_Choice_init_38)))))))
 RTm_void q_416 (by decide +kernel) rfl (fun _ => rfl) (show 2 ≤ 40 from by decide) (fun _ => trivial)
theorem D_Choice_isToken_0 : decode cX0_isToken 0 = .ok (.aload_n 0, 1) := by decide +kernel
theorem D_Choice_isToken_1 : decode cX0_isToken 1 = .ok (.getfield 41, 3) := by decide +kernel
theorem D_Choice_isToken_4 : decode cX0_isToken 4 = .ok (.iload_n 1, 1) := by decide +kernel
theorem D_Choice_isToken_5 : decode cX0_isToken 5 = .ok (.ishr, 1) := by decide +kernel
theorem D_Choice_isToken_6 : decode cX0_isToken 6 = .ok (.iconst (1), 1) := by decide +kernel
theorem D_Choice_isToken_7 : decode cX0_isToken 7 = .ok (.iand, 1) := by decide +kernel
theorem D_Choice_isToken_8 : decode cX0_isToken 8 = .ok (.iconst (1), 1) := by decide +kernel
theorem D_Choice_isToken_9 : decode cX0_isToken 9 = .ok (.if_icmp .ne (7), 3) := by decide +kernel
theorem D_Choice_isToken_12 : decode cX0_isToken 12 = .ok (.iconst (1), 1) := by decide +kernel
theorem D_Choice_isToken_13 : decode cX0_isToken 13 = .ok (.goto (4), 3) := by decide +kernel
theorem D_Choice_isToken_16 : decode cX0_isToken 16 = .ok (.iconst (0), 1) := by decide +kernel
theorem D_Choice_isToken_17 : decode cX0_isToken 17 = .ok (.ireturn, 1) := by decide +kernel
def K_Choice_isToken : SC := (cX0_isToken, "TwoLevels$Choice", 2, 1, false, [], NoQ)
def d_Choice_isToken : MD Int32 := mth zz 2 (rtn (eIf (eh2 c_eq (eh2 iandF (eh2 ishrF (eh1 (gI 1 3) (lR 0)) (lI 1)) (eC (nI 1))) (eC (nI 1))) (eC (nI 1)) (eC (nI 0))))
theorem m_Choice_isToken : MJ 1 [] yX0_isToken (some .boolean) eI (d_Choice_isToken) := MJ_of (K := K_Choice_isToken) (ri := .ireturn) (n1 := 0) (n2 := 0) (n3 := 0)
 (SJ_ret (p0 := 0) (p1 := 17) (EJ_if (p0 := 0) (pT := 12) (pF := 16) (pE := 13) (p1 := 17) (CJ_eq' (off := 7) (tgt := 16) (p0 := 0) (p1 := 8) (p2 := 9) (EJ_iand (p0 := 0) (p1 := 6) (p2 := 7) (EJ_ishr (p0 := 0) (p1 := 4) (p2 := 5) (EJ_getI (t := 1) (c := 0) (kf := 3) (r := (RX0, TX0, 11)) (p0 := 0) (p1 := 1) (EJ_aload_n (j := 0) (i := 0) (pc := 0) D_Choice_isToken_0 rfl) D_Choice_isToken_1 ⟨rfl, rfl, by decide, q_425⟩ (fun _ _ => rfl)) (EJ_iload_n (j := 1) (i := 1) (pc := 4) D_Choice_isToken_4 rfl) D_Choice_isToken_5) (EJ_iconst (n := 1) (v := (nI 1)) (pc := 6) D_Choice_isToken_6 (by decide +kernel)) D_Choice_isToken_7) (EJ_iconst (n := 1) (v := (nI 1)) (pc := 8) D_Choice_isToken_8 (by decide +kernel)) D_Choice_isToken_9 rfl) (EJ_iconst (n := 1) (v := (nI 1)) (pc := 12) D_Choice_isToken_12 (by decide +kernel)) (Lead.goto (K := K_Choice_isToken) (pc := 13) (tgt := 17) D_Choice_isToken_13 rfl) (EJ_iconst (n := 0) (v := (nI 0)) (pc := 16) D_Choice_isToken_16 (by decide +kernel))) D_Choice_isToken_17)
 RTm_bool q_849 (by decide +kernel) rfl (fun h => by cases h) (show 2 ≤ 40 from by decide) (fun _ => trivial)
theorem D_Choice_suits_0 : decode cX0_suits 0 = .ok (.aload_n 0, 1) := by decide +kernel
theorem D_Choice_suits_1 : decode cX0_suits 1 = .ok (.getfield 51, 3) := by decide +kernel
theorem D_Choice_suits_4 : decode cX0_suits 4 = .ok (.aload_n 0, 1) := by decide +kernel
theorem D_Choice_suits_5 : decode cX0_suits 5 = .ok (.getfield 38, 3) := by decide +kernel
theorem D_Choice_suits_8 : decode cX0_suits 8 = .ok (.if_icmp .ne (19), 3) := by decide +kernel
theorem D_Choice_suits_11 : decode cX0_suits 11 = .ok (.iload_n 1, 1) := by decide +kernel
theorem D_Choice_suits_12 : decode cX0_suits 12 = .ok (.aload_n 0, 1) := by decide +kernel
theorem D_Choice_suits_13 : decode cX0_suits 13 = .ok (.getfield 38, 3) := by decide +kernel
theorem D_Choice_suits_16 : decode cX0_suits 16 = .ok (.if_icmp .ne (7), 3) := by decide +kernel
theorem D_Choice_suits_19 : decode cX0_suits 19 = .ok (.iconst (1), 1) := by decide +kernel
theorem D_Choice_suits_20 : decode cX0_suits 20 = .ok (.goto (20), 3) := by decide +kernel
theorem D_Choice_suits_23 : decode cX0_suits 23 = .ok (.iconst (0), 1) := by decide +kernel
theorem D_Choice_suits_24 : decode cX0_suits 24 = .ok (.goto (16), 3) := by decide +kernel
theorem D_Choice_suits_27 : decode cX0_suits 27 = .ok (.iload_n 1, 1) := by decide +kernel
theorem D_Choice_suits_28 : decode cX0_suits 28 = .ok (.aload_n 0, 1) := by decide +kernel
theorem D_Choice_suits_29 : decode cX0_suits 29 = .ok (.getfield 51, 3) := by decide +kernel
theorem D_Choice_suits_32 : decode cX0_suits 32 = .ok (.if_icmp .lt (7), 3) := by decide +kernel
theorem D_Choice_suits_35 : decode cX0_suits 35 = .ok (.iconst (1), 1) := by decide +kernel
theorem D_Choice_suits_36 : decode cX0_suits 36 = .ok (.goto (4), 3) := by decide +kernel
theorem D_Choice_suits_39 : decode cX0_suits 39 = .ok (.iconst (0), 1) := by decide +kernel
theorem D_Choice_suits_40 : decode cX0_suits 40 = .ok (.ireturn, 1) := by decide +kernel
def K_Choice_suits : SC := (cX0_suits, "TwoLevels$Choice", 2, 1, false, [], NoQ)
def d_Choice_suits : MD Int32 := mth zz 2 (rtn (eIf (eh2 c_eq (eh1 (gI 1 10) (lR 0)) (eh1 (gI 1 2) (lR 0))) (eIf (eh2 c_eq (lI 1) (eh1 (gI 1 2) (lR 0))) (eC (nI 1)) (eC (nI 0))) (eIf (eh2 c_ge (lI 1) (eh1 (gI 1 10) (lR 0))) (eC (nI 1)) (eC (nI 0)))))
theorem m_Choice_suits : MJ 1 [] yX0_suits (some .boolean) eI (d_Choice_suits) := MJ_of (K := K_Choice_suits) (ri := .ireturn) (n1 := 0) (n2 := 0) (n3 := 0)
 (SJ_ret (p0 := 0) (p1 := 40) (EJ_if (p0 := 0) (pT := 11) (pF := 27) (pE := 40) (p1 := 40) (CJ_eq' (off := 19) (tgt := 27) (p0 := 0) (p1 := 4) (p2 := 8) (EJ_getI (t := 1) (c := 0) (kf := 10) (r := (RX0, TX0, 11)) (p0 := 0) (p1 := 1) (EJ_aload_n (j := 0) (i := 0) (pc := 0) D_Choice_suits_0 rfl) D_Choice_suits_1 ⟨rfl, rfl, by decide, q_439⟩ (fun _ _ => rfl)) (EJ_getI (t := 1) (c := 0) (kf := 2) (r := (RX0, TX0, 11)) (p0 := 4) (p1 := 5) (EJ_aload_n (j := 0) (i := 0) (pc := 4) D_Choice_suits_4 rfl) D_Choice_suits_5 ⟨rfl, rfl, by decide, q_422⟩ (fun _ _ => rfl)) D_Choice_suits_8 rfl) (EJ_if (p0 := 11) (pT := 19) (pF := 23) (pE := 20) (p1 := 40) (CJ_eq' (off := 7) (tgt := 23) (p0 := 11) (p1 := 12) (p2 := 16) (EJ_iload_n (j := 1) (i := 1) (pc := 11) D_Choice_suits_11 rfl) (EJ_getI (t := 1) (c := 0) (kf := 2) (r := (RX0, TX0, 11)) (p0 := 12) (p1 := 13) (EJ_aload_n (j := 0) (i := 0) (pc := 12) D_Choice_suits_12 rfl) D_Choice_suits_13 ⟨rfl, rfl, by decide, q_422⟩ (fun _ _ => rfl)) D_Choice_suits_16 rfl) (EJ_iconst (n := 1) (v := (nI 1)) (pc := 19) D_Choice_suits_19 (by decide +kernel)) (Lead.goto (K := K_Choice_suits) (pc := 20) (tgt := 40) D_Choice_suits_20 rfl) (EJ_post (EJ_iconst (n := 0) (v := (nI 0)) (pc := 23) D_Choice_suits_23 (by decide +kernel)) (Lead.goto (K := K_Choice_suits) (pc := 24) (tgt := 40) D_Choice_suits_24 rfl))) Lead.rf (EJ_if (p0 := 27) (pT := 35) (pF := 39) (pE := 36) (p1 := 40) (CJ_ge' (off := 7) (tgt := 39) (p0 := 27) (p1 := 28) (p2 := 32) (EJ_iload_n (j := 1) (i := 1) (pc := 27) D_Choice_suits_27 rfl) (EJ_getI (t := 1) (c := 0) (kf := 10) (r := (RX0, TX0, 11)) (p0 := 28) (p1 := 29) (EJ_aload_n (j := 0) (i := 0) (pc := 28) D_Choice_suits_28 rfl) D_Choice_suits_29 ⟨rfl, rfl, by decide, q_439⟩ (fun _ _ => rfl)) D_Choice_suits_32 rfl) (EJ_iconst (n := 1) (v := (nI 1)) (pc := 35) D_Choice_suits_35 (by decide +kernel)) (Lead.goto (K := K_Choice_suits) (pc := 36) (tgt := 40) D_Choice_suits_36 rfl) (EJ_iconst (n := 0) (v := (nI 0)) (pc := 39) D_Choice_suits_39 (by decide +kernel)))) D_Choice_suits_40)
 RTm_bool q_839 (by decide +kernel) rfl (fun h => by cases h) (show 2 ≤ 40 from by decide) (fun _ => trivial)
theorem D_Firsts_init_0 : decode cX1_init 0 = .ok (.aload_n 0, 1) := by decide +kernel
theorem D_Firsts_init_1 : decode cX1_init 1 = .ok (.invokespecial 3, 3) := by decide +kernel
theorem D_Firsts_init_4 : decode cX1_init 4 = .ok (.aload_n 0, 1) := by decide +kernel
theorem D_Firsts_init_5 : decode cX1_init 5 = .ok (.bipush (20), 2) := by decide +kernel
theorem D_Firsts_init_7 : decode cX1_init 7 = .ok (.newarray .int, 2) := by decide +kernel
theorem D_Firsts_init_9 : decode cX1_init 9 = .ok (.putfield 11, 3) := by decide +kernel
theorem D_Firsts_init_12 : decode cX1_init 12 = .ok (.return_, 1) := by decide +kernel
def K_Firsts_init : SC := (cX1_init, "TwoLevels$Firsts", 1, 1, true, [2], NoQ)
def d_Firsts_init : MD Unit := mth tt 1 (sq sObj
 (sq (sh2 (pR 2 0) (lR 0) (nA 36 (eC (nI 20))))
 rtnU))
theorem m_Firsts_init : MJ 1 [2] yX1_init none eU (d_Firsts_init) := MJ_of (K := K_Firsts_init) (ri := .return_) (n1 := 0) (n2 := 0) (n3 := 0)
 (SJ_sq (p0 := 0) (p1 := 4) (nN := 0) (nB := 0) (nC := 0) (SJ_obj (pc := 0) (idx := 3) D_Firsts_init_0 D_Firsts_init_1 q_480 q_114 q_115 (show 1 ≤ 1 from by decide))
 (SJ_sq (p0 := 4) (p1 := 12) (nN := 0) (nB := 0) (nC := 0) (SJ_putR (t := 2) (c := 1) (kf := 0) (r := (RX1, TX1, 2)) (p0 := 4) (p1 := 5) (p2 := 9) (EJ_aload_n (j := 0) (i := 0) (pc := 4) D_Firsts_init_4 rfl) (EJ_newarr (atype := .int) (ty := .int) (t := 36) (p0 := 5) (p1 := 7) (EJ_bipush (n := 20) (v := (nI 20)) (pc := 5) D_Firsts_init_5 (by decide +kernel)) D_Firsts_init_7 rfl (by decide) q_145 rfl) D_Firsts_init_9 ⟨rfl, rfl, by decide, q_481⟩ (Or.inr ⟨rfl, rfl⟩) (Or.inr ⟨_, rfl⟩) (fun _ _ => rfl) (show (2 : Nat) ∈ ([2] : List Nat) from by decide))
 (SJ_retU (pc := 12) D_Firsts_init_12)))
 RTm_void q_479 (by decide +kernel) rfl (fun _ => rfl) (show 1 ≤ 40 from by decide) (fun _ => trivial)
theorem D_Firsts_put_0 : decode cX1_put 0 = .ok (.aload_n 0, 1) := by decide +kernel
theorem D_Firsts_put_1 : decode cX1_put 1 = .ok (.getfield 15, 3) := by decide +kernel
theorem D_Firsts_put_4 : decode cX1_put 4 = .ok (.istore_n 2, 1) := by decide +kernel
theorem D_Firsts_put_5 : decode cX1_put 5 = .ok (.iload_n 2, 1) := by decide +kernel
theorem D_Firsts_put_6 : decode cX1_put 6 = .ok (.ifCond .le (21), 3) := by decide +kernel
theorem D_Firsts_put_9 : decode cX1_put 9 = .ok (.aload_n 0, 1) := by decide +kernel
theorem D_Firsts_put_10 : decode cX1_put 10 = .ok (.getfield 11, 3) := by decide +kernel
theorem D_Firsts_put_13 : decode cX1_put 13 = .ok (.iload_n 2, 1) := by decide +kernel
theorem D_Firsts_put_14 : decode cX1_put 14 = .ok (.iconst (1), 1) := by decide +kernel
theorem D_Firsts_put_15 : decode cX1_put 15 = .ok (.isub, 1) := by decide +kernel
theorem D_Firsts_put_16 : decode cX1_put 16 = .ok (.iaload, 1) := by decide +kernel
theorem D_Firsts_put_17 : decode cX1_put 17 = .ok (.iload_n 1, 1) := by decide +kernel
theorem D_Firsts_put_18 : decode cX1_put 18 = .ok (.if_icmp .lt (9), 3) := by decide +kernel
theorem D_Firsts_put_21 : decode cX1_put 21 = .ok (.iinc 2 (-1), 3) := by decide +kernel
theorem D_Firsts_put_24 : decode cX1_put 24 = .ok (.goto (-19), 3) := by decide +kernel
theorem D_Firsts_put_27 : decode cX1_put 27 = .ok (.iload_n 2, 1) := by decide +kernel
theorem D_Firsts_put_28 : decode cX1_put 28 = .ok (.bipush (20), 2) := by decide +kernel
theorem D_Firsts_put_30 : decode cX1_put 30 = .ok (.if_icmp .eq (21), 3) := by decide +kernel
theorem D_Firsts_put_33 : decode cX1_put 33 = .ok (.iload_n 2, 1) := by decide +kernel
theorem D_Firsts_put_34 : decode cX1_put 34 = .ok (.aload_n 0, 1) := by decide +kernel
theorem D_Firsts_put_35 : decode cX1_put 35 = .ok (.getfield 15, 3) := by decide +kernel
theorem D_Firsts_put_38 : decode cX1_put 38 = .ok (.if_icmp .ge (15), 3) := by decide +kernel
theorem D_Firsts_put_41 : decode cX1_put 41 = .ok (.aload_n 0, 1) := by decide +kernel
theorem D_Firsts_put_42 : decode cX1_put 42 = .ok (.getfield 11, 3) := by decide +kernel
theorem D_Firsts_put_45 : decode cX1_put 45 = .ok (.iload_n 2, 1) := by decide +kernel
theorem D_Firsts_put_46 : decode cX1_put 46 = .ok (.iaload, 1) := by decide +kernel
theorem D_Firsts_put_47 : decode cX1_put 47 = .ok (.iload_n 1, 1) := by decide +kernel
theorem D_Firsts_put_48 : decode cX1_put 48 = .ok (.if_icmp .ne (5), 3) := by decide +kernel
theorem D_Firsts_put_51 : decode cX1_put 51 = .ok (.iconst (0), 1) := by decide +kernel
theorem D_Firsts_put_52 : decode cX1_put 52 = .ok (.ireturn, 1) := by decide +kernel
theorem D_Firsts_put_53 : decode cX1_put 53 = .ok (.aload_n 0, 1) := by decide +kernel
theorem D_Firsts_put_54 : decode cX1_put 54 = .ok (.getfield 15, 3) := by decide +kernel
theorem D_Firsts_put_57 : decode cX1_put 57 = .ok (.bipush (20), 2) := by decide +kernel
theorem D_Firsts_put_59 : decode cX1_put 59 = .ok (.if_icmp .ge (13), 3) := by decide +kernel
theorem D_Firsts_put_62 : decode cX1_put 62 = .ok (.aload_n 0, 1) := by decide +kernel
theorem D_Firsts_put_63 : decode cX1_put 63 = .ok (.dup, 1) := by decide +kernel
theorem D_Firsts_put_64 : decode cX1_put 64 = .ok (.getfield 15, 3) := by decide +kernel
theorem D_Firsts_put_67 : decode cX1_put 67 = .ok (.iconst (1), 1) := by decide +kernel
theorem D_Firsts_put_68 : decode cX1_put 68 = .ok (.iadd, 1) := by decide +kernel
theorem D_Firsts_put_69 : decode cX1_put 69 = .ok (.putfield 15, 3) := by decide +kernel
theorem D_Firsts_put_72 : decode cX1_put 72 = .ok (.aload_n 0, 1) := by decide +kernel
theorem D_Firsts_put_73 : decode cX1_put 73 = .ok (.getfield 15, 3) := by decide +kernel
theorem D_Firsts_put_76 : decode cX1_put 76 = .ok (.iconst (1), 1) := by decide +kernel
theorem D_Firsts_put_77 : decode cX1_put 77 = .ok (.isub, 1) := by decide +kernel
theorem D_Firsts_put_78 : decode cX1_put 78 = .ok (.istore_n 3, 1) := by decide +kernel
theorem D_Firsts_put_79 : decode cX1_put 79 = .ok (.iload_n 3, 1) := by decide +kernel
theorem D_Firsts_put_80 : decode cX1_put 80 = .ok (.iload_n 2, 1) := by decide +kernel
theorem D_Firsts_put_81 : decode cX1_put 81 = .ok (.if_icmp .le (23), 3) := by decide +kernel
theorem D_Firsts_put_84 : decode cX1_put 84 = .ok (.aload_n 0, 1) := by decide +kernel
theorem D_Firsts_put_85 : decode cX1_put 85 = .ok (.getfield 11, 3) := by decide +kernel
theorem D_Firsts_put_88 : decode cX1_put 88 = .ok (.iload_n 3, 1) := by decide +kernel
theorem D_Firsts_put_89 : decode cX1_put 89 = .ok (.aload_n 0, 1) := by decide +kernel
theorem D_Firsts_put_90 : decode cX1_put 90 = .ok (.getfield 11, 3) := by decide +kernel
theorem D_Firsts_put_93 : decode cX1_put 93 = .ok (.iload_n 3, 1) := by decide +kernel
theorem D_Firsts_put_94 : decode cX1_put 94 = .ok (.iconst (1), 1) := by decide +kernel
theorem D_Firsts_put_95 : decode cX1_put 95 = .ok (.isub, 1) := by decide +kernel
theorem D_Firsts_put_96 : decode cX1_put 96 = .ok (.iaload, 1) := by decide +kernel
theorem D_Firsts_put_97 : decode cX1_put 97 = .ok (.iastore, 1) := by decide +kernel
theorem D_Firsts_put_98 : decode cX1_put 98 = .ok (.iinc 3 (-1), 3) := by decide +kernel
theorem D_Firsts_put_101 : decode cX1_put 101 = .ok (.goto (-22), 3) := by decide +kernel
theorem D_Firsts_put_104 : decode cX1_put 104 = .ok (.aload_n 0, 1) := by decide +kernel
theorem D_Firsts_put_105 : decode cX1_put 105 = .ok (.getfield 11, 3) := by decide +kernel
theorem D_Firsts_put_108 : decode cX1_put 108 = .ok (.iload_n 2, 1) := by decide +kernel
theorem D_Firsts_put_109 : decode cX1_put 109 = .ok (.iload_n 1, 1) := by decide +kernel
theorem D_Firsts_put_110 : decode cX1_put 110 = .ok (.iastore, 1) := by decide +kernel
theorem D_Firsts_put_111 : decode cX1_put 111 = .ok (.iconst (1), 1) := by decide +kernel
theorem D_Firsts_put_112 : decode cX1_put 112 = .ok (.ireturn, 1) := by decide +kernel
def K_Firsts_put : SC := (cX1_put, "TwoLevels$Firsts", 4, 1, false, [2, 36], NoQ)
def d_Firsts_put : MD Int32 := mth zz 4 (sq (sI1 2 (eh1 (gI 2 1) (lR 0)))
 (sq (loop (cAnd (eh1 z_gt (lI 2)) (eh2 c_ge (eh2 (aI .int) (eh1 (gR 2 0) (lR 0)) (eh2 isubF (lI 2) (eC (nI 1)))) (lI 1)))
 (sInc 2 (-1))
 sk)
 (sq (sIf (cOr (eh2 c_eq (lI 2) (eC (nI 20))) (cAnd (eh2 c_lt (lI 2) (eh1 (gI 2 1) (lR 0))) (eh2 c_eq (eh2 (aI .int) (eh1 (gR 2 0) (lR 0)) (lI 2)) (lI 1)))) (rtn (eC (nI 0))) sk)
 (sq (sIf (eh2 c_lt (eh1 (gI 2 1) (lR 0)) (eC (nI 20))) (su2 (gI 2 1) (uF false 2 1 (fun x y => x + y)) (lR 0) (eC (nI 1))) sk)
 (sq (sq (sI1 3 (eh2 isubF (eh1 (gI 2 1) (lR 0)) (eC (nI 1))))
 (loop (eh2 c_gt (lI 3) (lI 2))
 (sh3 (stI [36]) (eh1 (gR 2 0) (lR 0)) (lI 3) (eh2 (aI .int) (eh1 (gR 2 0) (lR 0)) (eh2 isubF (lI 3) (eC (nI 1)))))
 (sInc 3 (-1))))
 (sq (sh3 (stI [36]) (eh1 (gR 2 0) (lR 0)) (lI 2) (lI 1))
 (rtn (eC (nI 1)))))))))
theorem m_Firsts_put : MJ 1 [2, 36] yX1_put (some .boolean) eI (d_Firsts_put) := MJ_of (K := K_Firsts_put) (ri := .ireturn) (n1 := 0) (n2 := 0) (n3 := 0)
 (SJ_sq (p0 := 0) (p1 := 5) (nN := 0) (nB := 0) (nC := 0) (SJ_istore_n (i := 2) (j := 2) (p0 := 0) (p1 := 4) (EJ_getI (t := 2) (c := 1) (kf := 1) (r := (RX1, TX1, 2)) (p0 := 0) (p1 := 1) (EJ_aload_n (j := 0) (i := 0) (pc := 0) D_Firsts_put_0 rfl) D_Firsts_put_1 ⟨rfl, rfl, by decide, q_483⟩ (fun _ _ => rfl)) D_Firsts_put_4 rfl)
 (SJ_sq (p0 := 5) (p1 := 27) (nN := 0) (nB := 0) (nC := 0) (SJ_loop (p0 := 5) (pB := 21) (pS := 5) (pE := 27) (CJ_and (p0 := 5) (pM := 9) (pT := 21) (pF := 27) (CZ_gt' (off := 21) (tgt := 27) (p0 := 5) (p1 := 6) (EJ_iload_n (j := 2) (i := 2) (pc := 5) D_Firsts_put_5 rfl) D_Firsts_put_6 rfl) (CJ_ge' (off := 9) (tgt := 27) (p0 := 9) (p1 := 17) (p2 := 18) (EJ_iald (p0 := 9) (p1 := 13) (p2 := 16) (EJ_getR (t := 2) (c := 1) (kf := 0) (r := (RX1, TX1, 2)) (p0 := 9) (p1 := 10) (EJ_aload_n (j := 0) (i := 0) (pc := 9) D_Firsts_put_9 rfl) D_Firsts_put_10 ⟨rfl, rfl, by decide, q_481⟩ (fun _ _ => rfl)) (EJ_isub (p0 := 13) (p1 := 14) (p2 := 15) (EJ_iload_n (j := 2) (i := 2) (pc := 13) D_Firsts_put_13 rfl) (EJ_iconst (n := 1) (v := (nI 1)) (pc := 14) D_Firsts_put_14 (by decide +kernel)) D_Firsts_put_15) D_Firsts_put_16) (EJ_iload_n (j := 1) (i := 1) (pc := 17) D_Firsts_put_17 rfl) D_Firsts_put_18 rfl))
 (SJ_post (SJ_iinc (i := 2) (n := -1) (v := (-1)) (pc := 21) D_Firsts_put_21 (by decide +kernel)) (Lead.goto (K := K_Firsts_put) (pc := 24) (tgt := 5) D_Firsts_put_24 rfl))
 SJ_sk)
 (SJ_sq (p0 := 27) (p1 := 53) (nN := 0) (nB := 0) (nC := 0) (SJ_if (p0 := 27) (pT := 51) (pF := 53) (nN := 53) (nB := 0) (nC := 0) (CJ_or (p0 := 27) (pM := 33) (pT := 51) (pF := 53) (CJ_eq (off := 21) (tgt := 51) (p0 := 27) (p1 := 28) (p2 := 30) (EJ_iload_n (j := 2) (i := 2) (pc := 27) D_Firsts_put_27 rfl) (EJ_bipush (n := 20) (v := (nI 20)) (pc := 28) D_Firsts_put_28 (by decide +kernel)) D_Firsts_put_30 rfl) (CJ_and (p0 := 33) (pM := 41) (pT := 51) (pF := 53) (CJ_lt' (off := 15) (tgt := 53) (p0 := 33) (p1 := 34) (p2 := 38) (EJ_iload_n (j := 2) (i := 2) (pc := 33) D_Firsts_put_33 rfl) (EJ_getI (t := 2) (c := 1) (kf := 1) (r := (RX1, TX1, 2)) (p0 := 34) (p1 := 35) (EJ_aload_n (j := 0) (i := 0) (pc := 34) D_Firsts_put_34 rfl) D_Firsts_put_35 ⟨rfl, rfl, by decide, q_483⟩ (fun _ _ => rfl)) D_Firsts_put_38 rfl) (CJ_eq' (off := 5) (tgt := 53) (p0 := 41) (p1 := 47) (p2 := 48) (EJ_iald (p0 := 41) (p1 := 45) (p2 := 46) (EJ_getR (t := 2) (c := 1) (kf := 0) (r := (RX1, TX1, 2)) (p0 := 41) (p1 := 42) (EJ_aload_n (j := 0) (i := 0) (pc := 41) D_Firsts_put_41 rfl) D_Firsts_put_42 ⟨rfl, rfl, by decide, q_481⟩ (fun _ _ => rfl)) (EJ_iload_n (j := 2) (i := 2) (pc := 45) D_Firsts_put_45 rfl) D_Firsts_put_46) (EJ_iload_n (j := 1) (i := 1) (pc := 47) D_Firsts_put_47 rfl) D_Firsts_put_48 rfl))) (SJ_ret (p0 := 51) (p1 := 52) (EJ_iconst (n := 0) (v := (nI 0)) (pc := 51) D_Firsts_put_51 (by decide +kernel)) D_Firsts_put_52) SJ_sk)
 (SJ_sq (p0 := 53) (p1 := 72) (nN := 0) (nB := 0) (nC := 0) (SJ_if (p0 := 53) (pT := 62) (pF := 72) (nN := 72) (nB := 0) (nC := 0) (CJ_lt' (off := 13) (tgt := 72) (p0 := 53) (p1 := 57) (p2 := 59) (EJ_getI (t := 2) (c := 1) (kf := 1) (r := (RX1, TX1, 2)) (p0 := 53) (p1 := 54) (EJ_aload_n (j := 0) (i := 0) (pc := 53) D_Firsts_put_53 rfl) D_Firsts_put_54 ⟨rfl, rfl, by decide, q_483⟩ (fun _ _ => rfl)) (EJ_bipush (n := 20) (v := (nI 20)) (pc := 57) D_Firsts_put_57 (by decide +kernel)) D_Firsts_put_59 rfl) (SJ_upF (z := false) (t := 2) (c := 1) (kf := 1) (r := (RX1, TX1, 2)) (f := (fun x y => x + y)) (p0 := 62) (p1 := 63) (p3 := 68) (EJ_aload_n (j := 0) (i := 0) (pc := 62) D_Firsts_put_62 rfl) D_Firsts_put_63 D_Firsts_put_64 (EJ_iconst (n := 1) (v := (nI 1)) (pc := 67) D_Firsts_put_67 (by decide +kernel)) (Op2_iadd D_Firsts_put_68) D_Firsts_put_69 ⟨rfl, rfl, by decide, q_483⟩ ⟨rfl, rfl, by decide, q_483⟩ (Or.inl rfl) (fun _ _ => ⟨rfl, rfl⟩) (fun _ _ => rfl) (show (2 : Nat) ∈ ([2, 36] : List Nat) from by decide)) SJ_sk)
 (SJ_sq (p0 := 72) (p1 := 104) (nN := 0) (nB := 0) (nC := 0) (SJ_sq (p0 := 72) (p1 := 79) (nN := 104) (nB := 0) (nC := 0) (SJ_istore_n (i := 3) (j := 3) (p0 := 72) (p1 := 78) (EJ_isub (p0 := 72) (p1 := 76) (p2 := 77) (EJ_getI (t := 2) (c := 1) (kf := 1) (r := (RX1, TX1, 2)) (p0 := 72) (p1 := 73) (EJ_aload_n (j := 0) (i := 0) (pc := 72) D_Firsts_put_72 rfl) D_Firsts_put_73 ⟨rfl, rfl, by decide, q_483⟩ (fun _ _ => rfl)) (EJ_iconst (n := 1) (v := (nI 1)) (pc := 76) D_Firsts_put_76 (by decide +kernel)) D_Firsts_put_77) D_Firsts_put_78 rfl)
 (SJ_loop (p0 := 79) (pB := 84) (pS := 98) (pE := 104) (CJ_gt' (off := 23) (tgt := 104) (p0 := 79) (p1 := 80) (p2 := 81) (EJ_iload_n (j := 3) (i := 3) (pc := 79) D_Firsts_put_79 rfl) (EJ_iload_n (j := 2) (i := 2) (pc := 80) D_Firsts_put_80 rfl) D_Firsts_put_81 rfl)
 (SJ_iast (ws := [36]) (p0 := 84) (p1 := 88) (p2 := 89) (p3 := 97) (EJ_getR (t := 2) (c := 1) (kf := 0) (r := (RX1, TX1, 2)) (p0 := 84) (p1 := 85) (EJ_aload_n (j := 0) (i := 0) (pc := 84) D_Firsts_put_84 rfl) D_Firsts_put_85 ⟨rfl, rfl, by decide, q_481⟩ (fun _ _ => rfl)) (EJ_iload_n (j := 3) (i := 3) (pc := 88) D_Firsts_put_88 rfl) (EJ_iald (p0 := 89) (p1 := 93) (p2 := 96) (EJ_getR (t := 2) (c := 1) (kf := 0) (r := (RX1, TX1, 2)) (p0 := 89) (p1 := 90) (EJ_aload_n (j := 0) (i := 0) (pc := 89) D_Firsts_put_89 rfl) D_Firsts_put_90 ⟨rfl, rfl, by decide, q_481⟩ (fun _ _ => rfl)) (EJ_isub (p0 := 93) (p1 := 94) (p2 := 95) (EJ_iload_n (j := 3) (i := 3) (pc := 93) D_Firsts_put_93 rfl) (EJ_iconst (n := 1) (v := (nI 1)) (pc := 94) D_Firsts_put_94 (by decide +kernel)) D_Firsts_put_95) D_Firsts_put_96) D_Firsts_put_97 (show ∀ x_ ∈ ([36] : List Nat), x_ ∈ ([2, 36] : List Nat) from by decide))
 (SJ_post (SJ_iinc (i := 3) (n := -1) (v := (-1)) (pc := 98) D_Firsts_put_98 (by decide +kernel)) (Lead.goto (K := K_Firsts_put) (pc := 101) (tgt := 79) D_Firsts_put_101 rfl))))
 (SJ_sq (p0 := 104) (p1 := 111) (nN := 0) (nB := 0) (nC := 0) (SJ_iast (ws := [36]) (p0 := 104) (p1 := 108) (p2 := 109) (p3 := 110) (EJ_getR (t := 2) (c := 1) (kf := 0) (r := (RX1, TX1, 2)) (p0 := 104) (p1 := 105) (EJ_aload_n (j := 0) (i := 0) (pc := 104) D_Firsts_put_104 rfl) D_Firsts_put_105 ⟨rfl, rfl, by decide, q_481⟩ (fun _ _ => rfl)) (EJ_iload_n (j := 2) (i := 2) (pc := 108) D_Firsts_put_108 rfl) (EJ_iload_n (j := 1) (i := 1) (pc := 109) D_Firsts_put_109 rfl) D_Firsts_put_110 (show ∀ x_ ∈ ([36] : List Nat), x_ ∈ ([2, 36] : List Nat) from by decide))
 (SJ_ret (p0 := 111) (p1 := 112) (EJ_iconst (n := 1) (v := (nI 1)) (pc := 111) D_Firsts_put_111 (by decide +kernel)) D_Firsts_put_112)))))))
 RTm_bool q_509 (by decide +kernel) rfl (fun h => by cases h) (show 4 ≤ 40 from by decide) (fun _ => trivial)
theorem D_Rows_size_0 : decode cX5_size 0 = .ok (.iconst (0), 1) := by decide +kernel
theorem D_Rows_size_1 : decode cX5_size 1 = .ok (.istore_n 2, 1) := by decide +kernel
theorem D_Rows_size_2 : decode cX5_size 2 = .ok (.lload_n 0, 1) := by decide +kernel
theorem D_Rows_size_3 : decode cX5_size 3 = .ok (.lstore_n 3, 1) := by decide +kernel
theorem D_Rows_size_4 : decode cX5_size 4 = .ok (.lload_n 3, 1) := by decide +kernel
theorem D_Rows_size_5 : decode cX5_size 5 = .ok (.lconst 0, 1) := by decide +kernel
theorem D_Rows_size_6 : decode cX5_size 6 = .ok (.lcmp, 1) := by decide +kernel
theorem D_Rows_size_7 : decode cX5_size 7 = .ok (.ifCond .le (19), 3) := by decide +kernel
theorem D_Rows_size_10 : decode cX5_size 10 = .ok (.iload_n 2, 1) := by decide +kernel
theorem D_Rows_size_11 : decode cX5_size 11 = .ok (.bipush (10), 2) := by decide +kernel
theorem D_Rows_size_13 : decode cX5_size 13 = .ok (.if_icmp .ge (13), 3) := by decide +kernel
theorem D_Rows_size_16 : decode cX5_size 16 = .ok (.iinc 2 (1), 3) := by decide +kernel
theorem D_Rows_size_19 : decode cX5_size 19 = .ok (.lload_n 3, 1) := by decide +kernel
theorem D_Rows_size_20 : decode cX5_size 20 = .ok (.iconst (5), 1) := by decide +kernel
theorem D_Rows_size_21 : decode cX5_size 21 = .ok (.lshr, 1) := by decide +kernel
theorem D_Rows_size_22 : decode cX5_size 22 = .ok (.lstore_n 3, 1) := by decide +kernel
theorem D_Rows_size_23 : decode cX5_size 23 = .ok (.goto (-19), 3) := by decide +kernel
theorem D_Rows_size_26 : decode cX5_size 26 = .ok (.iload_n 2, 1) := by decide +kernel
theorem D_Rows_size_27 : decode cX5_size 27 = .ok (.ireturn, 1) := by decide +kernel
def K_Rows_size : SC := (cX5_size, "TwoLevels$Rows", 5, 1, false, [], NoQ)
def d_Rows_size : MD Int32 := mth tt 5 (sq (sI1 2 (eC (nI 0)))
 (sq (sq (sJ1 3 (lJ 0))
 (loop (cAnd (eh2 j_gt (lJ 3) (eC (lN 0))) (eh2 c_lt (lI 2) (eC (nI 10))))
 (sInc 2 (nI 1))
 (sJ1 3 (eh2 lshrF (lJ 3) (eC (nI 5))))))
 (rtn (lI 2))))
theorem m_Rows_size : MJ 1 [] yX5_size (some .int) eI (d_Rows_size) := MJ_of (K := K_Rows_size) (ri := .ireturn) (n1 := 0) (n2 := 0) (n3 := 0)
 (SJ_sq (p0 := 0) (p1 := 2) (nN := 0) (nB := 0) (nC := 0) (SJ_istore_n (i := 2) (j := 2) (p0 := 0) (p1 := 1) (EJ_iconst (n := 0) (v := (nI 0)) (pc := 0) D_Rows_size_0 (by decide +kernel)) D_Rows_size_1 rfl)
 (SJ_sq (p0 := 2) (p1 := 26) (nN := 0) (nB := 0) (nC := 0) (SJ_sq (p0 := 2) (p1 := 4) (nN := 26) (nB := 0) (nC := 0) (SJ_lstore_n (i := 3) (j := 3) (p0 := 2) (p1 := 3) (EJ_lload_n (j := 0) (i := 0) (pc := 2) D_Rows_size_2 rfl) D_Rows_size_3 rfl)
 (SJ_loop (p0 := 4) (pB := 16) (pS := 19) (pE := 26) (CJ_and (p0 := 4) (pM := 10) (pT := 16) (pF := 26) (CL_gt' (off := 19) (tgt := 26) (p0 := 4) (p1 := 5) (p2 := 6) (EJ_lload_n (j := 3) (i := 3) (pc := 4) D_Rows_size_4 rfl) (EJ_lconst (n := 0) (v := (lN 0)) (pc := 5) D_Rows_size_5 (by decide +kernel)) D_Rows_size_6 D_Rows_size_7 rfl) (CJ_lt' (off := 13) (tgt := 26) (p0 := 10) (p1 := 11) (p2 := 13) (EJ_iload_n (j := 2) (i := 2) (pc := 10) D_Rows_size_10 rfl) (EJ_bipush (n := 10) (v := (nI 10)) (pc := 11) D_Rows_size_11 (by decide +kernel)) D_Rows_size_13 rfl))
 (SJ_iinc (i := 2) (n := 1) (v := (nI 1)) (pc := 16) D_Rows_size_16 (by decide +kernel))
 (SJ_post (SJ_lstore_n (i := 3) (j := 3) (p0 := 19) (p1 := 22) (EJ_lshr (p0 := 19) (p1 := 20) (p2 := 21) (EJ_lload_n (j := 3) (i := 3) (pc := 19) D_Rows_size_19 rfl) (EJ_iconst (n := 5) (v := (nI 5)) (pc := 20) D_Rows_size_20 (by decide +kernel)) D_Rows_size_21) D_Rows_size_22 rfl) (Lead.goto (K := K_Rows_size) (pc := 23) (tgt := 4) D_Rows_size_23 rfl))))
 (SJ_ret (p0 := 26) (p1 := 27) (EJ_iload_n (j := 2) (i := 2) (pc := 26) D_Rows_size_26 rfl) D_Rows_size_27)))
 RTm_int q_505 (by decide +kernel) rfl (fun h => by cases h) (show 5 ≤ 40 from by decide) (fun _ => trivial)
theorem D_Firsts_setJoined_0 : decode cX1_setJoined 0 = .ok (.aload_n 0, 1) := by decide +kernel
theorem D_Firsts_setJoined_1 : decode cX1_setJoined 1 = .ok (.iconst (0), 1) := by decide +kernel
theorem D_Firsts_setJoined_2 : decode cX1_setJoined 2 = .ok (.putfield 15, 3) := by decide +kernel
theorem D_Firsts_setJoined_5 : decode cX1_setJoined 5 = .ok (.iconst (0), 1) := by decide +kernel
theorem D_Firsts_setJoined_6 : decode cX1_setJoined 6 = .ok (.istore_n 3, 1) := by decide +kernel
theorem D_Firsts_setJoined_7 : decode cX1_setJoined 7 = .ok (.iload_n 3, 1) := by decide +kernel
theorem D_Firsts_setJoined_8 : decode cX1_setJoined 8 = .ok (.aload_n 1, 1) := by decide +kernel
theorem D_Firsts_setJoined_9 : decode cX1_setJoined 9 = .ok (.getfield 15, 3) := by decide +kernel
theorem D_Firsts_setJoined_12 : decode cX1_setJoined 12 = .ok (.if_icmp .ge (113), 3) := by decide +kernel
theorem D_Firsts_setJoined_15 : decode cX1_setJoined 15 = .ok (.iconst (3), 1) := by decide +kernel
theorem D_Firsts_setJoined_16 : decode cX1_setJoined 16 = .ok (.aload_n 1, 1) := by decide +kernel
theorem D_Firsts_setJoined_17 : decode cX1_setJoined 17 = .ok (.getfield 11, 3) := by decide +kernel
theorem D_Firsts_setJoined_20 : decode cX1_setJoined 20 = .ok (.iload_n 3, 1) := by decide +kernel
theorem D_Firsts_setJoined_21 : decode cX1_setJoined 21 = .ok (.iaload, 1) := by decide +kernel
theorem D_Firsts_setJoined_22 : decode cX1_setJoined 22 = .ok (.i2l, 1) := by decide +kernel
theorem D_Firsts_setJoined_23 : decode cX1_setJoined 23 = .ok (.invokestatic 19, 3) := by decide +kernel
theorem D_Firsts_setJoined_26 : decode cX1_setJoined 26 = .ok (.isub, 1) := by decide +kernel
theorem D_Firsts_setJoined_27 : decode cX1_setJoined 27 = .ok (.istore 4, 2) := by decide +kernel
theorem D_Firsts_setJoined_29 : decode cX1_setJoined 29 = .ok (.iconst (0), 1) := by decide +kernel
theorem D_Firsts_setJoined_30 : decode cX1_setJoined 30 = .ok (.istore 5, 2) := by decide +kernel
theorem D_Firsts_setJoined_32 : decode cX1_setJoined 32 = .ok (.iload 5, 2) := by decide +kernel
theorem D_Firsts_setJoined_34 : decode cX1_setJoined 34 = .ok (.aload_n 2, 1) := by decide +kernel
theorem D_Firsts_setJoined_35 : decode cX1_setJoined 35 = .ok (.getfield 15, 3) := by decide +kernel
theorem D_Firsts_setJoined_38 : decode cX1_setJoined 38 = .ok (.if_icmp .ge (81), 3) := by decide +kernel
theorem D_Firsts_setJoined_41 : decode cX1_setJoined 41 = .ok (.aload_n 2, 1) := by decide +kernel
theorem D_Firsts_setJoined_42 : decode cX1_setJoined 42 = .ok (.getfield 11, 3) := by decide +kernel
theorem D_Firsts_setJoined_45 : decode cX1_setJoined 45 = .ok (.iload 5, 2) := by decide +kernel
theorem D_Firsts_setJoined_47 : decode cX1_setJoined 47 = .ok (.iaload, 1) := by decide +kernel
theorem D_Firsts_setJoined_48 : decode cX1_setJoined 48 = .ok (.i2l, 1) := by decide +kernel
theorem D_Firsts_setJoined_49 : decode cX1_setJoined 49 = .ok (.invokestatic 19, 3) := by decide +kernel
theorem D_Firsts_setJoined_52 : decode cX1_setJoined 52 = .ok (.istore 6, 2) := by decide +kernel
theorem D_Firsts_setJoined_54 : decode cX1_setJoined 54 = .ok (.aload_n 1, 1) := by decide +kernel
theorem D_Firsts_setJoined_55 : decode cX1_setJoined 55 = .ok (.getfield 11, 3) := by decide +kernel
theorem D_Firsts_setJoined_58 : decode cX1_setJoined 58 = .ok (.iload_n 3, 1) := by decide +kernel
theorem D_Firsts_setJoined_59 : decode cX1_setJoined 59 = .ok (.iaload, 1) := by decide +kernel
theorem D_Firsts_setJoined_60 : decode cX1_setJoined 60 = .ok (.iconst (5), 1) := by decide +kernel
theorem D_Firsts_setJoined_61 : decode cX1_setJoined 61 = .ok (.iload 6, 2) := by decide +kernel
theorem D_Firsts_setJoined_63 : decode cX1_setJoined 63 = .ok (.imul, 1) := by decide +kernel
theorem D_Firsts_setJoined_64 : decode cX1_setJoined 64 = .ok (.ishl, 1) := by decide +kernel
theorem D_Firsts_setJoined_65 : decode cX1_setJoined 65 = .ok (.aload_n 2, 1) := by decide +kernel
theorem D_Firsts_setJoined_66 : decode cX1_setJoined 66 = .ok (.getfield 11, 3) := by decide +kernel
theorem D_Firsts_setJoined_69 : decode cX1_setJoined 69 = .ok (.iload 5, 2) := by decide +kernel
theorem D_Firsts_setJoined_71 : decode cX1_setJoined 71 = .ok (.iaload, 1) := by decide +kernel
theorem D_Firsts_setJoined_72 : decode cX1_setJoined 72 = .ok (.ior, 1) := by decide +kernel
theorem D_Firsts_setJoined_73 : decode cX1_setJoined 73 = .ok (.istore 7, 2) := by decide +kernel
theorem D_Firsts_setJoined_75 : decode cX1_setJoined 75 = .ok (.iload 6, 2) := by decide +kernel
theorem D_Firsts_setJoined_77 : decode cX1_setJoined 77 = .ok (.iload 4, 2) := by decide +kernel
theorem D_Firsts_setJoined_79 : decode cX1_setJoined 79 = .ok (.if_icmp .gt (40), 3) := by decide +kernel
theorem D_Firsts_setJoined_82 : decode cX1_setJoined 82 = .ok (.aload_n 0, 1) := by decide +kernel
theorem D_Firsts_setJoined_83 : decode cX1_setJoined 83 = .ok (.getfield 15, 3) := by decide +kernel
theorem D_Firsts_setJoined_86 : decode cX1_setJoined 86 = .ok (.bipush (20), 2) := by decide +kernel
theorem D_Firsts_setJoined_88 : decode cX1_setJoined 88 = .ok (.if_icmp .ne (18), 3) := by decide +kernel
theorem D_Firsts_setJoined_91 : decode cX1_setJoined 91 = .ok (.iload 7, 2) := by decide +kernel
theorem D_Firsts_setJoined_93 : decode cX1_setJoined 93 = .ok (.aload_n 0, 1) := by decide +kernel
theorem D_Firsts_setJoined_94 : decode cX1_setJoined 94 = .ok (.getfield 11, 3) := by decide +kernel
theorem D_Firsts_setJoined_97 : decode cX1_setJoined 97 = .ok (.bipush (19), 2) := by decide +kernel
theorem D_Firsts_setJoined_99 : decode cX1_setJoined 99 = .ok (.iaload, 1) := by decide +kernel
theorem D_Firsts_setJoined_100 : decode cX1_setJoined 100 = .ok (.if_icmp .le (6), 3) := by decide +kernel
theorem D_Firsts_setJoined_103 : decode cX1_setJoined 103 = .ok (.goto (16), 3) := by decide +kernel
theorem D_Firsts_setJoined_106 : decode cX1_setJoined 106 = .ok (.aload_n 0, 1) := by decide +kernel
theorem D_Firsts_setJoined_107 : decode cX1_setJoined 107 = .ok (.iload 7, 2) := by decide +kernel
theorem D_Firsts_setJoined_109 : decode cX1_setJoined 109 = .ok (.invokevirtual 24, 3) := by decide +kernel
theorem D_Firsts_setJoined_112 : decode cX1_setJoined 112 = .ok (.pop, 1) := by decide +kernel
theorem D_Firsts_setJoined_113 : decode cX1_setJoined 113 = .ok (.iinc 5 (1), 3) := by decide +kernel
theorem D_Firsts_setJoined_116 : decode cX1_setJoined 116 = .ok (.goto (-84), 3) := by decide +kernel
theorem D_Firsts_setJoined_119 : decode cX1_setJoined 119 = .ok (.iinc 3 (1), 3) := by decide +kernel
theorem D_Firsts_setJoined_122 : decode cX1_setJoined 122 = .ok (.goto (-115), 3) := by decide +kernel
theorem D_Firsts_setJoined_125 : decode cX1_setJoined 125 = .ok (.return_, 1) := by decide +kernel
def K_Firsts_setJoined : SC := (cX1_setJoined, "TwoLevels$Firsts", 8, 2, false, [2, 36], NoQ)
def d_Firsts_setJoined : MD Unit := mth tt 8 (sq (sh2 (pI false 2 1) (lR 0) (eC (nI 0)))
 (sq (sq (sI1 3 (eC (nI 0)))
 (loop (eh2 c_lt (lI 3) (eh1 (gI 2 1) (lR 1)))
 (sq (sI1 4 (eh2 isubF (eC (nI 3)) (kS d_Rows_size [vJ (eh1 i2lF (eh2 (aI .int) (eh1 (gR 2 0) (lR 1)) (lI 3)))])))
 (sq (sI1 5 (eC (nI 0)))
 (loop (eh2 c_lt (lI 5) (eh1 (gI 2 1) (lR 2)))
 (sq (sI1 6 (kS d_Rows_size [vJ (eh1 i2lF (eh2 (aI .int) (eh1 (gR 2 0) (lR 2)) (lI 5)))]))
 (sq (sI1 7 (eh2 iorF (eh2 ishlF (eh2 (aI .int) (eh1 (gR 2 0) (lR 1)) (lI 3)) (eh2 imulF (eC (nI 5)) (lI 6))) (eh2 (aI .int) (eh1 (gR 2 0) (lR 2)) (lI 5))))
 (sq (sIf (cOr (eh2 c_gt (lI 6) (lI 4)) (cAnd (eh2 c_eq (eh1 (gI 2 1) (lR 0)) (eC (nI 20))) (eh2 c_gt (lI 7) (eh2 (aI .int) (eh1 (gR 2 0) (lR 0)) (eC (nI 19)))))) brk sk)
 (sE (kV 2 d_Firsts_put (lR 0) [vI (lI 7)])))))
 (sInc 5 (nI 1)))))
 (sInc 3 (nI 1))))
 rtnU))
theorem m_Firsts_setJoined : MJ 2 [2, 36] yX1_setJoined none eU (d_Firsts_setJoined) := MJ_of (K := K_Firsts_setJoined) (ri := .return_) (n1 := 0) (n2 := 0) (n3 := 0)
 (SJ_sq (p0 := 0) (p1 := 5) (nN := 0) (nB := 0) (nC := 0) (SJ_putI (z := false) (t := 2) (c := 1) (kf := 1) (r := (RX1, TX1, 2)) (p0 := 0) (p1 := 1) (p2 := 2) (EJ_aload_n (j := 0) (i := 0) (pc := 0) D_Firsts_setJoined_0 rfl) (EJ_iconst (n := 0) (v := (nI 0)) (pc := 1) D_Firsts_setJoined_1 (by decide +kernel)) D_Firsts_setJoined_2 ⟨rfl, rfl, by decide, q_483⟩ (Or.inl rfl) (fun _ _ => ⟨rfl, rfl⟩) (fun _ _ => rfl) (show (2 : Nat) ∈ ([2, 36] : List Nat) from by decide))
 (SJ_sq (p0 := 5) (p1 := 125) (nN := 0) (nB := 0) (nC := 0) (SJ_sq (p0 := 5) (p1 := 7) (nN := 125) (nB := 0) (nC := 0) (SJ_istore_n (i := 3) (j := 3) (p0 := 5) (p1 := 6) (EJ_iconst (n := 0) (v := (nI 0)) (pc := 5) D_Firsts_setJoined_5 (by decide +kernel)) D_Firsts_setJoined_6 rfl)
 (SJ_loop (p0 := 7) (pB := 15) (pS := 119) (pE := 125) (CJ_lt' (off := 113) (tgt := 125) (p0 := 7) (p1 := 8) (p2 := 12) (EJ_iload_n (j := 3) (i := 3) (pc := 7) D_Firsts_setJoined_7 rfl) (EJ_getI (t := 2) (c := 1) (kf := 1) (r := (RX1, TX1, 2)) (p0 := 8) (p1 := 9) (EJ_aload_n (j := 1) (i := 1) (pc := 8) D_Firsts_setJoined_8 rfl) D_Firsts_setJoined_9 ⟨rfl, rfl, by decide, q_483⟩ (fun _ _ => rfl)) D_Firsts_setJoined_12 rfl)
 (SJ_sq (p0 := 15) (p1 := 29) (nN := 119) (nB := 125) (nC := 119) (SJ_istore (i := 4) (p0 := 15) (p1 := 27) (EJ_isub (p0 := 15) (p1 := 16) (p2 := 26) (EJ_iconst (n := 3) (v := (nI 3)) (pc := 15) D_Firsts_setJoined_15 (by decide +kernel)) (EJ_callS (p0 := 16) (p1 := 23) (AJ_J (p0 := 16) (p1 := 23) (p2 := 23) (EJ_i2l (p0 := 16) (p1 := 22) (EJ_iald (p0 := 16) (p1 := 20) (p2 := 21) (EJ_getR (t := 2) (c := 1) (kf := 0) (r := (RX1, TX1, 2)) (p0 := 16) (p1 := 17) (EJ_aload_n (j := 1) (i := 1) (pc := 16) D_Firsts_setJoined_16 rfl) D_Firsts_setJoined_17 ⟨rfl, rfl, by decide, q_481⟩ (fun _ _ => rfl)) (EJ_iload_n (j := 3) (i := 3) (pc := 20) D_Firsts_setJoined_20 rfl) D_Firsts_setJoined_21) D_Firsts_setJoined_22) AJ_nil) m_Rows_size E1_I D_Firsts_setJoined_23 q_503 q_504 q_104 ⟨by decide +kernel, by decide +kernel, by decide +kernel⟩ (by decide) (show 1 + 1 ≤ 2 from by decide) (fun _ h => absurd h List.not_mem_nil)) D_Firsts_setJoined_26) D_Firsts_setJoined_27)
 (SJ_sq (p0 := 29) (p1 := 32) (nN := 119) (nB := 125) (nC := 119) (SJ_istore (i := 5) (p0 := 29) (p1 := 30) (EJ_iconst (n := 0) (v := (nI 0)) (pc := 29) D_Firsts_setJoined_29 (by decide +kernel)) D_Firsts_setJoined_30)
 (SJ_loop (p0 := 32) (pB := 41) (pS := 113) (pE := 119) (CJ_lt' (off := 81) (tgt := 119) (p0 := 32) (p1 := 34) (p2 := 38) (EJ_iload (i := 5) (pc := 32) D_Firsts_setJoined_32) (EJ_getI (t := 2) (c := 1) (kf := 1) (r := (RX1, TX1, 2)) (p0 := 34) (p1 := 35) (EJ_aload_n (j := 2) (i := 2) (pc := 34) D_Firsts_setJoined_34 rfl) D_Firsts_setJoined_35 ⟨rfl, rfl, by decide, q_483⟩ (fun _ _ => rfl)) D_Firsts_setJoined_38 rfl)
 (SJ_sq (p0 := 41) (p1 := 54) (nN := 113) (nB := 119) (nC := 113) (SJ_istore (i := 6) (p0 := 41) (p1 := 52) (EJ_callS (p0 := 41) (p1 := 49) (AJ_J (p0 := 41) (p1 := 49) (p2 := 49) (EJ_i2l (p0 := 41) (p1 := 48) (EJ_iald (p0 := 41) (p1 := 45) (p2 := 47) (EJ_getR (t := 2) (c := 1) (kf := 0) (r := (RX1, TX1, 2)) (p0 := 41) (p1 := 42) (EJ_aload_n (j := 2) (i := 2) (pc := 41) D_Firsts_setJoined_41 rfl) D_Firsts_setJoined_42 ⟨rfl, rfl, by decide, q_481⟩ (fun _ _ => rfl)) (EJ_iload (i := 5) (pc := 45) D_Firsts_setJoined_45) D_Firsts_setJoined_47) D_Firsts_setJoined_48) AJ_nil) m_Rows_size E1_I D_Firsts_setJoined_49 q_503 q_504 q_104 ⟨by decide +kernel, by decide +kernel, by decide +kernel⟩ (by decide) (show 1 + 1 ≤ 2 from by decide) (fun _ h => absurd h List.not_mem_nil)) D_Firsts_setJoined_52)
 (SJ_sq (p0 := 54) (p1 := 75) (nN := 113) (nB := 119) (nC := 113) (SJ_istore (i := 7) (p0 := 54) (p1 := 73) (EJ_ior (p0 := 54) (p1 := 65) (p2 := 72) (EJ_ishl (p0 := 54) (p1 := 60) (p2 := 64) (EJ_iald (p0 := 54) (p1 := 58) (p2 := 59) (EJ_getR (t := 2) (c := 1) (kf := 0) (r := (RX1, TX1, 2)) (p0 := 54) (p1 := 55) (EJ_aload_n (j := 1) (i := 1) (pc := 54) D_Firsts_setJoined_54 rfl) D_Firsts_setJoined_55 ⟨rfl, rfl, by decide, q_481⟩ (fun _ _ => rfl)) (EJ_iload_n (j := 3) (i := 3) (pc := 58) D_Firsts_setJoined_58 rfl) D_Firsts_setJoined_59) (EJ_imul (p0 := 60) (p1 := 61) (p2 := 63) (EJ_iconst (n := 5) (v := (nI 5)) (pc := 60) D_Firsts_setJoined_60 (by decide +kernel)) (EJ_iload (i := 6) (pc := 61) D_Firsts_setJoined_61) D_Firsts_setJoined_63) D_Firsts_setJoined_64) (EJ_iald (p0 := 65) (p1 := 69) (p2 := 71) (EJ_getR (t := 2) (c := 1) (kf := 0) (r := (RX1, TX1, 2)) (p0 := 65) (p1 := 66) (EJ_aload_n (j := 2) (i := 2) (pc := 65) D_Firsts_setJoined_65 rfl) D_Firsts_setJoined_66 ⟨rfl, rfl, by decide, q_481⟩ (fun _ _ => rfl)) (EJ_iload (i := 5) (pc := 69) D_Firsts_setJoined_69) D_Firsts_setJoined_71) D_Firsts_setJoined_72) D_Firsts_setJoined_73)
 (SJ_sq (p0 := 75) (p1 := 106) (nN := 113) (nB := 119) (nC := 113) (SJ_if (p0 := 75) (pT := 119) (pF := 106) (nN := 106) (nB := 119) (nC := 113) (CJ_or (p0 := 75) (pM := 82) (pT := 119) (pF := 106) (CJ_gt (off := 40) (tgt := 119) (p0 := 75) (p1 := 77) (p2 := 79) (EJ_iload (i := 6) (pc := 75) D_Firsts_setJoined_75) (EJ_iload (i := 4) (pc := 77) D_Firsts_setJoined_77) D_Firsts_setJoined_79 rfl) (CJ_and (p0 := 82) (pM := 91) (pT := 119) (pF := 106) (CJ_eq' (off := 18) (tgt := 106) (p0 := 82) (p1 := 86) (p2 := 88) (EJ_getI (t := 2) (c := 1) (kf := 1) (r := (RX1, TX1, 2)) (p0 := 82) (p1 := 83) (EJ_aload_n (j := 0) (i := 0) (pc := 82) D_Firsts_setJoined_82 rfl) D_Firsts_setJoined_83 ⟨rfl, rfl, by decide, q_483⟩ (fun _ _ => rfl)) (EJ_bipush (n := 20) (v := (nI 20)) (pc := 86) D_Firsts_setJoined_86 (by decide +kernel)) D_Firsts_setJoined_88 rfl) (CJ_lead (CJ_gt' (off := 6) (tgt := 106) (p0 := 91) (p1 := 93) (p2 := 100) (EJ_iload (i := 7) (pc := 91) D_Firsts_setJoined_91) (EJ_iald (p0 := 93) (p1 := 97) (p2 := 99) (EJ_getR (t := 2) (c := 1) (kf := 0) (r := (RX1, TX1, 2)) (p0 := 93) (p1 := 94) (EJ_aload_n (j := 0) (i := 0) (pc := 93) D_Firsts_setJoined_93 rfl) D_Firsts_setJoined_94 ⟨rfl, rfl, by decide, q_481⟩ (fun _ _ => rfl)) (EJ_bipush (n := 19) (v := (nI 19)) (pc := 97) D_Firsts_setJoined_97 (by decide +kernel)) D_Firsts_setJoined_99) D_Firsts_setJoined_100 rfl) (Lead.goto (K := K_Firsts_setJoined) (pc := 103) (tgt := 119) D_Firsts_setJoined_103 rfl) Lead.rf))) SJ_brk SJ_sk)
 (SJ_pop (ea := eI) (p0 := 106) (p1 := 112) (EJ_callV (t := 2) (c := 1) (r := (RX1, TX1, 2)) (p0 := 106) (p1 := 107) (p2 := 109) (EJ_aload_n (j := 0) (i := 0) (pc := 106) D_Firsts_setJoined_106 rfl) (AJ_I (p0 := 107) (p1 := 109) (p2 := 109) (EJ_iload (i := 7) (pc := 107) D_Firsts_setJoined_107) AJ_nil) m_Firsts_put E1_I D_Firsts_setJoined_109 rfl rfl rfl q_506 q_507 q_508 q_105 ⟨by decide +kernel, by decide +kernel, by decide +kernel⟩ (by decide) (show 1 + 1 ≤ 2 from by decide) (show ∀ x_ ∈ ([2, 36] : List Nat), x_ ∈ ([2, 36] : List Nat) from by decide)) (fun _ => ⟨_, rfl, rfl⟩) D_Firsts_setJoined_112))))
 (SJ_post (SJ_iinc (i := 5) (n := 1) (v := (nI 1)) (pc := 113) D_Firsts_setJoined_113 (by decide +kernel)) (Lead.goto (K := K_Firsts_setJoined) (pc := 116) (tgt := 32) D_Firsts_setJoined_116 rfl)))))
 (SJ_post (SJ_iinc (i := 3) (n := 1) (v := (nI 1)) (pc := 119) D_Firsts_setJoined_119 (by decide +kernel)) (Lead.goto (K := K_Firsts_setJoined) (pc := 122) (tgt := 7) D_Firsts_setJoined_122 rfl))))
 (SJ_retU (pc := 125) D_Firsts_setJoined_125)))
 RTm_void q_502 (by decide +kernel) rfl (fun h => by cases h) (show 8 ≤ 40 from by decide) (fun _ => trivial)
theorem D_Firsts_setOnly_0 : decode cX1_setOnly 0 = .ok (.aload_n 0, 1) := by decide +kernel
theorem D_Firsts_setOnly_1 : decode cX1_setOnly 1 = .ok (.getfield 11, 3) := by decide +kernel
theorem D_Firsts_setOnly_4 : decode cX1_setOnly 4 = .ok (.iconst (0), 1) := by decide +kernel
theorem D_Firsts_setOnly_5 : decode cX1_setOnly 5 = .ok (.iload_n 1, 1) := by decide +kernel
theorem D_Firsts_setOnly_6 : decode cX1_setOnly 6 = .ok (.iastore, 1) := by decide +kernel
theorem D_Firsts_setOnly_7 : decode cX1_setOnly 7 = .ok (.aload_n 0, 1) := by decide +kernel
theorem D_Firsts_setOnly_8 : decode cX1_setOnly 8 = .ok (.iconst (1), 1) := by decide +kernel
theorem D_Firsts_setOnly_9 : decode cX1_setOnly 9 = .ok (.putfield 15, 3) := by decide +kernel
theorem D_Firsts_setOnly_12 : decode cX1_setOnly 12 = .ok (.return_, 1) := by decide +kernel
def K_Firsts_setOnly : SC := (cX1_setOnly, "TwoLevels$Firsts", 2, 1, false, [2, 36], NoQ)
def d_Firsts_setOnly : MD Unit := mth tt 2 (sq (sh3 (stI [36]) (eh1 (gR 2 0) (lR 0)) (eC (nI 0)) (lI 1))
 (sq (sh2 (pI false 2 1) (lR 0) (eC (nI 1)))
 rtnU))
theorem m_Firsts_setOnly : MJ 1 [2, 36] yX1_setOnly none eU (d_Firsts_setOnly) := MJ_of (K := K_Firsts_setOnly) (ri := .return_) (n1 := 0) (n2 := 0) (n3 := 0)
 (SJ_sq (p0 := 0) (p1 := 7) (nN := 0) (nB := 0) (nC := 0) (SJ_iast (ws := [36]) (p0 := 0) (p1 := 4) (p2 := 5) (p3 := 6) (EJ_getR (t := 2) (c := 1) (kf := 0) (r := (RX1, TX1, 2)) (p0 := 0) (p1 := 1) (EJ_aload_n (j := 0) (i := 0) (pc := 0) D_Firsts_setOnly_0 rfl) D_Firsts_setOnly_1 ⟨rfl, rfl, by decide, q_481⟩ (fun _ _ => rfl)) (EJ_iconst (n := 0) (v := (nI 0)) (pc := 4) D_Firsts_setOnly_4 (by decide +kernel)) (EJ_iload_n (j := 1) (i := 1) (pc := 5) D_Firsts_setOnly_5 rfl) D_Firsts_setOnly_6 (show ∀ x_ ∈ ([36] : List Nat), x_ ∈ ([2, 36] : List Nat) from by decide))
 (SJ_sq (p0 := 7) (p1 := 12) (nN := 0) (nB := 0) (nC := 0) (SJ_putI (z := false) (t := 2) (c := 1) (kf := 1) (r := (RX1, TX1, 2)) (p0 := 7) (p1 := 8) (p2 := 9) (EJ_aload_n (j := 0) (i := 0) (pc := 7) D_Firsts_setOnly_7 rfl) (EJ_iconst (n := 1) (v := (nI 1)) (pc := 8) D_Firsts_setOnly_8 (by decide +kernel)) D_Firsts_setOnly_9 ⟨rfl, rfl, by decide, q_483⟩ (Or.inl rfl) (fun _ _ => ⟨rfl, rfl⟩) (fun _ _ => rfl) (show (2 : Nat) ∈ ([2, 36] : List Nat) from by decide))
 (SJ_retU (pc := 12) D_Firsts_setOnly_12)))
 RTm_void q_498 (by decide +kernel) rfl (fun h => by cases h) (show 2 ≤ 40 from by decide) (fun _ => trivial)
theorem D_Fit_walk_0 : decode cX2_walk 0 = .ok (.iconst (1), 1) := by decide +kernel
theorem D_Fit_walk_1 : decode cX2_walk 1 = .ok (.iload_n 2, 1) := by decide +kernel
theorem D_Fit_walk_2 : decode cX2_walk 2 = .ok (.ishl, 1) := by decide +kernel
theorem D_Fit_walk_3 : decode cX2_walk 3 = .ok (.istore_n 3, 1) := by decide +kernel
theorem D_Fit_walk_4 : decode cX2_walk 4 = .ok (.iconst (0), 1) := by decide +kernel
theorem D_Fit_walk_5 : decode cX2_walk 5 = .ok (.istore 4, 2) := by decide +kernel
theorem D_Fit_walk_7 : decode cX2_walk 7 = .ok (.iload 4, 2) := by decide +kernel
theorem D_Fit_walk_9 : decode cX2_walk 9 = .ok (.aload_n 1, 1) := by decide +kernel
theorem D_Fit_walk_10 : decode cX2_walk 10 = .ok (.arraylength, 1) := by decide +kernel
theorem D_Fit_walk_11 : decode cX2_walk 11 = .ok (.if_icmp .ge (100), 3) := by decide +kernel
theorem D_Fit_walk_14 : decode cX2_walk 14 = .ok (.iload_n 3, 1) := by decide +kernel
theorem D_Fit_walk_15 : decode cX2_walk 15 = .ok (.ifCond .eq (96), 3) := by decide +kernel
theorem D_Fit_walk_18 : decode cX2_walk 18 = .ok (.aload_n 1, 1) := by decide +kernel
theorem D_Fit_walk_19 : decode cX2_walk 19 = .ok (.iload 4, 2) := by decide +kernel
theorem D_Fit_walk_21 : decode cX2_walk 21 = .ok (.iaload, 1) := by decide +kernel
theorem D_Fit_walk_22 : decode cX2_walk 22 = .ok (.bipush (32), 2) := by decide +kernel
theorem D_Fit_walk_24 : decode cX2_walk 24 = .ok (.if_icmp .ge (20), 3) := by decide +kernel
theorem D_Fit_walk_27 : decode cX2_walk 27 = .ok (.iload_n 3, 1) := by decide +kernel
theorem D_Fit_walk_28 : decode cX2_walk 28 = .ok (.aload_n 0, 1) := by decide +kernel
theorem D_Fit_walk_29 : decode cX2_walk 29 = .ok (.getfield 13, 3) := by decide +kernel
theorem D_Fit_walk_32 : decode cX2_walk 32 = .ok (.aload_n 1, 1) := by decide +kernel
theorem D_Fit_walk_33 : decode cX2_walk 33 = .ok (.iload 4, 2) := by decide +kernel
theorem D_Fit_walk_35 : decode cX2_walk 35 = .ok (.iaload, 1) := by decide +kernel
theorem D_Fit_walk_36 : decode cX2_walk 36 = .ok (.iaload, 1) := by decide +kernel
theorem D_Fit_walk_37 : decode cX2_walk 37 = .ok (.iand, 1) := by decide +kernel
theorem D_Fit_walk_38 : decode cX2_walk 38 = .ok (.iconst (1), 1) := by decide +kernel
theorem D_Fit_walk_39 : decode cX2_walk 39 = .ok (.ishl, 1) := by decide +kernel
theorem D_Fit_walk_40 : decode cX2_walk 40 = .ok (.istore_n 3, 1) := by decide +kernel
theorem D_Fit_walk_41 : decode cX2_walk 41 = .ok (.goto (64), 3) := by decide +kernel
theorem D_Fit_walk_44 : decode cX2_walk 44 = .ok (.aload_n 1, 1) := by decide +kernel
theorem D_Fit_walk_45 : decode cX2_walk 45 = .ok (.iload 4, 2) := by decide +kernel
theorem D_Fit_walk_47 : decode cX2_walk 47 = .ok (.iaload, 1) := by decide +kernel
theorem D_Fit_walk_48 : decode cX2_walk 48 = .ok (.bipush (32), 2) := by decide +kernel
theorem D_Fit_walk_50 : decode cX2_walk 50 = .ok (.isub, 1) := by decide +kernel
theorem D_Fit_walk_51 : decode cX2_walk 51 = .ok (.bipush (11), 2) := by decide +kernel
theorem D_Fit_walk_53 : decode cX2_walk 53 = .ok (.imul, 1) := by decide +kernel
theorem D_Fit_walk_54 : decode cX2_walk 54 = .ok (.istore 5, 2) := by decide +kernel
theorem D_Fit_walk_56 : decode cX2_walk 56 = .ok (.iconst (0), 1) := by decide +kernel
theorem D_Fit_walk_57 : decode cX2_walk 57 = .ok (.istore 6, 2) := by decide +kernel
theorem D_Fit_walk_59 : decode cX2_walk 59 = .ok (.iload_n 2, 1) := by decide +kernel
theorem D_Fit_walk_60 : decode cX2_walk 60 = .ok (.istore 7, 2) := by decide +kernel
theorem D_Fit_walk_62 : decode cX2_walk 62 = .ok (.iload 7, 2) := by decide +kernel
theorem D_Fit_walk_64 : decode cX2_walk 64 = .ok (.aload_n 0, 1) := by decide +kernel
theorem D_Fit_walk_65 : decode cX2_walk 65 = .ok (.getfield 49, 3) := by decide +kernel
theorem D_Fit_walk_68 : decode cX2_walk 68 = .ok (.if_icmp .gt (34), 3) := by decide +kernel
theorem D_Fit_walk_71 : decode cX2_walk 71 = .ok (.iload_n 3, 1) := by decide +kernel
theorem D_Fit_walk_72 : decode cX2_walk 72 = .ok (.iload 7, 2) := by decide +kernel
theorem D_Fit_walk_74 : decode cX2_walk 74 = .ok (.ishr, 1) := by decide +kernel
theorem D_Fit_walk_75 : decode cX2_walk 75 = .ok (.iconst (1), 1) := by decide +kernel
theorem D_Fit_walk_76 : decode cX2_walk 76 = .ok (.iand, 1) := by decide +kernel
theorem D_Fit_walk_77 : decode cX2_walk 77 = .ok (.iconst (1), 1) := by decide +kernel
theorem D_Fit_walk_78 : decode cX2_walk 78 = .ok (.if_icmp .ne (18), 3) := by decide +kernel
theorem D_Fit_walk_81 : decode cX2_walk 81 = .ok (.iload 6, 2) := by decide +kernel
theorem D_Fit_walk_83 : decode cX2_walk 83 = .ok (.aload_n 0, 1) := by decide +kernel
theorem D_Fit_walk_84 : decode cX2_walk 84 = .ok (.getfield 19, 3) := by decide +kernel
theorem D_Fit_walk_87 : decode cX2_walk 87 = .ok (.iload 5, 2) := by decide +kernel
theorem D_Fit_walk_89 : decode cX2_walk 89 = .ok (.iload 7, 2) := by decide +kernel
theorem D_Fit_walk_91 : decode cX2_walk 91 = .ok (.iadd, 1) := by decide +kernel
theorem D_Fit_walk_92 : decode cX2_walk 92 = .ok (.iaload, 1) := by decide +kernel
theorem D_Fit_walk_93 : decode cX2_walk 93 = .ok (.ior, 1) := by decide +kernel
theorem D_Fit_walk_94 : decode cX2_walk 94 = .ok (.istore 6, 2) := by decide +kernel
theorem D_Fit_walk_96 : decode cX2_walk 96 = .ok (.iinc 7 (1), 3) := by decide +kernel
theorem D_Fit_walk_99 : decode cX2_walk 99 = .ok (.goto (-37), 3) := by decide +kernel
theorem D_Fit_walk_102 : decode cX2_walk 102 = .ok (.iload 6, 2) := by decide +kernel
theorem D_Fit_walk_104 : decode cX2_walk 104 = .ok (.istore_n 3, 1) := by decide +kernel
theorem D_Fit_walk_105 : decode cX2_walk 105 = .ok (.iinc 4 (1), 3) := by decide +kernel
theorem D_Fit_walk_108 : decode cX2_walk 108 = .ok (.goto (-101), 3) := by decide +kernel
theorem D_Fit_walk_111 : decode cX2_walk 111 = .ok (.iload_n 3, 1) := by decide +kernel
theorem D_Fit_walk_112 : decode cX2_walk 112 = .ok (.ireturn, 1) := by decide +kernel
def K_Fit_walk : SC := (cX2_walk, "TwoLevels$Fit", 8, 1, false, [], NoQ)
def d_Fit_walk : MD Int32 := mth tt 8 (sq (sI1 3 (eh2 ishlF (eC (nI 1)) (lI 2)))
 (sq (sq (sI1 4 (eC (nI 0)))
 (loop (cAnd (eh2 c_lt (lI 4) (eh1 aL (lR 1))) (eh1 z_ne (lI 3)))
 (sq (sIf (eh2 c_lt (eh2 (aI .int) (lR 1) (lI 4)) (eC (nI 32))) (sq (sI1 3 (eh2 ishlF (eh2 iandF (lI 3) (eh2 (aI .int) (eh1 (gR 3 3) (lR 0)) (eh2 (aI .int) (lR 1) (lI 4)))) (eC (nI 1))))
 cnt) sk)
 (sq (sI1 5 (eh2 imulF (eh2 isubF (eh2 (aI .int) (lR 1) (lI 4)) (eC (nI 32))) (eC (nI 11))))
 (sq (sI1 6 (eC (nI 0)))
 (sq (sq (sI1 7 (lI 2))
 (loop (eh2 c_le (lI 7) (eh1 (gI 3 2) (lR 0)))
 (sIf (eh2 c_eq (eh2 iandF (eh2 ishrF (lI 3) (lI 7)) (eC (nI 1))) (eC (nI 1))) (sI1 6 (eh2 iorF (lI 6) (eh2 (aI .int) (eh1 (gR 3 4) (lR 0)) (eh2 iaddF (lI 5) (lI 7))))) sk)
 (sInc 7 (nI 1))))
 (sI1 3 (lI 6))))))
 (sInc 4 (nI 1))))
 (rtn (lI 3))))
theorem m_Fit_walk : MJ 1 [] yX2_walk (some .int) eI (d_Fit_walk) := MJ_of (K := K_Fit_walk) (ri := .ireturn) (n1 := 0) (n2 := 0) (n3 := 0)
 (SJ_sq (p0 := 0) (p1 := 4) (nN := 0) (nB := 0) (nC := 0) (SJ_istore_n (i := 3) (j := 3) (p0 := 0) (p1 := 3) (EJ_ishl (p0 := 0) (p1 := 1) (p2 := 2) (EJ_iconst (n := 1) (v := (nI 1)) (pc := 0) D_Fit_walk_0 (by decide +kernel)) (EJ_iload_n (j := 2) (i := 2) (pc := 1) D_Fit_walk_1 rfl) D_Fit_walk_2) D_Fit_walk_3 rfl)
 (SJ_sq (p0 := 4) (p1 := 111) (nN := 0) (nB := 0) (nC := 0) (SJ_sq (p0 := 4) (p1 := 7) (nN := 111) (nB := 0) (nC := 0) (SJ_istore (i := 4) (p0 := 4) (p1 := 5) (EJ_iconst (n := 0) (v := (nI 0)) (pc := 4) D_Fit_walk_4 (by decide +kernel)) D_Fit_walk_5)
 (SJ_loop (p0 := 7) (pB := 18) (pS := 105) (pE := 111) (CJ_and (p0 := 7) (pM := 14) (pT := 18) (pF := 111) (CJ_lt' (off := 100) (tgt := 111) (p0 := 7) (p1 := 9) (p2 := 11) (EJ_iload (i := 4) (pc := 7) D_Fit_walk_7) (EJ_alen (p0 := 9) (p1 := 10) (EJ_aload_n (j := 1) (i := 1) (pc := 9) D_Fit_walk_9 rfl) D_Fit_walk_10) D_Fit_walk_11 rfl) (CZ_ne' (off := 96) (tgt := 111) (p0 := 14) (p1 := 15) (EJ_iload_n (j := 3) (i := 3) (pc := 14) D_Fit_walk_14 rfl) D_Fit_walk_15 rfl))
 (SJ_sq (p0 := 18) (p1 := 44) (nN := 105) (nB := 111) (nC := 105) (SJ_if (p0 := 18) (pT := 27) (pF := 44) (nN := 44) (nB := 111) (nC := 105) (CJ_lt' (off := 20) (tgt := 44) (p0 := 18) (p1 := 22) (p2 := 24) (EJ_iald (p0 := 18) (p1 := 19) (p2 := 21) (EJ_aload_n (j := 1) (i := 1) (pc := 18) D_Fit_walk_18 rfl) (EJ_iload (i := 4) (pc := 19) D_Fit_walk_19) D_Fit_walk_21) (EJ_bipush (n := 32) (v := (nI 32)) (pc := 22) D_Fit_walk_22 (by decide +kernel)) D_Fit_walk_24 rfl) (SJ_sq (p0 := 27) (p1 := 105) (nN := 44) (nB := 111) (nC := 105) (SJ_post (SJ_istore_n (i := 3) (j := 3) (p0 := 27) (p1 := 40) (EJ_ishl (p0 := 27) (p1 := 38) (p2 := 39) (EJ_iand (p0 := 27) (p1 := 28) (p2 := 37) (EJ_iload_n (j := 3) (i := 3) (pc := 27) D_Fit_walk_27 rfl) (EJ_iald (p0 := 28) (p1 := 32) (p2 := 36) (EJ_getR (t := 3) (c := 2) (kf := 3) (r := (RX2, TX2, 12)) (p0 := 28) (p1 := 29) (EJ_aload_n (j := 0) (i := 0) (pc := 28) D_Fit_walk_28 rfl) D_Fit_walk_29 ⟨rfl, rfl, by decide, q_198⟩ (fun _ _ => rfl)) (EJ_iald (p0 := 32) (p1 := 33) (p2 := 35) (EJ_aload_n (j := 1) (i := 1) (pc := 32) D_Fit_walk_32 rfl) (EJ_iload (i := 4) (pc := 33) D_Fit_walk_33) D_Fit_walk_35) D_Fit_walk_36) D_Fit_walk_37) (EJ_iconst (n := 1) (v := (nI 1)) (pc := 38) D_Fit_walk_38 (by decide +kernel)) D_Fit_walk_39) D_Fit_walk_40 rfl) (Lead.goto (K := K_Fit_walk) (pc := 41) (tgt := 105) D_Fit_walk_41 rfl))
 SJ_cnt) SJ_sk)
 (SJ_sq (p0 := 44) (p1 := 56) (nN := 105) (nB := 111) (nC := 105) (SJ_istore (i := 5) (p0 := 44) (p1 := 54) (EJ_imul (p0 := 44) (p1 := 51) (p2 := 53) (EJ_isub (p0 := 44) (p1 := 48) (p2 := 50) (EJ_iald (p0 := 44) (p1 := 45) (p2 := 47) (EJ_aload_n (j := 1) (i := 1) (pc := 44) D_Fit_walk_44 rfl) (EJ_iload (i := 4) (pc := 45) D_Fit_walk_45) D_Fit_walk_47) (EJ_bipush (n := 32) (v := (nI 32)) (pc := 48) D_Fit_walk_48 (by decide +kernel)) D_Fit_walk_50) (EJ_bipush (n := 11) (v := (nI 11)) (pc := 51) D_Fit_walk_51 (by decide +kernel)) D_Fit_walk_53) D_Fit_walk_54)
 (SJ_sq (p0 := 56) (p1 := 59) (nN := 105) (nB := 111) (nC := 105) (SJ_istore (i := 6) (p0 := 56) (p1 := 57) (EJ_iconst (n := 0) (v := (nI 0)) (pc := 56) D_Fit_walk_56 (by decide +kernel)) D_Fit_walk_57)
 (SJ_sq (p0 := 59) (p1 := 102) (nN := 105) (nB := 111) (nC := 105) (SJ_sq (p0 := 59) (p1 := 62) (nN := 102) (nB := 111) (nC := 105) (SJ_istore (i := 7) (p0 := 59) (p1 := 60) (EJ_iload_n (j := 2) (i := 2) (pc := 59) D_Fit_walk_59 rfl) D_Fit_walk_60)
 (SJ_loop (p0 := 62) (pB := 71) (pS := 96) (pE := 102) (CJ_le' (off := 34) (tgt := 102) (p0 := 62) (p1 := 64) (p2 := 68) (EJ_iload (i := 7) (pc := 62) D_Fit_walk_62) (EJ_getI (t := 3) (c := 2) (kf := 2) (r := (RX2, TX2, 12)) (p0 := 64) (p1 := 65) (EJ_aload_n (j := 0) (i := 0) (pc := 64) D_Fit_walk_64 rfl) D_Fit_walk_65 ⟨rfl, rfl, by decide, q_197⟩ (fun _ _ => rfl)) D_Fit_walk_68 rfl)
 (SJ_if (p0 := 71) (pT := 81) (pF := 96) (nN := 96) (nB := 102) (nC := 96) (CJ_eq' (off := 18) (tgt := 96) (p0 := 71) (p1 := 77) (p2 := 78) (EJ_iand (p0 := 71) (p1 := 75) (p2 := 76) (EJ_ishr (p0 := 71) (p1 := 72) (p2 := 74) (EJ_iload_n (j := 3) (i := 3) (pc := 71) D_Fit_walk_71 rfl) (EJ_iload (i := 7) (pc := 72) D_Fit_walk_72) D_Fit_walk_74) (EJ_iconst (n := 1) (v := (nI 1)) (pc := 75) D_Fit_walk_75 (by decide +kernel)) D_Fit_walk_76) (EJ_iconst (n := 1) (v := (nI 1)) (pc := 77) D_Fit_walk_77 (by decide +kernel)) D_Fit_walk_78 rfl) (SJ_istore (i := 6) (p0 := 81) (p1 := 94) (EJ_ior (p0 := 81) (p1 := 83) (p2 := 93) (EJ_iload (i := 6) (pc := 81) D_Fit_walk_81) (EJ_iald (p0 := 83) (p1 := 87) (p2 := 92) (EJ_getR (t := 3) (c := 2) (kf := 4) (r := (RX2, TX2, 12)) (p0 := 83) (p1 := 84) (EJ_aload_n (j := 0) (i := 0) (pc := 83) D_Fit_walk_83 rfl) D_Fit_walk_84 ⟨rfl, rfl, by decide, q_199⟩ (fun _ _ => rfl)) (EJ_iadd (p0 := 87) (p1 := 89) (p2 := 91) (EJ_iload (i := 5) (pc := 87) D_Fit_walk_87) (EJ_iload (i := 7) (pc := 89) D_Fit_walk_89) D_Fit_walk_91) D_Fit_walk_92) D_Fit_walk_93) D_Fit_walk_94) SJ_sk)
 (SJ_post (SJ_iinc (i := 7) (n := 1) (v := (nI 1)) (pc := 96) D_Fit_walk_96 (by decide +kernel)) (Lead.goto (K := K_Fit_walk) (pc := 99) (tgt := 62) D_Fit_walk_99 rfl))))
 (SJ_istore_n (i := 3) (j := 3) (p0 := 102) (p1 := 104) (EJ_iload (i := 6) (pc := 102) D_Fit_walk_102) D_Fit_walk_104 rfl)))))
 (SJ_post (SJ_iinc (i := 4) (n := 1) (v := (nI 1)) (pc := 105) D_Fit_walk_105 (by decide +kernel)) (Lead.goto (K := K_Fit_walk) (pc := 108) (tgt := 7) D_Fit_walk_108 rfl))))
 (SJ_ret (p0 := 111) (p1 := 112) (EJ_iload_n (j := 3) (i := 3) (pc := 111) D_Fit_walk_111 rfl) D_Fit_walk_112)))
 RTm_int q_691 (by decide +kernel) rfl (fun h => by cases h) (show 8 ≤ 40 from by decide) (fun _ => trivial)
theorem D_Upper_alternatives_0 : decode cX10_alternatives 0 = .ok (.aload_n 0, 1) := by decide +kernel
theorem D_Upper_alternatives_1 : decode cX10_alternatives 1 = .ok (.getfield 23, 3) := by decide +kernel
theorem D_Upper_alternatives_4 : decode cX10_alternatives 4 = .ok (.iload_n 1, 1) := by decide +kernel
theorem D_Upper_alternatives_5 : decode cX10_alternatives 5 = .ok (.iaload, 1) := by decide +kernel
theorem D_Upper_alternatives_6 : decode cX10_alternatives 6 = .ok (.ireturn, 1) := by decide +kernel
def K_Upper_alternatives : SC := (cX10_alternatives, "TwoLevels$Upper", 2, 1, false, [], NoQ)
def d_Upper_alternatives : MD Int32 := mth tt 2 (rtn (eh2 (aI .int) (eh1 (gR 11 3) (lR 0)) (lI 1)))
theorem m_Upper_alternatives : MJ 1 [] yX10_alternatives (some .int) eI (d_Upper_alternatives) := MJ_of (K := K_Upper_alternatives) (ri := .ireturn) (n1 := 0) (n2 := 0) (n3 := 0)
 (SJ_ret (p0 := 0) (p1 := 6) (EJ_iald (p0 := 0) (p1 := 4) (p2 := 5) (EJ_getR (t := 11) (c := 10) (kf := 3) (r := (RX10, TX10, 7)) (p0 := 0) (p1 := 1) (EJ_aload_n (j := 0) (i := 0) (pc := 0) D_Upper_alternatives_0 rfl) D_Upper_alternatives_1 ⟨rfl, rfl, by decide, q_132⟩ (fun _ _ => rfl)) (EJ_iload_n (j := 1) (i := 1) (pc := 4) D_Upper_alternatives_4 rfl) D_Upper_alternatives_5) D_Upper_alternatives_6)
 RTm_int q_631 (by decide +kernel) rfl (fun h => by cases h) (show 2 ≤ 40 from by decide) (fun _ => trivial)
theorem D_Upper_rowOf_0 : decode cX10_rowOf 0 = .ok (.aload_n 0, 1) := by decide +kernel
theorem D_Upper_rowOf_1 : decode cX10_rowOf 1 = .ok (.getfield 19, 3) := by decide +kernel
theorem D_Upper_rowOf_4 : decode cX10_rowOf 4 = .ok (.iload_n 1, 1) := by decide +kernel
theorem D_Upper_rowOf_5 : decode cX10_rowOf 5 = .ok (.iconst (4), 1) := by decide +kernel
theorem D_Upper_rowOf_6 : decode cX10_rowOf 6 = .ok (.imul, 1) := by decide +kernel
theorem D_Upper_rowOf_7 : decode cX10_rowOf 7 = .ok (.iload_n 2, 1) := by decide +kernel
theorem D_Upper_rowOf_8 : decode cX10_rowOf 8 = .ok (.iadd, 1) := by decide +kernel
theorem D_Upper_rowOf_9 : decode cX10_rowOf 9 = .ok (.aaload, 1) := by decide +kernel
theorem D_Upper_rowOf_10 : decode cX10_rowOf 10 = .ok (.areturn, 1) := by decide +kernel
def K_Upper_rowOf : SC := (cX10_rowOf, "TwoLevels$Upper", 3, 1, false, [], NoQ)
def d_Upper_rowOf : MD (Option Nat) := mth tt 3 (rtn (eh2 (aR (.array .int)) (eh1 (gR 11 2) (lR 0)) (eh2 iaddF (eh2 imulF (lI 1) (eC (nI 4))) (lI 2))))
theorem m_Upper_rowOf : MJ 1 [] yX10_rowOf (some (.array .int)) eR (d_Upper_rowOf) := MJ_of (K := K_Upper_rowOf) (ri := .areturn) (n1 := 0) (n2 := 0) (n3 := 0)
 (SJ_ret (p0 := 0) (p1 := 10) (EJ_aald (p0 := 0) (p1 := 4) (p2 := 9) (EJ_getR (t := 11) (c := 10) (kf := 2) (r := (RX10, TX10, 7)) (p0 := 0) (p1 := 1) (EJ_aload_n (j := 0) (i := 0) (pc := 0) D_Upper_rowOf_0 rfl) D_Upper_rowOf_1 ⟨rfl, rfl, by decide, q_131⟩ (fun _ _ => rfl)) (EJ_iadd (p0 := 4) (p1 := 7) (p2 := 8) (EJ_imul (p0 := 4) (p1 := 5) (p2 := 6) (EJ_iload_n (j := 1) (i := 1) (pc := 4) D_Upper_rowOf_4 rfl) (EJ_iconst (n := 4) (v := (nI 4)) (pc := 5) D_Upper_rowOf_5 (by decide +kernel)) D_Upper_rowOf_6) (EJ_iload_n (j := 2) (i := 2) (pc := 7) D_Upper_rowOf_7 rfl) D_Upper_rowOf_8) D_Upper_rowOf_9 (Or.inr ⟨_, rfl⟩)) D_Upper_rowOf_10)
 (RTm_ref (Or.inr ⟨_, rfl⟩)) q_491 (by decide +kernel) rfl (fun h => by cases h) (show 3 ≤ 40 from by decide) (fun _ => trivial)
theorem D_Fit_growSpans_0 : decode cX2_growSpans 0 = .ok (.iload_n 1, 1) := by decide +kernel
theorem D_Fit_growSpans_1 : decode cX2_growSpans 1 = .ok (.bipush (11), 2) := by decide +kernel
theorem D_Fit_growSpans_3 : decode cX2_growSpans 3 = .ok (.imul, 1) := by decide +kernel
theorem D_Fit_growSpans_4 : decode cX2_growSpans 4 = .ok (.iload_n 2, 1) := by decide +kernel
theorem D_Fit_growSpans_5 : decode cX2_growSpans 5 = .ok (.iadd, 1) := by decide +kernel
theorem D_Fit_growSpans_6 : decode cX2_growSpans 6 = .ok (.istore_n 3, 1) := by decide +kernel
theorem D_Fit_growSpans_7 : decode cX2_growSpans 7 = .ok (.aload_n 0, 1) := by decide +kernel
theorem D_Fit_growSpans_8 : decode cX2_growSpans 8 = .ok (.getfield 19, 3) := by decide +kernel
theorem D_Fit_growSpans_11 : decode cX2_growSpans 11 = .ok (.iload_n 3, 1) := by decide +kernel
theorem D_Fit_growSpans_12 : decode cX2_growSpans 12 = .ok (.iaload, 1) := by decide +kernel
theorem D_Fit_growSpans_13 : decode cX2_growSpans 13 = .ok (.istore 4, 2) := by decide +kernel
theorem D_Fit_growSpans_15 : decode cX2_growSpans 15 = .ok (.iconst (0), 1) := by decide +kernel
theorem D_Fit_growSpans_16 : decode cX2_growSpans 16 = .ok (.istore 5, 2) := by decide +kernel
theorem D_Fit_growSpans_18 : decode cX2_growSpans 18 = .ok (.iload 5, 2) := by decide +kernel
theorem D_Fit_growSpans_20 : decode cX2_growSpans 20 = .ok (.aload_n 0, 1) := by decide +kernel
theorem D_Fit_growSpans_21 : decode cX2_growSpans 21 = .ok (.getfield 37, 3) := by decide +kernel
theorem D_Fit_growSpans_24 : decode cX2_growSpans 24 = .ok (.iload_n 1, 1) := by decide +kernel
theorem D_Fit_growSpans_25 : decode cX2_growSpans 25 = .ok (.invokevirtual 75, 3) := by decide +kernel
theorem D_Fit_growSpans_28 : decode cX2_growSpans 28 = .ok (.if_icmp .ge (33), 3) := by decide +kernel
theorem D_Fit_growSpans_31 : decode cX2_growSpans 31 = .ok (.aload_n 0, 1) := by decide +kernel
theorem D_Fit_growSpans_32 : decode cX2_growSpans 32 = .ok (.getfield 19, 3) := by decide +kernel
theorem D_Fit_growSpans_35 : decode cX2_growSpans 35 = .ok (.iload_n 3, 1) := by decide +kernel
theorem D_Fit_growSpans_36 : decode cX2_growSpans 36 = .ok (.dup2, 1) := by decide +kernel
theorem D_Fit_growSpans_37 : decode cX2_growSpans 37 = .ok (.iaload, 1) := by decide +kernel
theorem D_Fit_growSpans_38 : decode cX2_growSpans 38 = .ok (.aload_n 0, 1) := by decide +kernel
theorem D_Fit_growSpans_39 : decode cX2_growSpans 39 = .ok (.aload_n 0, 1) := by decide +kernel
theorem D_Fit_growSpans_40 : decode cX2_growSpans 40 = .ok (.getfield 37, 3) := by decide +kernel
theorem D_Fit_growSpans_43 : decode cX2_growSpans 43 = .ok (.iload_n 1, 1) := by decide +kernel
theorem D_Fit_growSpans_44 : decode cX2_growSpans 44 = .ok (.iload 5, 2) := by decide +kernel
theorem D_Fit_growSpans_46 : decode cX2_growSpans 46 = .ok (.invokevirtual 79, 3) := by decide +kernel
theorem D_Fit_growSpans_49 : decode cX2_growSpans 49 = .ok (.iload_n 2, 1) := by decide +kernel
theorem D_Fit_growSpans_50 : decode cX2_growSpans 50 = .ok (.invokevirtual 83, 3) := by decide +kernel
theorem D_Fit_growSpans_53 : decode cX2_growSpans 53 = .ok (.ior, 1) := by decide +kernel
theorem D_Fit_growSpans_54 : decode cX2_growSpans 54 = .ok (.iastore, 1) := by decide +kernel
theorem D_Fit_growSpans_55 : decode cX2_growSpans 55 = .ok (.iinc 5 (1), 3) := by decide +kernel
theorem D_Fit_growSpans_58 : decode cX2_growSpans 58 = .ok (.goto (-40), 3) := by decide +kernel
theorem D_Fit_growSpans_61 : decode cX2_growSpans 61 = .ok (.aload_n 0, 1) := by decide +kernel
theorem D_Fit_growSpans_62 : decode cX2_growSpans 62 = .ok (.getfield 19, 3) := by decide +kernel
theorem D_Fit_growSpans_65 : decode cX2_growSpans 65 = .ok (.iload_n 3, 1) := by decide +kernel
theorem D_Fit_growSpans_66 : decode cX2_growSpans 66 = .ok (.iaload, 1) := by decide +kernel
theorem D_Fit_growSpans_67 : decode cX2_growSpans 67 = .ok (.iload 4, 2) := by decide +kernel
theorem D_Fit_growSpans_69 : decode cX2_growSpans 69 = .ok (.if_icmp .eq (7), 3) := by decide +kernel
theorem D_Fit_growSpans_72 : decode cX2_growSpans 72 = .ok (.iconst (1), 1) := by decide +kernel
theorem D_Fit_growSpans_73 : decode cX2_growSpans 73 = .ok (.goto (4), 3) := by decide +kernel
theorem D_Fit_growSpans_76 : decode cX2_growSpans 76 = .ok (.iconst (0), 1) := by decide +kernel
theorem D_Fit_growSpans_77 : decode cX2_growSpans 77 = .ok (.ireturn, 1) := by decide +kernel
def K_Fit_growSpans : SC := (cX2_growSpans, "TwoLevels$Fit", 6, 2, false, [44], NoQ)
def d_Fit_growSpans : MD Int32 := mth zz 6 (sq (sI1 3 (eh2 iaddF (eh2 imulF (lI 1) (eC (nI 11))) (lI 2)))
 (sq (sI1 4 (eh2 (aI .int) (eh1 (gR 3 4) (lR 0)) (lI 3)))
 (sq (sq (sI1 5 (eC (nI 0)))
 (loop (eh2 c_lt (lI 5) (kV 11 d_Upper_alternatives (eh1 (gR 3 0) (lR 0)) [vI (lI 1)]))
 (su3 (aI .int) (uA [44] (fun x y => x ||| y)) (eh1 (gR 3 4) (lR 0)) (lI 3) (kV 3 d_Fit_walk (lR 0) [vR (kV 11 d_Upper_rowOf (eh1 (gR 3 0) (lR 0)) [vI (lI 1), vI (lI 5)]), vI (lI 2)]))
 (sInc 5 (nI 1))))
 (rtn (eIf (eh2 c_ne (eh2 (aI .int) (eh1 (gR 3 4) (lR 0)) (lI 3)) (lI 4)) (eC (nI 1)) (eC (nI 0)))))))
theorem m_Fit_growSpans : MJ 2 [44] yX2_growSpans (some .boolean) eI (d_Fit_growSpans) := MJ_of (K := K_Fit_growSpans) (ri := .ireturn) (n1 := 0) (n2 := 0) (n3 := 0)
 (SJ_sq (p0 := 0) (p1 := 7) (nN := 0) (nB := 0) (nC := 0) (SJ_istore_n (i := 3) (j := 3) (p0 := 0) (p1 := 6) (EJ_iadd (p0 := 0) (p1 := 4) (p2 := 5) (EJ_imul (p0 := 0) (p1 := 1) (p2 := 3) (EJ_iload_n (j := 1) (i := 1) (pc := 0) D_Fit_growSpans_0 rfl) (EJ_bipush (n := 11) (v := (nI 11)) (pc := 1) D_Fit_growSpans_1 (by decide +kernel)) D_Fit_growSpans_3) (EJ_iload_n (j := 2) (i := 2) (pc := 4) D_Fit_growSpans_4 rfl) D_Fit_growSpans_5) D_Fit_growSpans_6 rfl)
 (SJ_sq (p0 := 7) (p1 := 15) (nN := 0) (nB := 0) (nC := 0) (SJ_istore (i := 4) (p0 := 7) (p1 := 13) (EJ_iald (p0 := 7) (p1 := 11) (p2 := 12) (EJ_getR (t := 3) (c := 2) (kf := 4) (r := (RX2, TX2, 12)) (p0 := 7) (p1 := 8) (EJ_aload_n (j := 0) (i := 0) (pc := 7) D_Fit_growSpans_7 rfl) D_Fit_growSpans_8 ⟨rfl, rfl, by decide, q_199⟩ (fun _ _ => rfl)) (EJ_iload_n (j := 3) (i := 3) (pc := 11) D_Fit_growSpans_11 rfl) D_Fit_growSpans_12) D_Fit_growSpans_13)
 (SJ_sq (p0 := 15) (p1 := 61) (nN := 0) (nB := 0) (nC := 0) (SJ_sq (p0 := 15) (p1 := 18) (nN := 61) (nB := 0) (nC := 0) (SJ_istore (i := 5) (p0 := 15) (p1 := 16) (EJ_iconst (n := 0) (v := (nI 0)) (pc := 15) D_Fit_growSpans_15 (by decide +kernel)) D_Fit_growSpans_16)
 (SJ_loop (p0 := 18) (pB := 31) (pS := 55) (pE := 61) (CJ_lt' (off := 33) (tgt := 61) (p0 := 18) (p1 := 20) (p2 := 28) (EJ_iload (i := 5) (pc := 18) D_Fit_growSpans_18) (EJ_callV (t := 11) (c := 10) (r := (RX10, TX10, 7)) (p0 := 20) (p1 := 24) (p2 := 25) (EJ_getR (t := 3) (c := 2) (kf := 0) (r := (RX2, TX2, 12)) (p0 := 20) (p1 := 21) (EJ_aload_n (j := 0) (i := 0) (pc := 20) D_Fit_growSpans_20 rfl) D_Fit_growSpans_21 ⟨rfl, rfl, by decide, q_195⟩ (fun _ _ => rfl)) (AJ_I (p0 := 24) (p1 := 25) (p2 := 25) (EJ_iload_n (j := 1) (i := 1) (pc := 24) D_Fit_growSpans_24 rfl) AJ_nil) m_Upper_alternatives E1_I D_Fit_growSpans_25 rfl rfl rfl q_687 q_629 q_630 q_93 ⟨by decide +kernel, by decide +kernel, by decide +kernel⟩ (by decide) (show 1 + 1 ≤ 2 from by decide) (fun _ h => absurd h List.not_mem_nil)) D_Fit_growSpans_28 rfl)
 (SJ_upA (ws := [44]) (f := (fun x y => x ||| y)) (p0 := 31) (p1 := 35) (p2 := 36) (p4 := 53) (EJ_getR (t := 3) (c := 2) (kf := 4) (r := (RX2, TX2, 12)) (p0 := 31) (p1 := 32) (EJ_aload_n (j := 0) (i := 0) (pc := 31) D_Fit_growSpans_31 rfl) D_Fit_growSpans_32 ⟨rfl, rfl, by decide, q_199⟩ (fun _ _ => rfl)) (EJ_iload_n (j := 3) (i := 3) (pc := 35) D_Fit_growSpans_35 rfl) D_Fit_growSpans_36 D_Fit_growSpans_37 (EJ_callV (t := 3) (c := 2) (r := (RX2, TX2, 12)) (p0 := 38) (p1 := 39) (p2 := 50) (EJ_aload_n (j := 0) (i := 0) (pc := 38) D_Fit_growSpans_38 rfl) (AJ_R (p0 := 39) (p1 := 49) (p2 := 50) (EJ_callV (t := 11) (c := 10) (r := (RX10, TX10, 7)) (p0 := 39) (p1 := 43) (p2 := 46) (EJ_getR (t := 3) (c := 2) (kf := 0) (r := (RX2, TX2, 12)) (p0 := 39) (p1 := 40) (EJ_aload_n (j := 0) (i := 0) (pc := 39) D_Fit_growSpans_39 rfl) D_Fit_growSpans_40 ⟨rfl, rfl, by decide, q_195⟩ (fun _ _ => rfl)) (AJ_I (p0 := 43) (p1 := 44) (p2 := 46) (EJ_iload_n (j := 1) (i := 1) (pc := 43) D_Fit_growSpans_43 rfl) (AJ_I (p0 := 44) (p1 := 46) (p2 := 46) (EJ_iload (i := 5) (pc := 44) D_Fit_growSpans_44) AJ_nil)) m_Upper_rowOf E1_R D_Fit_growSpans_46 rfl rfl rfl q_688 q_489 q_490 q_93 ⟨by decide +kernel, by decide +kernel, by decide +kernel⟩ (by decide) (show 1 + 1 ≤ 2 from by decide) (fun _ h => absurd h List.not_mem_nil)) (AJ_I (p0 := 49) (p1 := 50) (p2 := 50) (EJ_iload_n (j := 2) (i := 2) (pc := 49) D_Fit_growSpans_49 rfl) AJ_nil)) m_Fit_walk E1_I D_Fit_growSpans_50 rfl rfl rfl q_689 q_690 q_19 q_95 ⟨by decide +kernel, by decide +kernel, by decide +kernel⟩ (by decide) (show 1 + 1 ≤ 2 from by decide) (fun _ h => absurd h List.not_mem_nil)) (Op2_ior D_Fit_growSpans_53) D_Fit_growSpans_54 (show ∀ x_ ∈ ([44] : List Nat), x_ ∈ ([44] : List Nat) from by decide))
 (SJ_post (SJ_iinc (i := 5) (n := 1) (v := (nI 1)) (pc := 55) D_Fit_growSpans_55 (by decide +kernel)) (Lead.goto (K := K_Fit_growSpans) (pc := 58) (tgt := 18) D_Fit_growSpans_58 rfl))))
 (SJ_ret (p0 := 61) (p1 := 77) (EJ_if (p0 := 61) (pT := 72) (pF := 76) (pE := 73) (p1 := 77) (CJ_ne' (off := 7) (tgt := 76) (p0 := 61) (p1 := 67) (p2 := 69) (EJ_iald (p0 := 61) (p1 := 65) (p2 := 66) (EJ_getR (t := 3) (c := 2) (kf := 4) (r := (RX2, TX2, 12)) (p0 := 61) (p1 := 62) (EJ_aload_n (j := 0) (i := 0) (pc := 61) D_Fit_growSpans_61 rfl) D_Fit_growSpans_62 ⟨rfl, rfl, by decide, q_199⟩ (fun _ _ => rfl)) (EJ_iload_n (j := 3) (i := 3) (pc := 65) D_Fit_growSpans_65 rfl) D_Fit_growSpans_66) (EJ_iload (i := 4) (pc := 67) D_Fit_growSpans_67) D_Fit_growSpans_69 rfl) (EJ_iconst (n := 1) (v := (nI 1)) (pc := 72) D_Fit_growSpans_72 (by decide +kernel)) (Lead.goto (K := K_Fit_growSpans) (pc := 73) (tgt := 77) D_Fit_growSpans_73 rfl) (EJ_iconst (n := 0) (v := (nI 0)) (pc := 76) D_Fit_growSpans_76 (by decide +kernel))) D_Fit_growSpans_77))))
 RTm_bool q_686 (by decide +kernel) rfl (fun h => by cases h) (show 6 ≤ 40 from by decide) (fun _ => trivial)
