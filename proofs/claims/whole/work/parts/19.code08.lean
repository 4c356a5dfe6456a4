/-! the program: part 8 -/
theorem D_Upper_isTold_0 : decode cX10_isTold 0 = .ok (.aload_n 0, 1) := by decide +kernel
theorem D_Upper_isTold_1 : decode cX10_isTold 1 = .ok (.getfield 36, 3) := by decide +kernel
theorem D_Upper_isTold_4 : decode cX10_isTold 4 = .ok (.iload_n 1, 1) := by decide +kernel
theorem D_Upper_isTold_5 : decode cX10_isTold 5 = .ok (.invokestatic 39, 3) := by decide +kernel
theorem D_Upper_isTold_8 : decode cX10_isTold 8 = .ok (.iand, 1) := by decide +kernel
theorem D_Upper_isTold_9 : decode cX10_isTold 9 = .ok (.ifCond .eq (7), 3) := by decide +kernel
theorem D_Upper_isTold_12 : decode cX10_isTold 12 = .ok (.iconst (1), 1) := by decide +kernel
theorem D_Upper_isTold_13 : decode cX10_isTold 13 = .ok (.goto (4), 3) := by decide +kernel
theorem D_Upper_isTold_16 : decode cX10_isTold 16 = .ok (.iconst (0), 1) := by decide +kernel
theorem D_Upper_isTold_17 : decode cX10_isTold 17 = .ok (.ireturn, 1) := by decide +kernel
def K_Upper_isTold : SC := (cX10_isTold, "TwoLevels$Upper", 2, 2, false, [], NoQ)
def d_Upper_isTold : MD Int32 := mth zz 2 (rtn (eIf (eh1 z_ne (eh2 iandF (eh1 (gI 11 5) (lR 0)) (kS d_Upper_bitOf [vI (lI 1)]))) (eC (nI 1)) (eC (nI 0))))
theorem m_Upper_isTold : MJ 2 [] yX10_isTold (some .boolean) eI (d_Upper_isTold) := MJ_of (K := K_Upper_isTold) (ri := .ireturn) (n1 := 0) (n2 := 0) (n3 := 0)
 (SJ_ret (p0 := 0) (p1 := 17) (EJ_if (p0 := 0) (pT := 12) (pF := 16) (pE := 13) (p1 := 17) (CZ_ne' (off := 7) (tgt := 16) (p0 := 0) (p1 := 9) (EJ_iand (p0 := 0) (p1 := 4) (p2 := 8) (EJ_getI (t := 11) (c := 10) (kf := 5) (r := (RX10, TX10, 7)) (p0 := 0) (p1 := 1) (EJ_aload_n (j := 0) (i := 0) (pc := 0) D_Upper_isTold_0 rfl) D_Upper_isTold_1 ⟨rfl, rfl, by decide, q_134⟩ (fun _ _ => rfl)) (EJ_callS (p0 := 4) (p1 := 5) (AJ_I (p0 := 4) (p1 := 5) (p2 := 5) (EJ_iload_n (j := 1) (i := 1) (pc := 4) D_Upper_isTold_4 rfl) AJ_nil) m_Upper_bitOf E1_I D_Upper_isTold_5 q_339 q_340 q_93 ⟨by decide +kernel, by decide +kernel, by decide +kernel⟩ (by decide) (show 1 + 1 ≤ 2 from by decide) (fun _ h => absurd h List.not_mem_nil)) D_Upper_isTold_8) D_Upper_isTold_9 rfl) (EJ_iconst (n := 1) (v := (nI 1)) (pc := 12) D_Upper_isTold_12 (by decide +kernel)) (Lead.goto (K := K_Upper_isTold) (pc := 13) (tgt := 17) D_Upper_isTold_13 rfl) (EJ_iconst (n := 0) (v := (nI 0)) (pc := 16) D_Upper_isTold_16 (by decide +kernel))) D_Upper_isTold_17)
 RTm_bool q_338 (by decide +kernel) rfl (fun h => by cases h) (show 2 ≤ 40 from by decide) (fun _ => trivial)
theorem D_Upper_signOf_0 : decode cX10_signOf 0 = .ok (.iload_n 1, 1) := by decide +kernel
theorem D_Upper_signOf_1 : decode cX10_signOf 1 = .ok (.bipush (97), 2) := by decide +kernel
theorem D_Upper_signOf_3 : decode cX10_signOf 3 = .ok (.if_icmp .lt (16), 3) := by decide +kernel
theorem D_Upper_signOf_6 : decode cX10_signOf 6 = .ok (.iload_n 1, 1) := by decide +kernel
theorem D_Upper_signOf_7 : decode cX10_signOf 7 = .ok (.bipush (122), 2) := by decide +kernel
theorem D_Upper_signOf_9 : decode cX10_signOf 9 = .ok (.if_icmp .gt (10), 3) := by decide +kernel
theorem D_Upper_signOf_12 : decode cX10_signOf 12 = .ok (.iload_n 1, 1) := by decide +kernel
theorem D_Upper_signOf_13 : decode cX10_signOf 13 = .ok (.bipush (97), 2) := by decide +kernel
theorem D_Upper_signOf_15 : decode cX10_signOf 15 = .ok (.isub, 1) := by decide +kernel
theorem D_Upper_signOf_16 : decode cX10_signOf 16 = .ok (.iconst (1), 1) := by decide +kernel
theorem D_Upper_signOf_17 : decode cX10_signOf 17 = .ok (.iadd, 1) := by decide +kernel
theorem D_Upper_signOf_18 : decode cX10_signOf 18 = .ok (.ireturn, 1) := by decide +kernel
theorem D_Upper_signOf_19 : decode cX10_signOf 19 = .ok (.iload_n 1, 1) := by decide +kernel
theorem D_Upper_signOf_20 : decode cX10_signOf 20 = .ok (.bipush (65), 2) := by decide +kernel
theorem D_Upper_signOf_22 : decode cX10_signOf 22 = .ok (.if_icmp .lt (9), 3) := by decide +kernel
theorem D_Upper_signOf_25 : decode cX10_signOf 25 = .ok (.iload_n 1, 1) := by decide +kernel
theorem D_Upper_signOf_26 : decode cX10_signOf 26 = .ok (.bipush (90), 2) := by decide +kernel
theorem D_Upper_signOf_28 : decode cX10_signOf 28 = .ok (.if_icmp .le (5), 3) := by decide +kernel
theorem D_Upper_signOf_31 : decode cX10_signOf 31 = .ok (.iconst (0), 1) := by decide +kernel
theorem D_Upper_signOf_32 : decode cX10_signOf 32 = .ok (.ireturn, 1) := by decide +kernel
theorem D_Upper_signOf_33 : decode cX10_signOf 33 = .ok (.iload_n 1, 1) := by decide +kernel
theorem D_Upper_signOf_34 : decode cX10_signOf 34 = .ok (.bipush (65), 2) := by decide +kernel
theorem D_Upper_signOf_36 : decode cX10_signOf 36 = .ok (.isub, 1) := by decide +kernel
theorem D_Upper_signOf_37 : decode cX10_signOf 37 = .ok (.istore_n 2, 1) := by decide +kernel
theorem D_Upper_signOf_38 : decode cX10_signOf 38 = .ok (.aload_n 0, 1) := by decide +kernel
theorem D_Upper_signOf_39 : decode cX10_signOf 39 = .ok (.getfield 11, 3) := by decide +kernel
theorem D_Upper_signOf_42 : decode cX10_signOf 42 = .ok (.iload_n 2, 1) := by decide +kernel
theorem D_Upper_signOf_43 : decode cX10_signOf 43 = .ok (.iaload, 1) := by decide +kernel
theorem D_Upper_signOf_44 : decode cX10_signOf 44 = .ok (.ifCond .ne (33), 3) := by decide +kernel
theorem D_Upper_signOf_47 : decode cX10_signOf 47 = .ok (.aload_n 0, 1) := by decide +kernel
theorem D_Upper_signOf_48 : decode cX10_signOf 48 = .ok (.getfield 15, 3) := by decide +kernel
theorem D_Upper_signOf_51 : decode cX10_signOf 51 = .ok (.aload_n 0, 1) := by decide +kernel
theorem D_Upper_signOf_52 : decode cX10_signOf 52 = .ok (.getfield 32, 3) := by decide +kernel
theorem D_Upper_signOf_55 : decode cX10_signOf 55 = .ok (.iload_n 1, 1) := by decide +kernel
theorem D_Upper_signOf_56 : decode cX10_signOf 56 = .ok (.iastore, 1) := by decide +kernel
theorem D_Upper_signOf_57 : decode cX10_signOf 57 = .ok (.aload_n 0, 1) := by decide +kernel
theorem D_Upper_signOf_58 : decode cX10_signOf 58 = .ok (.dup, 1) := by decide +kernel
theorem D_Upper_signOf_59 : decode cX10_signOf 59 = .ok (.getfield 32, 3) := by decide +kernel
theorem D_Upper_signOf_62 : decode cX10_signOf 62 = .ok (.iconst (1), 1) := by decide +kernel
theorem D_Upper_signOf_63 : decode cX10_signOf 63 = .ok (.iadd, 1) := by decide +kernel
theorem D_Upper_signOf_64 : decode cX10_signOf 64 = .ok (.putfield 32, 3) := by decide +kernel
theorem D_Upper_signOf_67 : decode cX10_signOf 67 = .ok (.aload_n 0, 1) := by decide +kernel
theorem D_Upper_signOf_68 : decode cX10_signOf 68 = .ok (.getfield 11, 3) := by decide +kernel
theorem D_Upper_signOf_71 : decode cX10_signOf 71 = .ok (.iload_n 2, 1) := by decide +kernel
theorem D_Upper_signOf_72 : decode cX10_signOf 72 = .ok (.aload_n 0, 1) := by decide +kernel
theorem D_Upper_signOf_73 : decode cX10_signOf 73 = .ok (.getfield 32, 3) := by decide +kernel
theorem D_Upper_signOf_76 : decode cX10_signOf 76 = .ok (.iastore, 1) := by decide +kernel
theorem D_Upper_signOf_77 : decode cX10_signOf 77 = .ok (.bipush (32), 2) := by decide +kernel
theorem D_Upper_signOf_79 : decode cX10_signOf 79 = .ok (.aload_n 0, 1) := by decide +kernel
theorem D_Upper_signOf_80 : decode cX10_signOf 80 = .ok (.getfield 11, 3) := by decide +kernel
theorem D_Upper_signOf_83 : decode cX10_signOf 83 = .ok (.iload_n 2, 1) := by decide +kernel
theorem D_Upper_signOf_84 : decode cX10_signOf 84 = .ok (.iaload, 1) := by decide +kernel
theorem D_Upper_signOf_85 : decode cX10_signOf 85 = .ok (.iadd, 1) := by decide +kernel
theorem D_Upper_signOf_86 : decode cX10_signOf 86 = .ok (.iconst (1), 1) := by decide +kernel
theorem D_Upper_signOf_87 : decode cX10_signOf 87 = .ok (.isub, 1) := by decide +kernel
theorem D_Upper_signOf_88 : decode cX10_signOf 88 = .ok (.ireturn, 1) := by decide +kernel
def K_Upper_signOf : SC := (cX10_signOf, "TwoLevels$Upper", 3, 1, false, [11, 29, 30], NoQ)
def d_Upper_signOf : MD Int32 := mth tt 3 (sq (sIf (cAnd (eh2 c_ge (lI 1) (eC (nI 97))) (eh2 c_le (lI 1) (eC (nI 122)))) (rtn (eh2 iaddF (eh2 isubF (lI 1) (eC (nI 97))) (eC (nI 1)))) sk)
 (sq (sIf (cOr (eh2 c_lt (lI 1) (eC (nI 65))) (eh2 c_gt (lI 1) (eC (nI 90)))) (rtn (eC (nI 0))) sk)
 (sq (sI1 2 (eh2 isubF (lI 1) (eC (nI 65))))
 (sq (sIf (eh1 z_eq (eh2 (aI .int) (eh1 (gR 11 0) (lR 0)) (lI 2))) (sq (sh3 (stI [30]) (eh1 (gR 11 1) (lR 0)) (eh1 (gI 11 6) (lR 0)) (lI 1))
 (sq (su2 (gI 11 6) (uF false 11 6 (fun x y => x + y)) (lR 0) (eC (nI 1)))
 (sh3 (stI [29]) (eh1 (gR 11 0) (lR 0)) (lI 2) (eh1 (gI 11 6) (lR 0))))) sk)
 (rtn (eh2 isubF (eh2 iaddF (eC (nI 32)) (eh2 (aI .int) (eh1 (gR 11 0) (lR 0)) (lI 2))) (eC (nI 1))))))))
theorem m_Upper_signOf : MJ 1 [11, 29, 30] yX10_signOf (some .int) eI (d_Upper_signOf) := MJ_of (K := K_Upper_signOf) (ri := .ireturn) (n1 := 0) (n2 := 0) (n3 := 0)
 (SJ_sq (p0 := 0) (p1 := 19) (nN := 0) (nB := 0) (nC := 0) (SJ_if (p0 := 0) (pT := 12) (pF := 19) (nN := 19) (nB := 0) (nC := 0) (CJ_and (p0 := 0) (pM := 6) (pT := 12) (pF := 19) (CJ_ge' (off := 16) (tgt := 19) (p0 := 0) (p1 := 1) (p2 := 3) (EJ_iload_n (j := 1) (i := 1) (pc := 0) D_Upper_signOf_0 rfl) (EJ_bipush (n := 97) (v := (nI 97)) (pc := 1) D_Upper_signOf_1 (by decide +kernel)) D_Upper_signOf_3 rfl) (CJ_le' (off := 10) (tgt := 19) (p0 := 6) (p1 := 7) (p2 := 9) (EJ_iload_n (j := 1) (i := 1) (pc := 6) D_Upper_signOf_6 rfl) (EJ_bipush (n := 122) (v := (nI 122)) (pc := 7) D_Upper_signOf_7 (by decide +kernel)) D_Upper_signOf_9 rfl)) (SJ_ret (p0 := 12) (p1 := 18) (EJ_iadd (p0 := 12) (p1 := 16) (p2 := 17) (EJ_isub (p0 := 12) (p1 := 13) (p2 := 15) (EJ_iload_n (j := 1) (i := 1) (pc := 12) D_Upper_signOf_12 rfl) (EJ_bipush (n := 97) (v := (nI 97)) (pc := 13) D_Upper_signOf_13 (by decide +kernel)) D_Upper_signOf_15) (EJ_iconst (n := 1) (v := (nI 1)) (pc := 16) D_Upper_signOf_16 (by decide +kernel)) D_Upper_signOf_17) D_Upper_signOf_18) SJ_sk)
 (SJ_sq (p0 := 19) (p1 := 33) (nN := 0) (nB := 0) (nC := 0) (SJ_if (p0 := 19) (pT := 31) (pF := 33) (nN := 33) (nB := 0) (nC := 0) (CJ_or (p0 := 19) (pM := 25) (pT := 31) (pF := 33) (CJ_lt (off := 9) (tgt := 31) (p0 := 19) (p1 := 20) (p2 := 22) (EJ_iload_n (j := 1) (i := 1) (pc := 19) D_Upper_signOf_19 rfl) (EJ_bipush (n := 65) (v := (nI 65)) (pc := 20) D_Upper_signOf_20 (by decide +kernel)) D_Upper_signOf_22 rfl) (CJ_gt' (off := 5) (tgt := 33) (p0 := 25) (p1 := 26) (p2 := 28) (EJ_iload_n (j := 1) (i := 1) (pc := 25) D_Upper_signOf_25 rfl) (EJ_bipush (n := 90) (v := (nI 90)) (pc := 26) D_Upper_signOf_26 (by decide +kernel)) D_Upper_signOf_28 rfl)) (SJ_ret (p0 := 31) (p1 := 32) (EJ_iconst (n := 0) (v := (nI 0)) (pc := 31) D_Upper_signOf_31 (by decide +kernel)) D_Upper_signOf_32) SJ_sk)
 (SJ_sq (p0 := 33) (p1 := 38) (nN := 0) (nB := 0) (nC := 0) (SJ_istore_n (i := 2) (j := 2) (p0 := 33) (p1 := 37) (EJ_isub (p0 := 33) (p1 := 34) (p2 := 36) (EJ_iload_n (j := 1) (i := 1) (pc := 33) D_Upper_signOf_33 rfl) (EJ_bipush (n := 65) (v := (nI 65)) (pc := 34) D_Upper_signOf_34 (by decide +kernel)) D_Upper_signOf_36) D_Upper_signOf_37 rfl)
 (SJ_sq (p0 := 38) (p1 := 77) (nN := 0) (nB := 0) (nC := 0) (SJ_if (p0 := 38) (pT := 47) (pF := 77) (nN := 77) (nB := 0) (nC := 0) (CZ_eq' (off := 33) (tgt := 77) (p0 := 38) (p1 := 44) (EJ_iald (p0 := 38) (p1 := 42) (p2 := 43) (EJ_getR (t := 11) (c := 10) (kf := 0) (r := (RX10, TX10, 7)) (p0 := 38) (p1 := 39) (EJ_aload_n (j := 0) (i := 0) (pc := 38) D_Upper_signOf_38 rfl) D_Upper_signOf_39 ⟨rfl, rfl, by decide, q_129⟩ (fun _ _ => rfl)) (EJ_iload_n (j := 2) (i := 2) (pc := 42) D_Upper_signOf_42 rfl) D_Upper_signOf_43) D_Upper_signOf_44 rfl) (SJ_sq (p0 := 47) (p1 := 57) (nN := 77) (nB := 0) (nC := 0) (SJ_iast (ws := [30]) (p0 := 47) (p1 := 51) (p2 := 55) (p3 := 56) (EJ_getR (t := 11) (c := 10) (kf := 1) (r := (RX10, TX10, 7)) (p0 := 47) (p1 := 48) (EJ_aload_n (j := 0) (i := 0) (pc := 47) D_Upper_signOf_47 rfl) D_Upper_signOf_48 ⟨rfl, rfl, by decide, q_130⟩ (fun _ _ => rfl)) (EJ_getI (t := 11) (c := 10) (kf := 6) (r := (RX10, TX10, 7)) (p0 := 51) (p1 := 52) (EJ_aload_n (j := 0) (i := 0) (pc := 51) D_Upper_signOf_51 rfl) D_Upper_signOf_52 ⟨rfl, rfl, by decide, q_135⟩ (fun _ _ => rfl)) (EJ_iload_n (j := 1) (i := 1) (pc := 55) D_Upper_signOf_55 rfl) D_Upper_signOf_56 (show ∀ x_ ∈ ([30] : List Nat), x_ ∈ ([11, 29, 30] : List Nat) from by decide))
 (SJ_sq (p0 := 57) (p1 := 67) (nN := 77) (nB := 0) (nC := 0) (SJ_upF (z := false) (t := 11) (c := 10) (kf := 6) (r := (RX10, TX10, 7)) (f := (fun x y => x + y)) (p0 := 57) (p1 := 58) (p3 := 63) (EJ_aload_n (j := 0) (i := 0) (pc := 57) D_Upper_signOf_57 rfl) D_Upper_signOf_58 D_Upper_signOf_59 (EJ_iconst (n := 1) (v := (nI 1)) (pc := 62) D_Upper_signOf_62 (by decide +kernel)) (Op2_iadd D_Upper_signOf_63) D_Upper_signOf_64 ⟨rfl, rfl, by decide, q_135⟩ ⟨rfl, rfl, by decide, q_135⟩ (Or.inl rfl) (fun _ _ => ⟨rfl, rfl⟩) (fun _ _ => rfl) (show (11 : Nat) ∈ ([11, 29, 30] : List Nat) from by decide))
 (SJ_iast (ws := [29]) (p0 := 67) (p1 := 71) (p2 := 72) (p3 := 76) (EJ_getR (t := 11) (c := 10) (kf := 0) (r := (RX10, TX10, 7)) (p0 := 67) (p1 := 68) (EJ_aload_n (j := 0) (i := 0) (pc := 67) D_Upper_signOf_67 rfl) D_Upper_signOf_68 ⟨rfl, rfl, by decide, q_129⟩ (fun _ _ => rfl)) (EJ_iload_n (j := 2) (i := 2) (pc := 71) D_Upper_signOf_71 rfl) (EJ_getI (t := 11) (c := 10) (kf := 6) (r := (RX10, TX10, 7)) (p0 := 72) (p1 := 73) (EJ_aload_n (j := 0) (i := 0) (pc := 72) D_Upper_signOf_72 rfl) D_Upper_signOf_73 ⟨rfl, rfl, by decide, q_135⟩ (fun _ _ => rfl)) D_Upper_signOf_76 (show ∀ x_ ∈ ([29] : List Nat), x_ ∈ ([11, 29, 30] : List Nat) from by decide)))) SJ_sk)
 (SJ_ret (p0 := 77) (p1 := 88) (EJ_isub (p0 := 77) (p1 := 86) (p2 := 87) (EJ_iadd (p0 := 77) (p1 := 79) (p2 := 85) (EJ_bipush (n := 32) (v := (nI 32)) (pc := 77) D_Upper_signOf_77 (by decide +kernel)) (EJ_iald (p0 := 79) (p1 := 83) (p2 := 84) (EJ_getR (t := 11) (c := 10) (kf := 0) (r := (RX10, TX10, 7)) (p0 := 79) (p1 := 80) (EJ_aload_n (j := 0) (i := 0) (pc := 79) D_Upper_signOf_79 rfl) D_Upper_signOf_80 ⟨rfl, rfl, by decide, q_129⟩ (fun _ _ => rfl)) (EJ_iload_n (j := 2) (i := 2) (pc := 83) D_Upper_signOf_83 rfl) D_Upper_signOf_84) D_Upper_signOf_85) (EJ_iconst (n := 1) (v := (nI 1)) (pc := 86) D_Upper_signOf_86 (by decide +kernel)) D_Upper_signOf_87) D_Upper_signOf_88)))))
 RTm_int q_321 (by decide +kernel) rfl (fun h => by cases h) (show 3 ≤ 40 from by decide) (fun _ => trivial)
theorem D_Reader_findStranger_0 : decode cX4_findStranger 0 = .ok (.iconst (0), 1) := by decide +kernel
theorem D_Reader_findStranger_1 : decode cX4_findStranger 1 = .ok (.istore_n 1, 1) := by decide +kernel
theorem D_Reader_findStranger_2 : decode cX4_findStranger 2 = .ok (.iload_n 1, 1) := by decide +kernel
theorem D_Reader_findStranger_3 : decode cX4_findStranger 3 = .ok (.aload_n 0, 1) := by decide +kernel
theorem D_Reader_findStranger_4 : decode cX4_findStranger 4 = .ok (.getfield 37, 3) := by decide +kernel
theorem D_Reader_findStranger_7 : decode cX4_findStranger 7 = .ok (.if_icmp .ge (50), 3) := by decide +kernel
theorem D_Reader_findStranger_10 : decode cX4_findStranger 10 = .ok (.aload_n 0, 1) := by decide +kernel
theorem D_Reader_findStranger_11 : decode cX4_findStranger 11 = .ok (.getfield 9, 3) := by decide +kernel
theorem D_Reader_findStranger_14 : decode cX4_findStranger 14 = .ok (.iload_n 1, 1) := by decide +kernel
theorem D_Reader_findStranger_15 : decode cX4_findStranger 15 = .ok (.iaload, 1) := by decide +kernel
theorem D_Reader_findStranger_16 : decode cX4_findStranger 16 = .ok (.invokestatic 145, 3) := by decide +kernel
theorem D_Reader_findStranger_19 : decode cX4_findStranger 19 = .ok (.ifCond .eq (32), 3) := by decide +kernel
theorem D_Reader_findStranger_22 : decode cX4_findStranger 22 = .ok (.aload_n 0, 1) := by decide +kernel
theorem D_Reader_findStranger_23 : decode cX4_findStranger 23 = .ok (.getfield 27, 3) := by decide +kernel
theorem D_Reader_findStranger_26 : decode cX4_findStranger 26 = .ok (.aload_n 0, 1) := by decide +kernel
theorem D_Reader_findStranger_27 : decode cX4_findStranger 27 = .ok (.getfield 27, 3) := by decide +kernel
theorem D_Reader_findStranger_30 : decode cX4_findStranger 30 = .ok (.aload_n 0, 1) := by decide +kernel
theorem D_Reader_findStranger_31 : decode cX4_findStranger 31 = .ok (.getfield 9, 3) := by decide +kernel
theorem D_Reader_findStranger_34 : decode cX4_findStranger 34 = .ok (.iload_n 1, 1) := by decide +kernel
theorem D_Reader_findStranger_35 : decode cX4_findStranger 35 = .ok (.iaload, 1) := by decide +kernel
theorem D_Reader_findStranger_36 : decode cX4_findStranger 36 = .ok (.invokevirtual 137, 3) := by decide +kernel
theorem D_Reader_findStranger_39 : decode cX4_findStranger 39 = .ok (.invokevirtual 88, 3) := by decide +kernel
theorem D_Reader_findStranger_42 : decode cX4_findStranger 42 = .ok (.ifCond .ne (9), 3) := by decide +kernel
theorem D_Reader_findStranger_45 : decode cX4_findStranger 45 = .ok (.aload_n 0, 1) := by decide +kernel
theorem D_Reader_findStranger_46 : decode cX4_findStranger 46 = .ok (.iload_n 1, 1) := by decide +kernel
theorem D_Reader_findStranger_47 : decode cX4_findStranger 47 = .ok (.iconst (5), 1) := by decide +kernel
theorem D_Reader_findStranger_48 : decode cX4_findStranger 48 = .ok (.invokevirtual 82, 3) := by decide +kernel
theorem D_Reader_findStranger_51 : decode cX4_findStranger 51 = .ok (.iinc 1 (1), 3) := by decide +kernel
theorem D_Reader_findStranger_54 : decode cX4_findStranger 54 = .ok (.goto (-52), 3) := by decide +kernel
theorem D_Reader_findStranger_57 : decode cX4_findStranger 57 = .ok (.return_, 1) := by decide +kernel
def K_Reader_findStranger : SC := (cX4_findStranger, "TwoLevels$Reader", 2, 3, false, [5, 11, 29, 30], NoQ)
def d_Reader_findStranger : MD Unit := mth tt 2 (sq (sq (sI1 1 (eC (nI 0)))
 (loop (eh2 c_lt (lI 1) (eh1 (gI 5 1) (lR 0)))
 (sIf (cAnd (eh1 z_ne (kS d_Rows_isCapital [vI (eh2 (aI .int) (eh1 (gR 5 0) (lR 0)) (lI 1))])) (cNot (eh1 z_ne (kV 11 d_Upper_isTold (eh1 (gR 5 8) (lR 0)) [vI (kV 11 d_Upper_signOf (eh1 (gR 5 8) (lR 0)) [vI (eh2 (aI .int) (eh1 (gR 5 0) (lR 0)) (lI 1))])])))) (sE (kV 5 d_Reader_failAt (lR 0) [vI (lI 1), vI (eC (nI 5))])) sk)
 (sInc 1 (nI 1))))
 rtnU)
theorem m_Reader_findStranger : MJ 3 [5, 11, 29, 30] yX4_findStranger none eU (d_Reader_findStranger) := MJ_of (K := K_Reader_findStranger) (ri := .return_) (n1 := 0) (n2 := 0) (n3 := 0)
 (SJ_sq (p0 := 0) (p1 := 57) (nN := 0) (nB := 0) (nC := 0) (SJ_sq (p0 := 0) (p1 := 2) (nN := 57) (nB := 0) (nC := 0) (SJ_istore_n (i := 1) (j := 1) (p0 := 0) (p1 := 1) (EJ_iconst (n := 0) (v := (nI 0)) (pc := 0) D_Reader_findStranger_0 (by decide +kernel)) D_Reader_findStranger_1 rfl)
 (SJ_loop (p0 := 2) (pB := 10) (pS := 51) (pE := 57) (CJ_lt' (off := 50) (tgt := 57) (p0 := 2) (p1 := 3) (p2 := 7) (EJ_iload_n (j := 1) (i := 1) (pc := 2) D_Reader_findStranger_2 rfl) (EJ_getI (t := 5) (c := 4) (kf := 1) (r := (RX4, TX4, 9)) (p0 := 3) (p1 := 4) (EJ_aload_n (j := 0) (i := 0) (pc := 3) D_Reader_findStranger_3 rfl) D_Reader_findStranger_4 ⟨rfl, rfl, by decide, q_147⟩ (fun _ _ => rfl)) D_Reader_findStranger_7 rfl)
 (SJ_if (p0 := 10) (pT := 45) (pF := 51) (nN := 51) (nB := 57) (nC := 51) (CJ_and (p0 := 10) (pM := 22) (pT := 45) (pF := 51) (CZ_ne' (off := 32) (tgt := 51) (p0 := 10) (p1 := 19) (EJ_callS (p0 := 10) (p1 := 16) (AJ_I (p0 := 10) (p1 := 16) (p2 := 16) (EJ_iald (p0 := 10) (p1 := 14) (p2 := 15) (EJ_getR (t := 5) (c := 4) (kf := 0) (r := (RX4, TX4, 9)) (p0 := 10) (p1 := 11) (EJ_aload_n (j := 0) (i := 0) (pc := 10) D_Reader_findStranger_10 rfl) D_Reader_findStranger_11 ⟨rfl, rfl, by decide, q_146⟩ (fun _ _ => rfl)) (EJ_iload_n (j := 1) (i := 1) (pc := 14) D_Reader_findStranger_14 rfl) D_Reader_findStranger_15) AJ_nil) m_Rows_isCapital E1_I D_Reader_findStranger_16 q_470 q_471 q_104 ⟨by decide +kernel, by decide +kernel, by decide +kernel⟩ (by decide) (show 1 + 1 ≤ 3 from by decide) (fun _ h => absurd h List.not_mem_nil)) D_Reader_findStranger_19 rfl) (CJ_not (p0 := 22) (pT := 45) (pF := 51) (CZ_ne (off := 9) (tgt := 51) (p0 := 22) (p1 := 42) (EJ_callV (t := 11) (c := 10) (r := (RX10, TX10, 7)) (p0 := 22) (p1 := 26) (p2 := 39) (EJ_getR (t := 5) (c := 4) (kf := 8) (r := (RX4, TX4, 9)) (p0 := 22) (p1 := 23) (EJ_aload_n (j := 0) (i := 0) (pc := 22) D_Reader_findStranger_22 rfl) D_Reader_findStranger_23 ⟨rfl, rfl, by decide, q_154⟩ (fun _ _ => rfl)) (AJ_I (p0 := 26) (p1 := 39) (p2 := 39) (EJ_callV (t := 11) (c := 10) (r := (RX10, TX10, 7)) (p0 := 26) (p1 := 30) (p2 := 36) (EJ_getR (t := 5) (c := 4) (kf := 8) (r := (RX4, TX4, 9)) (p0 := 26) (p1 := 27) (EJ_aload_n (j := 0) (i := 0) (pc := 26) D_Reader_findStranger_26 rfl) D_Reader_findStranger_27 ⟨rfl, rfl, by decide, q_154⟩ (fun _ _ => rfl)) (AJ_I (p0 := 30) (p1 := 36) (p2 := 36) (EJ_iald (p0 := 30) (p1 := 34) (p2 := 35) (EJ_getR (t := 5) (c := 4) (kf := 0) (r := (RX4, TX4, 9)) (p0 := 30) (p1 := 31) (EJ_aload_n (j := 0) (i := 0) (pc := 30) D_Reader_findStranger_30 rfl) D_Reader_findStranger_31 ⟨rfl, rfl, by decide, q_146⟩ (fun _ _ => rfl)) (EJ_iload_n (j := 1) (i := 1) (pc := 34) D_Reader_findStranger_34 rfl) D_Reader_findStranger_35) AJ_nil) m_Upper_signOf E1_I D_Reader_findStranger_36 rfl rfl rfl q_318 q_319 q_320 q_93 ⟨by decide +kernel, by decide +kernel, by decide +kernel⟩ (by decide) (show 1 + 1 ≤ 3 from by decide) (show ∀ x_ ∈ ([11, 29, 30] : List Nat), x_ ∈ ([5, 11, 29, 30] : List Nat) from by decide)) AJ_nil) m_Upper_isTold E1_I D_Reader_findStranger_39 rfl rfl rfl q_335 q_336 q_337 q_93 ⟨by decide +kernel, by decide +kernel, by decide +kernel⟩ (by decide) (show 2 + 1 ≤ 3 from by decide) (fun _ h => absurd h List.not_mem_nil)) D_Reader_findStranger_42 rfl))) (SJ_void (p0 := 45) (p1 := 51) (EJ_callV (t := 5) (c := 4) (r := (RX4, TX4, 9)) (p0 := 45) (p1 := 46) (p2 := 48) (EJ_aload_n (j := 0) (i := 0) (pc := 45) D_Reader_findStranger_45 rfl) (AJ_I (p0 := 46) (p1 := 47) (p2 := 48) (EJ_iload_n (j := 1) (i := 1) (pc := 46) D_Reader_findStranger_46 rfl) (AJ_I (p0 := 47) (p1 := 48) (p2 := 48) (EJ_iconst (n := 5) (v := (nI 5)) (pc := 47) D_Reader_findStranger_47 (by decide +kernel)) AJ_nil)) m_Reader_failAt E1_U D_Reader_findStranger_48 rfl rfl rfl q_322 q_323 q_4 q_92 ⟨by decide +kernel, by decide +kernel, by decide +kernel⟩ (by decide) (show 1 + 1 ≤ 3 from by decide) (show ∀ x_ ∈ ([5] : List Nat), x_ ∈ ([5, 11, 29, 30] : List Nat) from by decide))) SJ_sk)
 (SJ_post (SJ_iinc (i := 1) (n := 1) (v := (nI 1)) (pc := 51) D_Reader_findStranger_51 (by decide +kernel)) (Lead.goto (K := K_Reader_findStranger) (pc := 54) (tgt := 2) D_Reader_findStranger_54 rfl))))
 (SJ_retU (pc := 57) D_Reader_findStranger_57))
 RTm_void q_469 (by decide +kernel) rfl (fun h => by cases h) (show 2 ≤ 40 from by decide) (fun _ => trivial)
theorem D_Reader_sees_0 : decode cX4_sees 0 = .ok (.aload_n 0, 1) := by decide +kernel
theorem D_Reader_sees_1 : decode cX4_sees 1 = .ok (.getfield 41, 3) := by decide +kernel
theorem D_Reader_sees_4 : decode cX4_sees 4 = .ok (.aload_n 0, 1) := by decide +kernel
theorem D_Reader_sees_5 : decode cX4_sees 5 = .ok (.getfield 37, 3) := by decide +kernel
theorem D_Reader_sees_8 : decode cX4_sees 8 = .ok (.if_icmp .ge (20), 3) := by decide +kernel
theorem D_Reader_sees_11 : decode cX4_sees 11 = .ok (.aload_n 0, 1) := by decide +kernel
theorem D_Reader_sees_12 : decode cX4_sees 12 = .ok (.getfield 9, 3) := by decide +kernel
theorem D_Reader_sees_15 : decode cX4_sees 15 = .ok (.aload_n 0, 1) := by decide +kernel
theorem D_Reader_sees_16 : decode cX4_sees 16 = .ok (.getfield 41, 3) := by decide +kernel
theorem D_Reader_sees_19 : decode cX4_sees 19 = .ok (.iaload, 1) := by decide +kernel
theorem D_Reader_sees_20 : decode cX4_sees 20 = .ok (.iload_n 1, 1) := by decide +kernel
theorem D_Reader_sees_21 : decode cX4_sees 21 = .ok (.if_icmp .ne (7), 3) := by decide +kernel
theorem D_Reader_sees_24 : decode cX4_sees 24 = .ok (.iconst (1), 1) := by decide +kernel
theorem D_Reader_sees_25 : decode cX4_sees 25 = .ok (.goto (4), 3) := by decide +kernel
theorem D_Reader_sees_28 : decode cX4_sees 28 = .ok (.iconst (0), 1) := by decide +kernel
theorem D_Reader_sees_29 : decode cX4_sees 29 = .ok (.ireturn, 1) := by decide +kernel
def K_Reader_sees : SC := (cX4_sees, "TwoLevels$Reader", 2, 1, false, [], NoQ)
def d_Reader_sees : MD Int32 := mth zz 2 (rtn (eIf (cAnd (eh2 c_lt (eh1 (gI 5 2) (lR 0)) (eh1 (gI 5 1) (lR 0))) (eh2 c_eq (eh2 (aI .int) (eh1 (gR 5 0) (lR 0)) (eh1 (gI 5 2) (lR 0))) (lI 1))) (eC (nI 1)) (eC (nI 0))))
theorem m_Reader_sees : MJ 1 [] yX4_sees (some .boolean) eI (d_Reader_sees) := MJ_of (K := K_Reader_sees) (ri := .ireturn) (n1 := 0) (n2 := 0) (n3 := 0)
 (SJ_ret (p0 := 0) (p1 := 29) (EJ_if (p0 := 0) (pT := 24) (pF := 28) (pE := 25) (p1 := 29) (CJ_and (p0 := 0) (pM := 11) (pT := 24) (pF := 28) (CJ_lt' (off := 20) (tgt := 28) (p0 := 0) (p1 := 4) (p2 := 8) (EJ_getI (t := 5) (c := 4) (kf := 2) (r := (RX4, TX4, 9)) (p0 := 0) (p1 := 1) (EJ_aload_n (j := 0) (i := 0) (pc := 0) D_Reader_sees_0 rfl) D_Reader_sees_1 ⟨rfl, rfl, by decide, q_148⟩ (fun _ _ => rfl)) (EJ_getI (t := 5) (c := 4) (kf := 1) (r := (RX4, TX4, 9)) (p0 := 4) (p1 := 5) (EJ_aload_n (j := 0) (i := 0) (pc := 4) D_Reader_sees_4 rfl) D_Reader_sees_5 ⟨rfl, rfl, by decide, q_147⟩ (fun _ _ => rfl)) D_Reader_sees_8 rfl) (CJ_eq' (off := 7) (tgt := 28) (p0 := 11) (p1 := 20) (p2 := 21) (EJ_iald (p0 := 11) (p1 := 15) (p2 := 19) (EJ_getR (t := 5) (c := 4) (kf := 0) (r := (RX4, TX4, 9)) (p0 := 11) (p1 := 12) (EJ_aload_n (j := 0) (i := 0) (pc := 11) D_Reader_sees_11 rfl) D_Reader_sees_12 ⟨rfl, rfl, by decide, q_146⟩ (fun _ _ => rfl)) (EJ_getI (t := 5) (c := 4) (kf := 2) (r := (RX4, TX4, 9)) (p0 := 15) (p1 := 16) (EJ_aload_n (j := 0) (i := 0) (pc := 15) D_Reader_sees_15 rfl) D_Reader_sees_16 ⟨rfl, rfl, by decide, q_148⟩ (fun _ _ => rfl)) D_Reader_sees_19) (EJ_iload_n (j := 1) (i := 1) (pc := 20) D_Reader_sees_20 rfl) D_Reader_sees_21 rfl)) (EJ_iconst (n := 1) (v := (nI 1)) (pc := 24) D_Reader_sees_24 (by decide +kernel)) (Lead.goto (K := K_Reader_sees) (pc := 25) (tgt := 29) D_Reader_sees_25 rfl) (EJ_iconst (n := 0) (v := (nI 0)) (pc := 28) D_Reader_sees_28 (by decide +kernel))) D_Reader_sees_29)
 RTm_bool q_331 (by decide +kernel) rfl (fun h => by cases h) (show 2 ≤ 40 from by decide) (fun _ => trivial)
theorem D_Reader_goesOver_0 : decode cX4_goesOver 0 = .ok (.aload_n 0, 1) := by decide +kernel
theorem D_Reader_goesOver_1 : decode cX4_goesOver 1 = .ok (.iload_n 1, 1) := by decide +kernel
theorem D_Reader_goesOver_2 : decode cX4_goesOver 2 = .ok (.invokevirtual 71, 3) := by decide +kernel
theorem D_Reader_goesOver_5 : decode cX4_goesOver 5 = .ok (.istore_n 2, 1) := by decide +kernel
theorem D_Reader_goesOver_6 : decode cX4_goesOver 6 = .ok (.aload_n 0, 1) := by decide +kernel
theorem D_Reader_goesOver_7 : decode cX4_goesOver 7 = .ok (.dup, 1) := by decide +kernel
theorem D_Reader_goesOver_8 : decode cX4_goesOver 8 = .ok (.getfield 41, 3) := by decide +kernel
theorem D_Reader_goesOver_11 : decode cX4_goesOver 11 = .ok (.iload_n 2, 1) := by decide +kernel
theorem D_Reader_goesOver_12 : decode cX4_goesOver 12 = .ok (.ifCond .eq (7), 3) := by decide +kernel
theorem D_Reader_goesOver_15 : decode cX4_goesOver 15 = .ok (.iconst (1), 1) := by decide +kernel
theorem D_Reader_goesOver_16 : decode cX4_goesOver 16 = .ok (.goto (4), 3) := by decide +kernel
theorem D_Reader_goesOver_19 : decode cX4_goesOver 19 = .ok (.iconst (0), 1) := by decide +kernel
theorem D_Reader_goesOver_20 : decode cX4_goesOver 20 = .ok (.iadd, 1) := by decide +kernel
theorem D_Reader_goesOver_21 : decode cX4_goesOver 21 = .ok (.putfield 41, 3) := by decide +kernel
theorem D_Reader_goesOver_24 : decode cX4_goesOver 24 = .ok (.iload_n 2, 1) := by decide +kernel
theorem D_Reader_goesOver_25 : decode cX4_goesOver 25 = .ok (.ireturn, 1) := by decide +kernel
def K_Reader_goesOver : SC := (cX4_goesOver, "TwoLevels$Reader", 3, 2, false, [5], NoQ)
def d_Reader_goesOver : MD Int32 := mth zz 3 (sq (sI1 2 (kV 5 d_Reader_sees (lR 0) [vI (lI 1)]))
 (sq (su2 (gI 5 2) (uF false 5 2 (fun x y => x + y)) (lR 0) (eIf (eh1 z_ne (lI 2)) (eC (nI 1)) (eC (nI 0))))
 (rtn (lI 2))))
theorem m_Reader_goesOver : MJ 2 [5] yX4_goesOver (some .boolean) eI (d_Reader_goesOver) := MJ_of (K := K_Reader_goesOver) (ri := .ireturn) (n1 := 0) (n2 := 0) (n3 := 0)
 (SJ_sq (p0 := 0) (p1 := 6) (nN := 0) (nB := 0) (nC := 0) (SJ_istore_n (i := 2) (j := 2) (p0 := 0) (p1 := 5) (EJ_callV (t := 5) (c := 4) (r := (RX4, TX4, 9)) (p0 := 0) (p1 := 1) (p2 := 2) (EJ_aload_n (j := 0) (i := 0) (pc := 0) D_Reader_goesOver_0 rfl) (AJ_I (p0 := 1) (p1 := 2) (p2 := 2) (EJ_iload_n (j := 1) (i := 1) (pc := 1) D_Reader_goesOver_1 rfl) AJ_nil) m_Reader_sees E1_I D_Reader_goesOver_2 rfl rfl rfl q_329 q_330 q_5 q_92 ⟨by decide +kernel, by decide +kernel, by decide +kernel⟩ (by decide) (show 1 + 1 ≤ 2 from by decide) (fun _ h => absurd h List.not_mem_nil)) D_Reader_goesOver_5 rfl)
 (SJ_sq (p0 := 6) (p1 := 24) (nN := 0) (nB := 0) (nC := 0) (SJ_upF (z := false) (t := 5) (c := 4) (kf := 2) (r := (RX4, TX4, 9)) (f := (fun x y => x + y)) (p0 := 6) (p1 := 7) (p3 := 20) (EJ_aload_n (j := 0) (i := 0) (pc := 6) D_Reader_goesOver_6 rfl) D_Reader_goesOver_7 D_Reader_goesOver_8 (EJ_if (p0 := 11) (pT := 15) (pF := 19) (pE := 16) (p1 := 20) (CZ_ne' (off := 7) (tgt := 19) (p0 := 11) (p1 := 12) (EJ_iload_n (j := 2) (i := 2) (pc := 11) D_Reader_goesOver_11 rfl) D_Reader_goesOver_12 rfl) (EJ_iconst (n := 1) (v := (nI 1)) (pc := 15) D_Reader_goesOver_15 (by decide +kernel)) (Lead.goto (K := K_Reader_goesOver) (pc := 16) (tgt := 20) D_Reader_goesOver_16 rfl) (EJ_iconst (n := 0) (v := (nI 0)) (pc := 19) D_Reader_goesOver_19 (by decide +kernel))) (Op2_iadd D_Reader_goesOver_20) D_Reader_goesOver_21 ⟨rfl, rfl, by decide, q_148⟩ ⟨rfl, rfl, by decide, q_148⟩ (Or.inl rfl) (fun _ _ => ⟨rfl, rfl⟩) (fun _ _ => rfl) (show (5 : Nat) ∈ ([5] : List Nat) from by decide))
 (SJ_ret (p0 := 24) (p1 := 25) (EJ_iload_n (j := 2) (i := 2) (pc := 24) D_Reader_goesOver_24 rfl) D_Reader_goesOver_25)))
 RTm_bool q_457 (by decide +kernel) rfl (fun h => by cases h) (show 3 ≤ 40 from by decide) (fun _ => trivial)
theorem D_Reader_goesOn_0 : decode cX4_goesOn 0 = .ok (.aload_n 0, 1) := by decide +kernel
theorem D_Reader_goesOn_1 : decode cX4_goesOn 1 = .ok (.getfield 41, 3) := by decide +kernel
theorem D_Reader_goesOn_4 : decode cX4_goesOn 4 = .ok (.aload_n 0, 1) := by decide +kernel
theorem D_Reader_goesOn_5 : decode cX4_goesOn 5 = .ok (.getfield 37, 3) := by decide +kernel
theorem D_Reader_goesOn_8 : decode cX4_goesOn 8 = .ok (.if_icmp .ge (12), 3) := by decide +kernel
theorem D_Reader_goesOn_11 : decode cX4_goesOn 11 = .ok (.aload_n 0, 1) := by decide +kernel
theorem D_Reader_goesOn_12 : decode cX4_goesOn 12 = .ok (.bipush (59), 2) := by decide +kernel
theorem D_Reader_goesOn_14 : decode cX4_goesOn 14 = .ok (.invokevirtual 71, 3) := by decide +kernel
theorem D_Reader_goesOn_17 : decode cX4_goesOn 17 = .ok (.ifCond .eq (5), 3) := by decide +kernel
theorem D_Reader_goesOn_20 : decode cX4_goesOn 20 = .ok (.iconst (0), 1) := by decide +kernel
theorem D_Reader_goesOn_21 : decode cX4_goesOn 21 = .ok (.ireturn, 1) := by decide +kernel
theorem D_Reader_goesOn_22 : decode cX4_goesOn 22 = .ok (.aload_n 0, 1) := by decide +kernel
theorem D_Reader_goesOn_23 : decode cX4_goesOn 23 = .ok (.iload_n 1, 1) := by decide +kernel
theorem D_Reader_goesOn_24 : decode cX4_goesOn 24 = .ok (.invokevirtual 71, 3) := by decide +kernel
theorem D_Reader_goesOn_27 : decode cX4_goesOn 27 = .ok (.ifCond .ne (15), 3) := by decide +kernel
theorem D_Reader_goesOn_30 : decode cX4_goesOn 30 = .ok (.aload_n 0, 1) := by decide +kernel
theorem D_Reader_goesOn_31 : decode cX4_goesOn 31 = .ok (.aload_n 0, 1) := by decide +kernel
theorem D_Reader_goesOn_32 : decode cX4_goesOn 32 = .ok (.getfield 41, 3) := by decide +kernel
theorem D_Reader_goesOn_35 : decode cX4_goesOn 35 = .ok (.iconst (1), 1) := by decide +kernel
theorem D_Reader_goesOn_36 : decode cX4_goesOn 36 = .ok (.invokevirtual 82, 3) := by decide +kernel
theorem D_Reader_goesOn_39 : decode cX4_goesOn 39 = .ok (.goto (29), 3) := by decide +kernel
theorem D_Reader_goesOn_42 : decode cX4_goesOn 42 = .ok (.iload_n 2, 1) := by decide +kernel
theorem D_Reader_goesOn_43 : decode cX4_goesOn 43 = .ok (.ifCond .eq (15), 3) := by decide +kernel
theorem D_Reader_goesOn_46 : decode cX4_goesOn 46 = .ok (.aload_n 0, 1) := by decide +kernel
theorem D_Reader_goesOn_47 : decode cX4_goesOn 47 = .ok (.aload_n 0, 1) := by decide +kernel
theorem D_Reader_goesOn_48 : decode cX4_goesOn 48 = .ok (.getfield 41, 3) := by decide +kernel
theorem D_Reader_goesOn_51 : decode cX4_goesOn 51 = .ok (.iconst (3), 1) := by decide +kernel
theorem D_Reader_goesOn_52 : decode cX4_goesOn 52 = .ok (.invokevirtual 82, 3) := by decide +kernel
theorem D_Reader_goesOn_55 : decode cX4_goesOn 55 = .ok (.goto (13), 3) := by decide +kernel
theorem D_Reader_goesOn_58 : decode cX4_goesOn 58 = .ok (.aload_n 0, 1) := by decide +kernel
theorem D_Reader_goesOn_59 : decode cX4_goesOn 59 = .ok (.dup, 1) := by decide +kernel
theorem D_Reader_goesOn_60 : decode cX4_goesOn 60 = .ok (.getfield 41, 3) := by decide +kernel
theorem D_Reader_goesOn_63 : decode cX4_goesOn 63 = .ok (.iconst (1), 1) := by decide +kernel
theorem D_Reader_goesOn_64 : decode cX4_goesOn 64 = .ok (.iadd, 1) := by decide +kernel
theorem D_Reader_goesOn_65 : decode cX4_goesOn 65 = .ok (.putfield 41, 3) := by decide +kernel
theorem D_Reader_goesOn_68 : decode cX4_goesOn 68 = .ok (.aload_n 0, 1) := by decide +kernel
theorem D_Reader_goesOn_69 : decode cX4_goesOn 69 = .ok (.getfield 44, 3) := by decide +kernel
theorem D_Reader_goesOn_72 : decode cX4_goesOn 72 = .ok (.ifCond .ne (7), 3) := by decide +kernel
theorem D_Reader_goesOn_75 : decode cX4_goesOn 75 = .ok (.iconst (1), 1) := by decide +kernel
theorem D_Reader_goesOn_76 : decode cX4_goesOn 76 = .ok (.goto (4), 3) := by decide +kernel
theorem D_Reader_goesOn_79 : decode cX4_goesOn 79 = .ok (.iconst (0), 1) := by decide +kernel
theorem D_Reader_goesOn_80 : decode cX4_goesOn 80 = .ok (.ireturn, 1) := by decide +kernel
def K_Reader_goesOn : SC := (cX4_goesOn, "TwoLevels$Reader", 3, 2, false, [5], NoQ)
def d_Reader_goesOn : MD Int32 := mth zz 3 (sq (sIf (cOr (eh2 c_ge (eh1 (gI 5 2) (lR 0)) (eh1 (gI 5 1) (lR 0))) (eh1 z_ne (kV 5 d_Reader_sees (lR 0) [vI (eC (nI 59))]))) (rtn (eC (nI 0))) sk)
 (sq (sIf (cNot (eh1 z_ne (kV 5 d_Reader_sees (lR 0) [vI (lI 1)]))) (sE (kV 5 d_Reader_failAt (lR 0) [vI (eh1 (gI 5 2) (lR 0)), vI (eC (nI 1))])) (sIf (eh1 z_ne (lI 2)) (sE (kV 5 d_Reader_failAt (lR 0) [vI (eh1 (gI 5 2) (lR 0)), vI (eC (nI 3))])) (su2 (gI 5 2) (uF false 5 2 (fun x y => x + y)) (lR 0) (eC (nI 1)))))
 (rtn (eIf (eh1 z_eq (eh1 (gI 5 3) (lR 0))) (eC (nI 1)) (eC (nI 0))))))
theorem m_Reader_goesOn : MJ 2 [5] yX4_goesOn (some .boolean) eI (d_Reader_goesOn) := MJ_of (K := K_Reader_goesOn) (ri := .ireturn) (n1 := 0) (n2 := 0) (n3 := 0)
 (SJ_sq (p0 := 0) (p1 := 22) (nN := 0) (nB := 0) (nC := 0) (SJ_if (p0 := 0) (pT := 20) (pF := 22) (nN := 22) (nB := 0) (nC := 0) (CJ_or (p0 := 0) (pM := 11) (pT := 20) (pF := 22) (CJ_ge (off := 12) (tgt := 20) (p0 := 0) (p1 := 4) (p2 := 8) (EJ_getI (t := 5) (c := 4) (kf := 2) (r := (RX4, TX4, 9)) (p0 := 0) (p1 := 1) (EJ_aload_n (j := 0) (i := 0) (pc := 0) D_Reader_goesOn_0 rfl) D_Reader_goesOn_1 ⟨rfl, rfl, by decide, q_148⟩ (fun _ _ => rfl)) (EJ_getI (t := 5) (c := 4) (kf := 1) (r := (RX4, TX4, 9)) (p0 := 4) (p1 := 5) (EJ_aload_n (j := 0) (i := 0) (pc := 4) D_Reader_goesOn_4 rfl) D_Reader_goesOn_5 ⟨rfl, rfl, by decide, q_147⟩ (fun _ _ => rfl)) D_Reader_goesOn_8 rfl) (CZ_ne' (off := 5) (tgt := 22) (p0 := 11) (p1 := 17) (EJ_callV (t := 5) (c := 4) (r := (RX4, TX4, 9)) (p0 := 11) (p1 := 12) (p2 := 14) (EJ_aload_n (j := 0) (i := 0) (pc := 11) D_Reader_goesOn_11 rfl) (AJ_I (p0 := 12) (p1 := 14) (p2 := 14) (EJ_bipush (n := 59) (v := (nI 59)) (pc := 12) D_Reader_goesOn_12 (by decide +kernel)) AJ_nil) m_Reader_sees E1_I D_Reader_goesOn_14 rfl rfl rfl q_329 q_330 q_5 q_92 ⟨by decide +kernel, by decide +kernel, by decide +kernel⟩ (by decide) (show 1 + 1 ≤ 2 from by decide) (fun _ h => absurd h List.not_mem_nil)) D_Reader_goesOn_17 rfl)) (SJ_ret (p0 := 20) (p1 := 21) (EJ_iconst (n := 0) (v := (nI 0)) (pc := 20) D_Reader_goesOn_20 (by decide +kernel)) D_Reader_goesOn_21) SJ_sk)
 (SJ_sq (p0 := 22) (p1 := 68) (nN := 0) (nB := 0) (nC := 0) (SJ_if (p0 := 22) (pT := 30) (pF := 42) (nN := 68) (nB := 0) (nC := 0) (CJ_not (p0 := 22) (pT := 30) (pF := 42) (CZ_ne (off := 15) (tgt := 42) (p0 := 22) (p1 := 27) (EJ_callV (t := 5) (c := 4) (r := (RX4, TX4, 9)) (p0 := 22) (p1 := 23) (p2 := 24) (EJ_aload_n (j := 0) (i := 0) (pc := 22) D_Reader_goesOn_22 rfl) (AJ_I (p0 := 23) (p1 := 24) (p2 := 24) (EJ_iload_n (j := 1) (i := 1) (pc := 23) D_Reader_goesOn_23 rfl) AJ_nil) m_Reader_sees E1_I D_Reader_goesOn_24 rfl rfl rfl q_329 q_330 q_5 q_92 ⟨by decide +kernel, by decide +kernel, by decide +kernel⟩ (by decide) (show 1 + 1 ≤ 2 from by decide) (fun _ h => absurd h List.not_mem_nil)) D_Reader_goesOn_27 rfl)) (SJ_post (SJ_void (p0 := 30) (p1 := 39) (EJ_callV (t := 5) (c := 4) (r := (RX4, TX4, 9)) (p0 := 30) (p1 := 31) (p2 := 36) (EJ_aload_n (j := 0) (i := 0) (pc := 30) D_Reader_goesOn_30 rfl) (AJ_I (p0 := 31) (p1 := 35) (p2 := 36) (EJ_getI (t := 5) (c := 4) (kf := 2) (r := (RX4, TX4, 9)) (p0 := 31) (p1 := 32) (EJ_aload_n (j := 0) (i := 0) (pc := 31) D_Reader_goesOn_31 rfl) D_Reader_goesOn_32 ⟨rfl, rfl, by decide, q_148⟩ (fun _ _ => rfl)) (AJ_I (p0 := 35) (p1 := 36) (p2 := 36) (EJ_iconst (n := 1) (v := (nI 1)) (pc := 35) D_Reader_goesOn_35 (by decide +kernel)) AJ_nil)) m_Reader_failAt E1_U D_Reader_goesOn_36 rfl rfl rfl q_322 q_323 q_4 q_92 ⟨by decide +kernel, by decide +kernel, by decide +kernel⟩ (by decide) (show 1 + 1 ≤ 2 from by decide) (show ∀ x_ ∈ ([5] : List Nat), x_ ∈ ([5] : List Nat) from by decide))) (Lead.goto (K := K_Reader_goesOn) (pc := 39) (tgt := 68) D_Reader_goesOn_39 rfl)) (SJ_if (p0 := 42) (pT := 46) (pF := 58) (nN := 68) (nB := 0) (nC := 0) (CZ_ne' (off := 15) (tgt := 58) (p0 := 42) (p1 := 43) (EJ_iload_n (j := 2) (i := 2) (pc := 42) D_Reader_goesOn_42 rfl) D_Reader_goesOn_43 rfl) (SJ_post (SJ_void (p0 := 46) (p1 := 55) (EJ_callV (t := 5) (c := 4) (r := (RX4, TX4, 9)) (p0 := 46) (p1 := 47) (p2 := 52) (EJ_aload_n (j := 0) (i := 0) (pc := 46) D_Reader_goesOn_46 rfl) (AJ_I (p0 := 47) (p1 := 51) (p2 := 52) (EJ_getI (t := 5) (c := 4) (kf := 2) (r := (RX4, TX4, 9)) (p0 := 47) (p1 := 48) (EJ_aload_n (j := 0) (i := 0) (pc := 47) D_Reader_goesOn_47 rfl) D_Reader_goesOn_48 ⟨rfl, rfl, by decide, q_148⟩ (fun _ _ => rfl)) (AJ_I (p0 := 51) (p1 := 52) (p2 := 52) (EJ_iconst (n := 3) (v := (nI 3)) (pc := 51) D_Reader_goesOn_51 (by decide +kernel)) AJ_nil)) m_Reader_failAt E1_U D_Reader_goesOn_52 rfl rfl rfl q_322 q_323 q_4 q_92 ⟨by decide +kernel, by decide +kernel, by decide +kernel⟩ (by decide) (show 1 + 1 ≤ 2 from by decide) (show ∀ x_ ∈ ([5] : List Nat), x_ ∈ ([5] : List Nat) from by decide))) (Lead.goto (K := K_Reader_goesOn) (pc := 55) (tgt := 68) D_Reader_goesOn_55 rfl)) (SJ_upF (z := false) (t := 5) (c := 4) (kf := 2) (r := (RX4, TX4, 9)) (f := (fun x y => x + y)) (p0 := 58) (p1 := 59) (p3 := 64) (EJ_aload_n (j := 0) (i := 0) (pc := 58) D_Reader_goesOn_58 rfl) D_Reader_goesOn_59 D_Reader_goesOn_60 (EJ_iconst (n := 1) (v := (nI 1)) (pc := 63) D_Reader_goesOn_63 (by decide +kernel)) (Op2_iadd D_Reader_goesOn_64) D_Reader_goesOn_65 ⟨rfl, rfl, by decide, q_148⟩ ⟨rfl, rfl, by decide, q_148⟩ (Or.inl rfl) (fun _ _ => ⟨rfl, rfl⟩) (fun _ _ => rfl) (show (5 : Nat) ∈ ([5] : List Nat) from by decide))))
 (SJ_ret (p0 := 68) (p1 := 80) (EJ_if (p0 := 68) (pT := 75) (pF := 79) (pE := 76) (p1 := 80) (CZ_eq' (off := 7) (tgt := 79) (p0 := 68) (p1 := 72) (EJ_getI (t := 5) (c := 4) (kf := 3) (r := (RX4, TX4, 9)) (p0 := 68) (p1 := 69) (EJ_aload_n (j := 0) (i := 0) (pc := 68) D_Reader_goesOn_68 rfl) D_Reader_goesOn_69 ⟨rfl, rfl, by decide, q_149⟩ (fun _ _ => rfl)) D_Reader_goesOn_72 rfl) (EJ_iconst (n := 1) (v := (nI 1)) (pc := 75) D_Reader_goesOn_75 (by decide +kernel)) (Lead.goto (K := K_Reader_goesOn) (pc := 76) (tgt := 80) D_Reader_goesOn_76 rfl) (EJ_iconst (n := 0) (v := (nI 0)) (pc := 79) D_Reader_goesOn_79 (by decide +kernel))) D_Reader_goesOn_80)))
 RTm_bool q_375 (by decide +kernel) rfl (fun h => by cases h) (show 3 ≤ 40 from by decide) (fun _ => trivial)
theorem D_Reader_skipBlanks_0 : decode cX4_skipBlanks 0 = .ok (.aload_n 0, 1) := by decide +kernel
theorem D_Reader_skipBlanks_1 : decode cX4_skipBlanks 1 = .ok (.getfield 41, 3) := by decide +kernel
theorem D_Reader_skipBlanks_4 : decode cX4_skipBlanks 4 = .ok (.aload_n 0, 1) := by decide +kernel
theorem D_Reader_skipBlanks_5 : decode cX4_skipBlanks 5 = .ok (.getfield 37, 3) := by decide +kernel
theorem D_Reader_skipBlanks_8 : decode cX4_skipBlanks 8 = .ok (.if_icmp .ge (30), 3) := by decide +kernel
theorem D_Reader_skipBlanks_11 : decode cX4_skipBlanks 11 = .ok (.aload_n 0, 1) := by decide +kernel
theorem D_Reader_skipBlanks_12 : decode cX4_skipBlanks 12 = .ok (.getfield 9, 3) := by decide +kernel
theorem D_Reader_skipBlanks_15 : decode cX4_skipBlanks 15 = .ok (.aload_n 0, 1) := by decide +kernel
theorem D_Reader_skipBlanks_16 : decode cX4_skipBlanks 16 = .ok (.getfield 41, 3) := by decide +kernel
theorem D_Reader_skipBlanks_19 : decode cX4_skipBlanks 19 = .ok (.iaload, 1) := by decide +kernel
theorem D_Reader_skipBlanks_20 : decode cX4_skipBlanks 20 = .ok (.bipush (32), 2) := by decide +kernel
theorem D_Reader_skipBlanks_22 : decode cX4_skipBlanks 22 = .ok (.if_icmp .ne (16), 3) := by decide +kernel
theorem D_Reader_skipBlanks_25 : decode cX4_skipBlanks 25 = .ok (.aload_n 0, 1) := by decide +kernel
theorem D_Reader_skipBlanks_26 : decode cX4_skipBlanks 26 = .ok (.dup, 1) := by decide +kernel
theorem D_Reader_skipBlanks_27 : decode cX4_skipBlanks 27 = .ok (.getfield 41, 3) := by decide +kernel
theorem D_Reader_skipBlanks_30 : decode cX4_skipBlanks 30 = .ok (.iconst (1), 1) := by decide +kernel
theorem D_Reader_skipBlanks_31 : decode cX4_skipBlanks 31 = .ok (.iadd, 1) := by decide +kernel
theorem D_Reader_skipBlanks_32 : decode cX4_skipBlanks 32 = .ok (.putfield 41, 3) := by decide +kernel
theorem D_Reader_skipBlanks_35 : decode cX4_skipBlanks 35 = .ok (.goto (-35), 3) := by decide +kernel
theorem D_Reader_skipBlanks_38 : decode cX4_skipBlanks 38 = .ok (.return_, 1) := by decide +kernel
def K_Reader_skipBlanks : SC := (cX4_skipBlanks, "TwoLevels$Reader", 1, 1, false, [5], NoQ)
def d_Reader_skipBlanks : MD Unit := mth tt 1 (sq (loop (cAnd (eh2 c_lt (eh1 (gI 5 2) (lR 0)) (eh1 (gI 5 1) (lR 0))) (eh2 c_eq (eh2 (aI .int) (eh1 (gR 5 0) (lR 0)) (eh1 (gI 5 2) (lR 0))) (eC (nI 32))))
 (su2 (gI 5 2) (uF false 5 2 (fun x y => x + y)) (lR 0) (eC (nI 1)))
 sk)
 rtnU)
theorem m_Reader_skipBlanks : MJ 1 [5] yX4_skipBlanks none eU (d_Reader_skipBlanks) := MJ_of (K := K_Reader_skipBlanks) (ri := .return_) (n1 := 0) (n2 := 0) (n3 := 0)
 (SJ_sq (p0 := 0) (p1 := 38) (nN := 0) (nB := 0) (nC := 0) (SJ_loop (p0 := 0) (pB := 25) (pS := 0) (pE := 38) (CJ_and (p0 := 0) (pM := 11) (pT := 25) (pF := 38) (CJ_lt' (off := 30) (tgt := 38) (p0 := 0) (p1 := 4) (p2 := 8) (EJ_getI (t := 5) (c := 4) (kf := 2) (r := (RX4, TX4, 9)) (p0 := 0) (p1 := 1) (EJ_aload_n (j := 0) (i := 0) (pc := 0) D_Reader_skipBlanks_0 rfl) D_Reader_skipBlanks_1 ⟨rfl, rfl, by decide, q_148⟩ (fun _ _ => rfl)) (EJ_getI (t := 5) (c := 4) (kf := 1) (r := (RX4, TX4, 9)) (p0 := 4) (p1 := 5) (EJ_aload_n (j := 0) (i := 0) (pc := 4) D_Reader_skipBlanks_4 rfl) D_Reader_skipBlanks_5 ⟨rfl, rfl, by decide, q_147⟩ (fun _ _ => rfl)) D_Reader_skipBlanks_8 rfl) (CJ_eq' (off := 16) (tgt := 38) (p0 := 11) (p1 := 20) (p2 := 22) (EJ_iald (p0 := 11) (p1 := 15) (p2 := 19) (EJ_getR (t := 5) (c := 4) (kf := 0) (r := (RX4, TX4, 9)) (p0 := 11) (p1 := 12) (EJ_aload_n (j := 0) (i := 0) (pc := 11) D_Reader_skipBlanks_11 rfl) D_Reader_skipBlanks_12 ⟨rfl, rfl, by decide, q_146⟩ (fun _ _ => rfl)) (EJ_getI (t := 5) (c := 4) (kf := 2) (r := (RX4, TX4, 9)) (p0 := 15) (p1 := 16) (EJ_aload_n (j := 0) (i := 0) (pc := 15) D_Reader_skipBlanks_15 rfl) D_Reader_skipBlanks_16 ⟨rfl, rfl, by decide, q_148⟩ (fun _ _ => rfl)) D_Reader_skipBlanks_19) (EJ_bipush (n := 32) (v := (nI 32)) (pc := 20) D_Reader_skipBlanks_20 (by decide +kernel)) D_Reader_skipBlanks_22 rfl))
 (SJ_post (SJ_upF (z := false) (t := 5) (c := 4) (kf := 2) (r := (RX4, TX4, 9)) (f := (fun x y => x + y)) (p0 := 25) (p1 := 26) (p3 := 31) (EJ_aload_n (j := 0) (i := 0) (pc := 25) D_Reader_skipBlanks_25 rfl) D_Reader_skipBlanks_26 D_Reader_skipBlanks_27 (EJ_iconst (n := 1) (v := (nI 1)) (pc := 30) D_Reader_skipBlanks_30 (by decide +kernel)) (Op2_iadd D_Reader_skipBlanks_31) D_Reader_skipBlanks_32 ⟨rfl, rfl, by decide, q_148⟩ ⟨rfl, rfl, by decide, q_148⟩ (Or.inl rfl) (fun _ _ => ⟨rfl, rfl⟩) (fun _ _ => rfl) (show (5 : Nat) ∈ ([5] : List Nat) from by decide)) (Lead.goto (K := K_Reader_skipBlanks) (pc := 35) (tgt := 0) D_Reader_skipBlanks_35 rfl))
 SJ_sk)
 (SJ_retU (pc := 38) D_Reader_skipBlanks_38))
 RTm_void q_311 (by decide +kernel) rfl (fun h => by cases h) (show 1 ≤ 40 from by decide) (fun _ => trivial)
theorem D_Reader_readSigns_0 : decode cX4_readSigns 0 = .ok (.iconst (0), 1) := by decide +kernel
theorem D_Reader_readSigns_1 : decode cX4_readSigns 1 = .ok (.istore_n 1, 1) := by decide +kernel
theorem D_Reader_readSigns_2 : decode cX4_readSigns 2 = .ok (.aload_n 0, 1) := by decide +kernel
theorem D_Reader_readSigns_3 : decode cX4_readSigns 3 = .ok (.invokevirtual 50, 3) := by decide +kernel
theorem D_Reader_readSigns_6 : decode cX4_readSigns 6 = .ok (.iconst (0), 1) := by decide +kernel
theorem D_Reader_readSigns_7 : decode cX4_readSigns 7 = .ok (.istore_n 2, 1) := by decide +kernel
theorem D_Reader_readSigns_8 : decode cX4_readSigns 8 = .ok (.iload_n 2, 1) := by decide +kernel
theorem D_Reader_readSigns_9 : decode cX4_readSigns 9 = .ok (.bipush (6), 2) := by decide +kernel
theorem D_Reader_readSigns_11 : decode cX4_readSigns 11 = .ok (.if_icmp .gt (124), 3) := by decide +kernel
theorem D_Reader_readSigns_14 : decode cX4_readSigns 14 = .ok (.aload_n 0, 1) := by decide +kernel
theorem D_Reader_readSigns_15 : decode cX4_readSigns 15 = .ok (.getfield 44, 3) := by decide +kernel
theorem D_Reader_readSigns_18 : decode cX4_readSigns 18 = .ok (.ifCond .ne (117), 3) := by decide +kernel
theorem D_Reader_readSigns_21 : decode cX4_readSigns 21 = .ok (.aload_n 0, 1) := by decide +kernel
theorem D_Reader_readSigns_22 : decode cX4_readSigns 22 = .ok (.getfield 41, 3) := by decide +kernel
theorem D_Reader_readSigns_25 : decode cX4_readSigns 25 = .ok (.aload_n 0, 1) := by decide +kernel
theorem D_Reader_readSigns_26 : decode cX4_readSigns 26 = .ok (.getfield 37, 3) := by decide +kernel
theorem D_Reader_readSigns_29 : decode cX4_readSigns 29 = .ok (.if_icmp .ge (106), 3) := by decide +kernel
theorem D_Reader_readSigns_32 : decode cX4_readSigns 32 = .ok (.aload_n 0, 1) := by decide +kernel
theorem D_Reader_readSigns_33 : decode cX4_readSigns 33 = .ok (.getfield 27, 3) := by decide +kernel
theorem D_Reader_readSigns_36 : decode cX4_readSigns 36 = .ok (.aload_n 0, 1) := by decide +kernel
theorem D_Reader_readSigns_37 : decode cX4_readSigns 37 = .ok (.getfield 9, 3) := by decide +kernel
theorem D_Reader_readSigns_40 : decode cX4_readSigns 40 = .ok (.aload_n 0, 1) := by decide +kernel
theorem D_Reader_readSigns_41 : decode cX4_readSigns 41 = .ok (.getfield 41, 3) := by decide +kernel
theorem D_Reader_readSigns_44 : decode cX4_readSigns 44 = .ok (.iaload, 1) := by decide +kernel
theorem D_Reader_readSigns_45 : decode cX4_readSigns 45 = .ok (.invokevirtual 137, 3) := by decide +kernel
theorem D_Reader_readSigns_48 : decode cX4_readSigns 48 = .ok (.istore_n 3, 1) := by decide +kernel
theorem D_Reader_readSigns_49 : decode cX4_readSigns 49 = .ok (.iload_n 3, 1) := by decide +kernel
theorem D_Reader_readSigns_50 : decode cX4_readSigns 50 = .ok (.ifCond .ne (6), 3) := by decide +kernel
theorem D_Reader_readSigns_53 : decode cX4_readSigns 53 = .ok (.goto (82), 3) := by decide +kernel
theorem D_Reader_readSigns_56 : decode cX4_readSigns 56 = .ok (.iload_n 1, 1) := by decide +kernel
theorem D_Reader_readSigns_57 : decode cX4_readSigns 57 = .ok (.bipush (6), 2) := by decide +kernel
theorem D_Reader_readSigns_59 : decode cX4_readSigns 59 = .ok (.if_icmp .ne (15), 3) := by decide +kernel
theorem D_Reader_readSigns_62 : decode cX4_readSigns 62 = .ok (.aload_n 0, 1) := by decide +kernel
theorem D_Reader_readSigns_63 : decode cX4_readSigns 63 = .ok (.aload_n 0, 1) := by decide +kernel
theorem D_Reader_readSigns_64 : decode cX4_readSigns 64 = .ok (.getfield 41, 3) := by decide +kernel
theorem D_Reader_readSigns_67 : decode cX4_readSigns 67 = .ok (.iconst (2), 1) := by decide +kernel
theorem D_Reader_readSigns_68 : decode cX4_readSigns 68 = .ok (.invokevirtual 82, 3) := by decide +kernel
theorem D_Reader_readSigns_71 : decode cX4_readSigns 71 = .ok (.goto (58), 3) := by decide +kernel
theorem D_Reader_readSigns_74 : decode cX4_readSigns 74 = .ok (.aload_n 0, 1) := by decide +kernel
theorem D_Reader_readSigns_75 : decode cX4_readSigns 75 = .ok (.getfield 63, 3) := by decide +kernel
theorem D_Reader_readSigns_78 : decode cX4_readSigns 78 = .ok (.ifnull (27), 3) := by decide +kernel
theorem D_Reader_readSigns_81 : decode cX4_readSigns 81 = .ok (.aload_n 0, 1) := by decide +kernel
theorem D_Reader_readSigns_82 : decode cX4_readSigns 82 = .ok (.getfield 63, 3) := by decide +kernel
theorem D_Reader_readSigns_85 : decode cX4_readSigns 85 = .ok (.iload_n 3, 1) := by decide +kernel
theorem D_Reader_readSigns_86 : decode cX4_readSigns 86 = .ok (.iload_n 1, 1) := by decide +kernel
theorem D_Reader_readSigns_87 : decode cX4_readSigns 87 = .ok (.invokevirtual 141, 3) := by decide +kernel
theorem D_Reader_readSigns_90 : decode cX4_readSigns 90 = .ok (.ifCond .ne (15), 3) := by decide +kernel
theorem D_Reader_readSigns_93 : decode cX4_readSigns 93 = .ok (.aload_n 0, 1) := by decide +kernel
theorem D_Reader_readSigns_94 : decode cX4_readSigns 94 = .ok (.aload_n 0, 1) := by decide +kernel
theorem D_Reader_readSigns_95 : decode cX4_readSigns 95 = .ok (.getfield 41, 3) := by decide +kernel
theorem D_Reader_readSigns_98 : decode cX4_readSigns 98 = .ok (.iconst (3), 1) := by decide +kernel
theorem D_Reader_readSigns_99 : decode cX4_readSigns 99 = .ok (.invokevirtual 82, 3) := by decide +kernel
theorem D_Reader_readSigns_102 : decode cX4_readSigns 102 = .ok (.goto (27), 3) := by decide +kernel
theorem D_Reader_readSigns_105 : decode cX4_readSigns 105 = .ok (.aload_n 0, 1) := by decide +kernel
theorem D_Reader_readSigns_106 : decode cX4_readSigns 106 = .ok (.getfield 17, 3) := by decide +kernel
theorem D_Reader_readSigns_109 : decode cX4_readSigns 109 = .ok (.iload_n 1, 1) := by decide +kernel
theorem D_Reader_readSigns_110 : decode cX4_readSigns 110 = .ok (.iload_n 3, 1) := by decide +kernel
theorem D_Reader_readSigns_111 : decode cX4_readSigns 111 = .ok (.iastore, 1) := by decide +kernel
theorem D_Reader_readSigns_112 : decode cX4_readSigns 112 = .ok (.iinc 1 (1), 3) := by decide +kernel
theorem D_Reader_readSigns_115 : decode cX4_readSigns 115 = .ok (.aload_n 0, 1) := by decide +kernel
theorem D_Reader_readSigns_116 : decode cX4_readSigns 116 = .ok (.dup, 1) := by decide +kernel
theorem D_Reader_readSigns_117 : decode cX4_readSigns 117 = .ok (.getfield 41, 3) := by decide +kernel
theorem D_Reader_readSigns_120 : decode cX4_readSigns 120 = .ok (.iconst (1), 1) := by decide +kernel
theorem D_Reader_readSigns_121 : decode cX4_readSigns 121 = .ok (.iadd, 1) := by decide +kernel
theorem D_Reader_readSigns_122 : decode cX4_readSigns 122 = .ok (.putfield 41, 3) := by decide +kernel
theorem D_Reader_readSigns_125 : decode cX4_readSigns 125 = .ok (.aload_n 0, 1) := by decide +kernel
theorem D_Reader_readSigns_126 : decode cX4_readSigns 126 = .ok (.invokevirtual 50, 3) := by decide +kernel
theorem D_Reader_readSigns_129 : decode cX4_readSigns 129 = .ok (.iinc 2 (1), 3) := by decide +kernel
theorem D_Reader_readSigns_132 : decode cX4_readSigns 132 = .ok (.goto (-124), 3) := by decide +kernel
theorem D_Reader_readSigns_135 : decode cX4_readSigns 135 = .ok (.iload_n 1, 1) := by decide +kernel
theorem D_Reader_readSigns_136 : decode cX4_readSigns 136 = .ok (.ireturn, 1) := by decide +kernel
def K_Reader_readSigns : SC := (cX4_readSigns, "TwoLevels$Reader", 4, 2, false, [1, 5, 11, 26, 29, 30, 38, 53, 54], NoQ)
def d_Reader_readSigns : MD Int32 := mth tt 4 (sq (sI1 1 (eC (nI 0)))
 (sq (sE (kV 5 d_Reader_skipBlanks (lR 0) []))
 (sq (sq (sI1 2 (eC (nI 0)))
 (loop (cAnd (cAnd (eh2 c_le (lI 2) (eC (nI 6))) (eh1 z_eq (eh1 (gI 5 3) (lR 0)))) (eh2 c_lt (eh1 (gI 5 2) (lR 0)) (eh1 (gI 5 1) (lR 0))))
 (sq (sI1 3 (kV 11 d_Upper_signOf (eh1 (gR 5 8) (lR 0)) [vI (eh2 (aI .int) (eh1 (gR 5 0) (lR 0)) (eh1 (gI 5 2) (lR 0)))]))
 (sq (sIf (eh1 z_eq (lI 3)) brk sk)
 (sIf (eh2 c_eq (lI 1) (eC (nI 6))) (sE (kV 5 d_Reader_failAt (lR 0) [vI (eh1 (gI 5 2) (lR 0)), vI (eC (nI 2))])) (sIf (cAnd (eh1 n_non (eh1 (gR 5 7) (lR 0))) (cNot (eh1 z_ne (kV 1 d_Choice_admits (eh1 (gR 5 7) (lR 0)) [vI (lI 3), vI (lI 1)])))) (sE (kV 5 d_Reader_failAt (lR 0) [vI (eh1 (gI 5 2) (lR 0)), vI (eC (nI 3))])) (sq (sh3 (stI [26]) (eh1 (gR 5 4) (lR 0)) (lI 1) (lI 3))
 (sq (sInc 1 (nI 1))
 (sq (su2 (gI 5 2) (uF false 5 2 (fun x y => x + y)) (lR 0) (eC (nI 1)))
 (sE (kV 5 d_Reader_skipBlanks (lR 0) [])))))))))
 (sInc 2 (nI 1))))
 (rtn (lI 1)))))
theorem m_Reader_readSigns : MJ 2 [1, 5, 11, 26, 29, 30, 38, 53, 54] yX4_readSigns (some .int) eI (d_Reader_readSigns) := MJ_of (K := K_Reader_readSigns) (ri := .ireturn) (n1 := 0) (n2 := 0) (n3 := 0)
 (SJ_sq (p0 := 0) (p1 := 2) (nN := 0) (nB := 0) (nC := 0) (SJ_istore_n (i := 1) (j := 1) (p0 := 0) (p1 := 1) (EJ_iconst (n := 0) (v := (nI 0)) (pc := 0) D_Reader_readSigns_0 (by decide +kernel)) D_Reader_readSigns_1 rfl)
 (SJ_sq (p0 := 2) (p1 := 6) (nN := 0) (nB := 0) (nC := 0) (SJ_void (p0 := 2) (p1 := 6) (EJ_callV (t := 5) (c := 4) (r := (RX4, TX4, 9)) (p0 := 2) (p1 := 3) (p2 := 3) (EJ_aload_n (j := 0) (i := 0) (pc := 2) D_Reader_readSigns_2 rfl) AJ_nil m_Reader_skipBlanks E1_U D_Reader_readSigns_3 rfl rfl rfl q_309 q_310 q_1 q_92 ⟨by decide +kernel, by decide +kernel, by decide +kernel⟩ (by decide) (show 1 + 1 ≤ 2 from by decide) (show ∀ x_ ∈ ([5] : List Nat), x_ ∈ ([1, 5, 11, 26, 29, 30, 38, 53, 54] : List Nat) from by decide)))
 (SJ_sq (p0 := 6) (p1 := 135) (nN := 0) (nB := 0) (nC := 0) (SJ_sq (p0 := 6) (p1 := 8) (nN := 135) (nB := 0) (nC := 0) (SJ_istore_n (i := 2) (j := 2) (p0 := 6) (p1 := 7) (EJ_iconst (n := 0) (v := (nI 0)) (pc := 6) D_Reader_readSigns_6 (by decide +kernel)) D_Reader_readSigns_7 rfl)
 (SJ_loop (p0 := 8) (pB := 32) (pS := 129) (pE := 135) (CJ_and (p0 := 8) (pM := 21) (pT := 32) (pF := 135) (CJ_and (p0 := 8) (pM := 14) (pT := 21) (pF := 135) (CJ_le' (off := 124) (tgt := 135) (p0 := 8) (p1 := 9) (p2 := 11) (EJ_iload_n (j := 2) (i := 2) (pc := 8) D_Reader_readSigns_8 rfl) (EJ_bipush (n := 6) (v := (nI 6)) (pc := 9) D_Reader_readSigns_9 (by decide +kernel)) D_Reader_readSigns_11 rfl) (CZ_eq' (off := 117) (tgt := 135) (p0 := 14) (p1 := 18) (EJ_getI (t := 5) (c := 4) (kf := 3) (r := (RX4, TX4, 9)) (p0 := 14) (p1 := 15) (EJ_aload_n (j := 0) (i := 0) (pc := 14) D_Reader_readSigns_14 rfl) D_Reader_readSigns_15 ⟨rfl, rfl, by decide, q_149⟩ (fun _ _ => rfl)) D_Reader_readSigns_18 rfl)) (CJ_lt' (off := 106) (tgt := 135) (p0 := 21) (p1 := 25) (p2 := 29) (EJ_getI (t := 5) (c := 4) (kf := 2) (r := (RX4, TX4, 9)) (p0 := 21) (p1 := 22) (EJ_aload_n (j := 0) (i := 0) (pc := 21) D_Reader_readSigns_21 rfl) D_Reader_readSigns_22 ⟨rfl, rfl, by decide, q_148⟩ (fun _ _ => rfl)) (EJ_getI (t := 5) (c := 4) (kf := 1) (r := (RX4, TX4, 9)) (p0 := 25) (p1 := 26) (EJ_aload_n (j := 0) (i := 0) (pc := 25) D_Reader_readSigns_25 rfl) D_Reader_readSigns_26 ⟨rfl, rfl, by decide, q_147⟩ (fun _ _ => rfl)) D_Reader_readSigns_29 rfl))
 (SJ_sq (p0 := 32) (p1 := 49) (nN := 129) (nB := 135) (nC := 129) (SJ_istore_n (i := 3) (j := 3) (p0 := 32) (p1 := 48) (EJ_callV (t := 11) (c := 10) (r := (RX10, TX10, 7)) (p0 := 32) (p1 := 36) (p2 := 45) (EJ_getR (t := 5) (c := 4) (kf := 8) (r := (RX4, TX4, 9)) (p0 := 32) (p1 := 33) (EJ_aload_n (j := 0) (i := 0) (pc := 32) D_Reader_readSigns_32 rfl) D_Reader_readSigns_33 ⟨rfl, rfl, by decide, q_154⟩ (fun _ _ => rfl)) (AJ_I (p0 := 36) (p1 := 45) (p2 := 45) (EJ_iald (p0 := 36) (p1 := 40) (p2 := 44) (EJ_getR (t := 5) (c := 4) (kf := 0) (r := (RX4, TX4, 9)) (p0 := 36) (p1 := 37) (EJ_aload_n (j := 0) (i := 0) (pc := 36) D_Reader_readSigns_36 rfl) D_Reader_readSigns_37 ⟨rfl, rfl, by decide, q_146⟩ (fun _ _ => rfl)) (EJ_getI (t := 5) (c := 4) (kf := 2) (r := (RX4, TX4, 9)) (p0 := 40) (p1 := 41) (EJ_aload_n (j := 0) (i := 0) (pc := 40) D_Reader_readSigns_40 rfl) D_Reader_readSigns_41 ⟨rfl, rfl, by decide, q_148⟩ (fun _ _ => rfl)) D_Reader_readSigns_44) AJ_nil) m_Upper_signOf E1_I D_Reader_readSigns_45 rfl rfl rfl q_318 q_319 q_320 q_93 ⟨by decide +kernel, by decide +kernel, by decide +kernel⟩ (by decide) (show 1 + 1 ≤ 2 from by decide) (show ∀ x_ ∈ ([11, 29, 30] : List Nat), x_ ∈ ([1, 5, 11, 26, 29, 30, 38, 53, 54] : List Nat) from by decide)) D_Reader_readSigns_48 rfl)
 (SJ_sq (p0 := 49) (p1 := 56) (nN := 129) (nB := 135) (nC := 129) (SJ_if (p0 := 49) (pT := 135) (pF := 56) (nN := 56) (nB := 135) (nC := 129) (CJ_lead (CZ_eq' (off := 6) (tgt := 56) (p0 := 49) (p1 := 50) (EJ_iload_n (j := 3) (i := 3) (pc := 49) D_Reader_readSigns_49 rfl) D_Reader_readSigns_50 rfl) (Lead.goto (K := K_Reader_readSigns) (pc := 53) (tgt := 135) D_Reader_readSigns_53 rfl) Lead.rf) SJ_brk SJ_sk)
 (SJ_if (p0 := 56) (pT := 62) (pF := 74) (nN := 129) (nB := 135) (nC := 129) (CJ_eq' (off := 15) (tgt := 74) (p0 := 56) (p1 := 57) (p2 := 59) (EJ_iload_n (j := 1) (i := 1) (pc := 56) D_Reader_readSigns_56 rfl) (EJ_bipush (n := 6) (v := (nI 6)) (pc := 57) D_Reader_readSigns_57 (by decide +kernel)) D_Reader_readSigns_59 rfl) (SJ_post (SJ_void (p0 := 62) (p1 := 71) (EJ_callV (t := 5) (c := 4) (r := (RX4, TX4, 9)) (p0 := 62) (p1 := 63) (p2 := 68) (EJ_aload_n (j := 0) (i := 0) (pc := 62) D_Reader_readSigns_62 rfl) (AJ_I (p0 := 63) (p1 := 67) (p2 := 68) (EJ_getI (t := 5) (c := 4) (kf := 2) (r := (RX4, TX4, 9)) (p0 := 63) (p1 := 64) (EJ_aload_n (j := 0) (i := 0) (pc := 63) D_Reader_readSigns_63 rfl) D_Reader_readSigns_64 ⟨rfl, rfl, by decide, q_148⟩ (fun _ _ => rfl)) (AJ_I (p0 := 67) (p1 := 68) (p2 := 68) (EJ_iconst (n := 2) (v := (nI 2)) (pc := 67) D_Reader_readSigns_67 (by decide +kernel)) AJ_nil)) m_Reader_failAt E1_U D_Reader_readSigns_68 rfl rfl rfl q_322 q_323 q_4 q_92 ⟨by decide +kernel, by decide +kernel, by decide +kernel⟩ (by decide) (show 1 + 1 ≤ 2 from by decide) (show ∀ x_ ∈ ([5] : List Nat), x_ ∈ ([1, 5, 11, 26, 29, 30, 38, 53, 54] : List Nat) from by decide))) (Lead.goto (K := K_Reader_readSigns) (pc := 71) (tgt := 129) D_Reader_readSigns_71 rfl)) (SJ_if (p0 := 74) (pT := 93) (pF := 105) (nN := 129) (nB := 135) (nC := 129) (CJ_and (p0 := 74) (pM := 81) (pT := 93) (pF := 105) (CN_non' (off := 27) (tgt := 105) (p0 := 74) (p1 := 78) (EJ_getR (t := 5) (c := 4) (kf := 7) (r := (RX4, TX4, 9)) (p0 := 74) (p1 := 75) (EJ_aload_n (j := 0) (i := 0) (pc := 74) D_Reader_readSigns_74 rfl) D_Reader_readSigns_75 ⟨rfl, rfl, by decide, q_153⟩ (fun _ _ => rfl)) D_Reader_readSigns_78 rfl) (CJ_not (p0 := 81) (pT := 93) (pF := 105) (CZ_ne (off := 15) (tgt := 105) (p0 := 81) (p1 := 90) (EJ_callV (t := 1) (c := 0) (r := (RX0, TX0, 11)) (p0 := 81) (p1 := 85) (p2 := 87) (EJ_getR (t := 5) (c := 4) (kf := 7) (r := (RX4, TX4, 9)) (p0 := 81) (p1 := 82) (EJ_aload_n (j := 0) (i := 0) (pc := 81) D_Reader_readSigns_81 rfl) D_Reader_readSigns_82 ⟨rfl, rfl, by decide, q_153⟩ (fun _ _ => rfl)) (AJ_I (p0 := 85) (p1 := 86) (p2 := 87) (EJ_iload_n (j := 3) (i := 3) (pc := 85) D_Reader_readSigns_85 rfl) (AJ_I (p0 := 86) (p1 := 87) (p2 := 87) (EJ_iload_n (j := 1) (i := 1) (pc := 86) D_Reader_readSigns_86 rfl) AJ_nil)) m_Choice_admits E1_I D_Reader_readSigns_87 rfl rfl rfl q_325 q_326 q_327 q_103 ⟨by decide +kernel, by decide +kernel, by decide +kernel⟩ (by decide) (show 1 + 1 ≤ 2 from by decide) (show ∀ x_ ∈ ([1, 38, 53, 54] : List Nat), x_ ∈ ([1, 5, 11, 26, 29, 30, 38, 53, 54] : List Nat) from by decide)) D_Reader_readSigns_90 rfl))) (SJ_post (SJ_void (p0 := 93) (p1 := 102) (EJ_callV (t := 5) (c := 4) (r := (RX4, TX4, 9)) (p0 := 93) (p1 := 94) (p2 := 99) (EJ_aload_n (j := 0) (i := 0) (pc := 93) D_Reader_readSigns_93 rfl) (AJ_I (p0 := 94) (p1 := 98) (p2 := 99) (EJ_getI (t := 5) (c := 4) (kf := 2) (r := (RX4, TX4, 9)) (p0 := 94) (p1 := 95) (EJ_aload_n (j := 0) (i := 0) (pc := 94) D_Reader_readSigns_94 rfl) D_Reader_readSigns_95 ⟨rfl, rfl, by decide, q_148⟩ (fun _ _ => rfl)) (AJ_I (p0 := 98) (p1 := 99) (p2 := 99) (EJ_iconst (n := 3) (v := (nI 3)) (pc := 98) D_Reader_readSigns_98 (by decide +kernel)) AJ_nil)) m_Reader_failAt E1_U D_Reader_readSigns_99 rfl rfl rfl q_322 q_323 q_4 q_92 ⟨by decide +kernel, by decide +kernel, by decide +kernel⟩ (by decide) (show 1 + 1 ≤ 2 from by decide) (show ∀ x_ ∈ ([5] : List Nat), x_ ∈ ([1, 5, 11, 26, 29, 30, 38, 53, 54] : List Nat) from by decide))) (Lead.goto (K := K_Reader_readSigns) (pc := 102) (tgt := 129) D_Reader_readSigns_102 rfl)) (SJ_sq (p0 := 105) (p1 := 112) (nN := 129) (nB := 135) (nC := 129) (SJ_iast (ws := [26]) (p0 := 105) (p1 := 109) (p2 := 110) (p3 := 111) (EJ_getR (t := 5) (c := 4) (kf := 4) (r := (RX4, TX4, 9)) (p0 := 105) (p1 := 106) (EJ_aload_n (j := 0) (i := 0) (pc := 105) D_Reader_readSigns_105 rfl) D_Reader_readSigns_106 ⟨rfl, rfl, by decide, q_150⟩ (fun _ _ => rfl)) (EJ_iload_n (j := 1) (i := 1) (pc := 109) D_Reader_readSigns_109 rfl) (EJ_iload_n (j := 3) (i := 3) (pc := 110) D_Reader_readSigns_110 rfl) D_Reader_readSigns_111 (show ∀ x_ ∈ ([26] : List Nat), x_ ∈ ([1, 5, 11, 26, 29, 30, 38, 53, 54] : List Nat) from by decide))
 (SJ_sq (p0 := 112) (p1 := 115) (nN := 129) (nB := 135) (nC := 129) (SJ_iinc (i := 1) (n := 1) (v := (nI 1)) (pc := 112) D_Reader_readSigns_112 (by decide +kernel))
 (SJ_sq (p0 := 115) (p1 := 125) (nN := 129) (nB := 135) (nC := 129) (SJ_upF (z := false) (t := 5) (c := 4) (kf := 2) (r := (RX4, TX4, 9)) (f := (fun x y => x + y)) (p0 := 115) (p1 := 116) (p3 := 121) (EJ_aload_n (j := 0) (i := 0) (pc := 115) D_Reader_readSigns_115 rfl) D_Reader_readSigns_116 D_Reader_readSigns_117 (EJ_iconst (n := 1) (v := (nI 1)) (pc := 120) D_Reader_readSigns_120 (by decide +kernel)) (Op2_iadd D_Reader_readSigns_121) D_Reader_readSigns_122 ⟨rfl, rfl, by decide, q_148⟩ ⟨rfl, rfl, by decide, q_148⟩ (Or.inl rfl) (fun _ _ => ⟨rfl, rfl⟩) (fun _ _ => rfl) (show (5 : Nat) ∈ ([1, 5, 11, 26, 29, 30, 38, 53, 54] : List Nat) from by decide))
 (SJ_void (p0 := 125) (p1 := 129) (EJ_callV (t := 5) (c := 4) (r := (RX4, TX4, 9)) (p0 := 125) (p1 := 126) (p2 := 126) (EJ_aload_n (j := 0) (i := 0) (pc := 125) D_Reader_readSigns_125 rfl) AJ_nil m_Reader_skipBlanks E1_U D_Reader_readSigns_126 rfl rfl rfl q_309 q_310 q_1 q_92 ⟨by decide +kernel, by decide +kernel, by decide +kernel⟩ (by decide) (show 1 + 1 ≤ 2 from by decide) (show ∀ x_ ∈ ([5] : List Nat), x_ ∈ ([1, 5, 11, 26, 29, 30, 38, 53, 54] : List Nat) from by decide))))))))))
 (SJ_post (SJ_iinc (i := 2) (n := 1) (v := (nI 1)) (pc := 129) D_Reader_readSigns_129 (by decide +kernel)) (Lead.goto (K := K_Reader_readSigns) (pc := 132) (tgt := 8) D_Reader_readSigns_132 rfl))))
 (SJ_ret (p0 := 135) (p1 := 136) (EJ_iload_n (j := 1) (i := 1) (pc := 135) D_Reader_readSigns_135 rfl) D_Reader_readSigns_136))))
 RTm_int q_317 (by decide +kernel) rfl (fun h => by cases h) (show 4 ≤ 40 from by decide) (fun _ => trivial)
theorem D_Upper_addRow_0 : decode cX10_addRow 0 = .ok (.iload_n 1, 1) := by decide +kernel
theorem D_Upper_addRow_1 : decode cX10_addRow 1 = .ok (.bipush (32), 2) := by decide +kernel
theorem D_Upper_addRow_3 : decode cX10_addRow 3 = .ok (.isub, 1) := by decide +kernel
theorem D_Upper_addRow_4 : decode cX10_addRow 4 = .ok (.istore_n 3, 1) := by decide +kernel
theorem D_Upper_addRow_5 : decode cX10_addRow 5 = .ok (.iload_n 3, 1) := by decide +kernel
theorem D_Upper_addRow_6 : decode cX10_addRow 6 = .ok (.ifCond .lt (45), 3) := by decide +kernel
theorem D_Upper_addRow_9 : decode cX10_addRow 9 = .ok (.iload_n 3, 1) := by decide +kernel
theorem D_Upper_addRow_10 : decode cX10_addRow 10 = .ok (.bipush (6), 2) := by decide +kernel
theorem D_Upper_addRow_12 : decode cX10_addRow 12 = .ok (.if_icmp .ge (39), 3) := by decide +kernel
theorem D_Upper_addRow_15 : decode cX10_addRow 15 = .ok (.aload_n 0, 1) := by decide +kernel
theorem D_Upper_addRow_16 : decode cX10_addRow 16 = .ok (.getfield 23, 3) := by decide +kernel
theorem D_Upper_addRow_19 : decode cX10_addRow 19 = .ok (.iload_n 3, 1) := by decide +kernel
theorem D_Upper_addRow_20 : decode cX10_addRow 20 = .ok (.iaload, 1) := by decide +kernel
theorem D_Upper_addRow_21 : decode cX10_addRow 21 = .ok (.iconst (4), 1) := by decide +kernel
theorem D_Upper_addRow_22 : decode cX10_addRow 22 = .ok (.if_icmp .ge (29), 3) := by decide +kernel
theorem D_Upper_addRow_25 : decode cX10_addRow 25 = .ok (.aload_n 0, 1) := by decide +kernel
theorem D_Upper_addRow_26 : decode cX10_addRow 26 = .ok (.getfield 19, 3) := by decide +kernel
theorem D_Upper_addRow_29 : decode cX10_addRow 29 = .ok (.iload_n 3, 1) := by decide +kernel
theorem D_Upper_addRow_30 : decode cX10_addRow 30 = .ok (.iconst (4), 1) := by decide +kernel
theorem D_Upper_addRow_31 : decode cX10_addRow 31 = .ok (.imul, 1) := by decide +kernel
theorem D_Upper_addRow_32 : decode cX10_addRow 32 = .ok (.aload_n 0, 1) := by decide +kernel
theorem D_Upper_addRow_33 : decode cX10_addRow 33 = .ok (.getfield 23, 3) := by decide +kernel
theorem D_Upper_addRow_36 : decode cX10_addRow 36 = .ok (.iload_n 3, 1) := by decide +kernel
theorem D_Upper_addRow_37 : decode cX10_addRow 37 = .ok (.iaload, 1) := by decide +kernel
theorem D_Upper_addRow_38 : decode cX10_addRow 38 = .ok (.iadd, 1) := by decide +kernel
theorem D_Upper_addRow_39 : decode cX10_addRow 39 = .ok (.aload_n 2, 1) := by decide +kernel
theorem D_Upper_addRow_40 : decode cX10_addRow 40 = .ok (.aastore, 1) := by decide +kernel
theorem D_Upper_addRow_41 : decode cX10_addRow 41 = .ok (.aload_n 0, 1) := by decide +kernel
theorem D_Upper_addRow_42 : decode cX10_addRow 42 = .ok (.getfield 23, 3) := by decide +kernel
theorem D_Upper_addRow_45 : decode cX10_addRow 45 = .ok (.iload_n 3, 1) := by decide +kernel
theorem D_Upper_addRow_46 : decode cX10_addRow 46 = .ok (.dup2, 1) := by decide +kernel
theorem D_Upper_addRow_47 : decode cX10_addRow 47 = .ok (.iaload, 1) := by decide +kernel
theorem D_Upper_addRow_48 : decode cX10_addRow 48 = .ok (.iconst (1), 1) := by decide +kernel
theorem D_Upper_addRow_49 : decode cX10_addRow 49 = .ok (.iadd, 1) := by decide +kernel
theorem D_Upper_addRow_50 : decode cX10_addRow 50 = .ok (.iastore, 1) := by decide +kernel
theorem D_Upper_addRow_51 : decode cX10_addRow 51 = .ok (.return_, 1) := by decide +kernel
def K_Upper_addRow : SC := (cX10_addRow, "TwoLevels$Upper", 4, 1, false, [31, 32], NoQ)
def d_Upper_addRow : MD Unit := mth tt 4 (sq (sI1 3 (eh2 isubF (lI 1) (eC (nI 32))))
 (sq (sIf (cAnd (cAnd (eh1 z_ge (lI 3)) (eh2 c_lt (lI 3) (eC (nI 6)))) (eh2 c_lt (eh2 (aI .int) (eh1 (gR 11 3) (lR 0)) (lI 3)) (eC (nI 4)))) (sq (sh3 (stA [31]) (eh1 (gR 11 2) (lR 0)) (eh2 iaddF (eh2 imulF (lI 3) (eC (nI 4))) (eh2 (aI .int) (eh1 (gR 11 3) (lR 0)) (lI 3))) (lR 2))
 (su3 (aI .int) (uA [32] (fun x y => x + y)) (eh1 (gR 11 3) (lR 0)) (lI 3) (eC (nI 1)))) sk)
 rtnU))
theorem m_Upper_addRow : MJ 1 [31, 32] yX10_addRow none eU (d_Upper_addRow) := MJ_of (K := K_Upper_addRow) (ri := .return_) (n1 := 0) (n2 := 0) (n3 := 0)
 (SJ_sq (p0 := 0) (p1 := 5) (nN := 0) (nB := 0) (nC := 0) (SJ_istore_n (i := 3) (j := 3) (p0 := 0) (p1 := 4) (EJ_isub (p0 := 0) (p1 := 1) (p2 := 3) (EJ_iload_n (j := 1) (i := 1) (pc := 0) D_Upper_addRow_0 rfl) (EJ_bipush (n := 32) (v := (nI 32)) (pc := 1) D_Upper_addRow_1 (by decide +kernel)) D_Upper_addRow_3) D_Upper_addRow_4 rfl)
 (SJ_sq (p0 := 5) (p1 := 51) (nN := 0) (nB := 0) (nC := 0) (SJ_if (p0 := 5) (pT := 25) (pF := 51) (nN := 51) (nB := 0) (nC := 0) (CJ_and (p0 := 5) (pM := 15) (pT := 25) (pF := 51) (CJ_and (p0 := 5) (pM := 9) (pT := 15) (pF := 51) (CZ_ge' (off := 45) (tgt := 51) (p0 := 5) (p1 := 6) (EJ_iload_n (j := 3) (i := 3) (pc := 5) D_Upper_addRow_5 rfl) D_Upper_addRow_6 rfl) (CJ_lt' (off := 39) (tgt := 51) (p0 := 9) (p1 := 10) (p2 := 12) (EJ_iload_n (j := 3) (i := 3) (pc := 9) D_Upper_addRow_9 rfl) (EJ_bipush (n := 6) (v := (nI 6)) (pc := 10) D_Upper_addRow_10 (by decide +kernel)) D_Upper_addRow_12 rfl)) (CJ_lt' (off := 29) (tgt := 51) (p0 := 15) (p1 := 21) (p2 := 22) (EJ_iald (p0 := 15) (p1 := 19) (p2 := 20) (EJ_getR (t := 11) (c := 10) (kf := 3) (r := (RX10, TX10, 7)) (p0 := 15) (p1 := 16) (EJ_aload_n (j := 0) (i := 0) (pc := 15) D_Upper_addRow_15 rfl) D_Upper_addRow_16 ⟨rfl, rfl, by decide, q_132⟩ (fun _ _ => rfl)) (EJ_iload_n (j := 3) (i := 3) (pc := 19) D_Upper_addRow_19 rfl) D_Upper_addRow_20) (EJ_iconst (n := 4) (v := (nI 4)) (pc := 21) D_Upper_addRow_21 (by decide +kernel)) D_Upper_addRow_22 rfl)) (SJ_sq (p0 := 25) (p1 := 41) (nN := 51) (nB := 0) (nC := 0) (SJ_rast (ws := [31]) (p0 := 25) (p1 := 29) (p2 := 39) (p3 := 40) (EJ_getR (t := 11) (c := 10) (kf := 2) (r := (RX10, TX10, 7)) (p0 := 25) (p1 := 26) (EJ_aload_n (j := 0) (i := 0) (pc := 25) D_Upper_addRow_25 rfl) D_Upper_addRow_26 ⟨rfl, rfl, by decide, q_131⟩ (fun _ _ => rfl)) (EJ_iadd (p0 := 29) (p1 := 32) (p2 := 38) (EJ_imul (p0 := 29) (p1 := 30) (p2 := 31) (EJ_iload_n (j := 3) (i := 3) (pc := 29) D_Upper_addRow_29 rfl) (EJ_iconst (n := 4) (v := (nI 4)) (pc := 30) D_Upper_addRow_30 (by decide +kernel)) D_Upper_addRow_31) (EJ_iald (p0 := 32) (p1 := 36) (p2 := 37) (EJ_getR (t := 11) (c := 10) (kf := 3) (r := (RX10, TX10, 7)) (p0 := 32) (p1 := 33) (EJ_aload_n (j := 0) (i := 0) (pc := 32) D_Upper_addRow_32 rfl) D_Upper_addRow_33 ⟨rfl, rfl, by decide, q_132⟩ (fun _ _ => rfl)) (EJ_iload_n (j := 3) (i := 3) (pc := 36) D_Upper_addRow_36 rfl) D_Upper_addRow_37) D_Upper_addRow_38) (EJ_aload_n (j := 2) (i := 2) (pc := 39) D_Upper_addRow_39 rfl) D_Upper_addRow_40 (show ∀ x_ ∈ ([31] : List Nat), x_ ∈ ([31, 32] : List Nat) from by decide))
 (SJ_upA (ws := [32]) (f := (fun x y => x + y)) (p0 := 41) (p1 := 45) (p2 := 46) (p4 := 49) (EJ_getR (t := 11) (c := 10) (kf := 3) (r := (RX10, TX10, 7)) (p0 := 41) (p1 := 42) (EJ_aload_n (j := 0) (i := 0) (pc := 41) D_Upper_addRow_41 rfl) D_Upper_addRow_42 ⟨rfl, rfl, by decide, q_132⟩ (fun _ _ => rfl)) (EJ_iload_n (j := 3) (i := 3) (pc := 45) D_Upper_addRow_45 rfl) D_Upper_addRow_46 D_Upper_addRow_47 (EJ_iconst (n := 1) (v := (nI 1)) (pc := 48) D_Upper_addRow_48 (by decide +kernel)) (Op2_iadd D_Upper_addRow_49) D_Upper_addRow_50 (show ∀ x_ ∈ ([32] : List Nat), x_ ∈ ([31, 32] : List Nat) from by decide))) SJ_sk)
 (SJ_retU (pc := 51) D_Upper_addRow_51)))
 RTm_void q_372 (by decide +kernel) rfl (fun h => by cases h) (show 4 ≤ 40 from by decide) (fun _ => trivial)
theorem D_Upper_setTold_0 : decode cX10_setTold 0 = .ok (.aload_n 0, 1) := by decide +kernel
theorem D_Upper_setTold_1 : decode cX10_setTold 1 = .ok (.dup, 1) := by decide +kernel
theorem D_Upper_setTold_2 : decode cX10_setTold 2 = .ok (.getfield 36, 3) := by decide +kernel
theorem D_Upper_setTold_5 : decode cX10_setTold 5 = .ok (.iload_n 1, 1) := by decide +kernel
theorem D_Upper_setTold_6 : decode cX10_setTold 6 = .ok (.invokestatic 39, 3) := by decide +kernel
theorem D_Upper_setTold_9 : decode cX10_setTold 9 = .ok (.ior, 1) := by decide +kernel
theorem D_Upper_setTold_10 : decode cX10_setTold 10 = .ok (.putfield 36, 3) := by decide +kernel
theorem D_Upper_setTold_13 : decode cX10_setTold 13 = .ok (.return_, 1) := by decide +kernel
def K_Upper_setTold : SC := (cX10_setTold, "TwoLevels$Upper", 2, 2, false, [11], NoQ)
def d_Upper_setTold : MD Unit := mth tt 2 (sq (su2 (gI 11 5) (uF false 11 5 (fun x y => x ||| y)) (lR 0) (kS d_Upper_bitOf [vI (lI 1)]))
 rtnU)
theorem m_Upper_setTold : MJ 2 [11] yX10_setTold none eU (d_Upper_setTold) := MJ_of (K := K_Upper_setTold) (ri := .return_) (n1 := 0) (n2 := 0) (n3 := 0)
 (SJ_sq (p0 := 0) (p1 := 13) (nN := 0) (nB := 0) (nC := 0) (SJ_upF (z := false) (t := 11) (c := 10) (kf := 5) (r := (RX10, TX10, 7)) (f := (fun x y => x ||| y)) (p0 := 0) (p1 := 1) (p3 := 9) (EJ_aload_n (j := 0) (i := 0) (pc := 0) D_Upper_setTold_0 rfl) D_Upper_setTold_1 D_Upper_setTold_2 (EJ_callS (p0 := 5) (p1 := 6) (AJ_I (p0 := 5) (p1 := 6) (p2 := 6) (EJ_iload_n (j := 1) (i := 1) (pc := 5) D_Upper_setTold_5 rfl) AJ_nil) m_Upper_bitOf E1_I D_Upper_setTold_6 q_339 q_340 q_93 ⟨by decide +kernel, by decide +kernel, by decide +kernel⟩ (by decide) (show 1 + 1 ≤ 2 from by decide) (fun _ h => absurd h List.not_mem_nil)) (Op2_ior D_Upper_setTold_9) D_Upper_setTold_10 ⟨rfl, rfl, by decide, q_134⟩ ⟨rfl, rfl, by decide, q_134⟩ (Or.inl rfl) (fun _ _ => ⟨rfl, rfl⟩) (fun _ _ => rfl) (show (11 : Nat) ∈ ([11] : List Nat) from by decide))
 (SJ_retU (pc := 13) D_Upper_setTold_13))
 RTm_void q_355 (by decide +kernel) rfl (fun h => by cases h) (show 2 ≤ 40 from by decide) (fun _ => trivial)
theorem D_Upper_toldMany_0 : decode cX10_toldMany 0 = .ok (.aload_n 0, 1) := by decide +kernel
theorem D_Upper_toldMany_1 : decode cX10_toldMany 1 = .ok (.getfield 36, 3) := by decide +kernel
theorem D_Upper_toldMany_4 : decode cX10_toldMany 4 = .ok (.invokestatic 43, 3) := by decide +kernel
theorem D_Upper_toldMany_7 : decode cX10_toldMany 7 = .ok (.ireturn, 1) := by decide +kernel
def K_Upper_toldMany : SC := (cX10_toldMany, "TwoLevels$Upper", 1, 2, false, [], NoQ)
def d_Upper_toldMany : MD Int32 := mth tt 1 (rtn (kS d_Integer_bitCount [vI (eh1 (gI 11 5) (lR 0))]))
theorem m_Upper_toldMany : MJ 2 [] yX10_toldMany (some .int) eI (d_Upper_toldMany) := MJ_of (K := K_Upper_toldMany) (ri := .ireturn) (n1 := 0) (n2 := 0) (n3 := 0)
 (SJ_ret (p0 := 0) (p1 := 7) (EJ_callS (p0 := 0) (p1 := 4) (AJ_I (p0 := 0) (p1 := 4) (p2 := 4) (EJ_getI (t := 11) (c := 10) (kf := 5) (r := (RX10, TX10, 7)) (p0 := 0) (p1 := 1) (EJ_aload_n (j := 0) (i := 0) (pc := 0) D_Upper_toldMany_0 rfl) D_Upper_toldMany_1 ⟨rfl, rfl, by decide, q_134⟩ (fun _ _ => rfl)) AJ_nil) m_Integer_bitCount E1_I D_Upper_toldMany_4 q_346 q_347 q_99 ⟨by decide +kernel, by decide +kernel, by decide +kernel⟩ (by decide) (show 1 + 1 ≤ 2 from by decide) (fun _ h => absurd h List.not_mem_nil)) D_Upper_toldMany_7)
 RTm_int q_345 (by decide +kernel) rfl (fun h => by cases h) (show 1 ≤ 40 from by decide) (fun _ => trivial)
theorem D_Reader_readMetanotion_0 : decode cX4_readMetanotion 0 = .ok (.aload_n 0, 1) := by decide +kernel
theorem D_Reader_readMetanotion_1 : decode cX4_readMetanotion 1 = .ok (.getfield 27, 3) := by decide +kernel
theorem D_Reader_readMetanotion_4 : decode cX4_readMetanotion 4 = .ok (.iload_n 2, 1) := by decide +kernel
theorem D_Reader_readMetanotion_5 : decode cX4_readMetanotion 5 = .ok (.invokevirtual 88, 3) := by decide +kernel
theorem D_Reader_readMetanotion_8 : decode cX4_readMetanotion 8 = .ok (.ifCond .eq (10), 3) := by decide +kernel
theorem D_Reader_readMetanotion_11 : decode cX4_readMetanotion 11 = .ok (.aload_n 0, 1) := by decide +kernel
theorem D_Reader_readMetanotion_12 : decode cX4_readMetanotion 12 = .ok (.iload_n 1, 1) := by decide +kernel
theorem D_Reader_readMetanotion_13 : decode cX4_readMetanotion 13 = .ok (.iconst (4), 1) := by decide +kernel
theorem D_Reader_readMetanotion_14 : decode cX4_readMetanotion 14 = .ok (.invokevirtual 82, 3) := by decide +kernel
theorem D_Reader_readMetanotion_17 : decode cX4_readMetanotion 17 = .ok (.return_, 1) := by decide +kernel
theorem D_Reader_readMetanotion_18 : decode cX4_readMetanotion 18 = .ok (.aload_n 0, 1) := by decide +kernel
theorem D_Reader_readMetanotion_19 : decode cX4_readMetanotion 19 = .ok (.getfield 27, 3) := by decide +kernel
theorem D_Reader_readMetanotion_22 : decode cX4_readMetanotion 22 = .ok (.invokevirtual 91, 3) := by decide +kernel
theorem D_Reader_readMetanotion_25 : decode cX4_readMetanotion 25 = .ok (.bipush (6), 2) := by decide +kernel
theorem D_Reader_readMetanotion_27 : decode cX4_readMetanotion 27 = .ok (.if_icmp .ne (10), 3) := by decide +kernel
theorem D_Reader_readMetanotion_30 : decode cX4_readMetanotion 30 = .ok (.aload_n 0, 1) := by decide +kernel
theorem D_Reader_readMetanotion_31 : decode cX4_readMetanotion 31 = .ok (.iload_n 1, 1) := by decide +kernel
theorem D_Reader_readMetanotion_32 : decode cX4_readMetanotion 32 = .ok (.iconst (3), 1) := by decide +kernel
theorem D_Reader_readMetanotion_33 : decode cX4_readMetanotion 33 = .ok (.invokevirtual 82, 3) := by decide +kernel
theorem D_Reader_readMetanotion_36 : decode cX4_readMetanotion 36 = .ok (.return_, 1) := by decide +kernel
theorem D_Reader_readMetanotion_37 : decode cX4_readMetanotion 37 = .ok (.aload_n 0, 1) := by decide +kernel
theorem D_Reader_readMetanotion_38 : decode cX4_readMetanotion 38 = .ok (.getfield 27, 3) := by decide +kernel
theorem D_Reader_readMetanotion_41 : decode cX4_readMetanotion 41 = .ok (.iload_n 2, 1) := by decide +kernel
theorem D_Reader_readMetanotion_42 : decode cX4_readMetanotion 42 = .ok (.invokevirtual 94, 3) := by decide +kernel
theorem D_Reader_readMetanotion_45 : decode cX4_readMetanotion 45 = .ok (.aload_n 0, 1) := by decide +kernel
theorem D_Reader_readMetanotion_46 : decode cX4_readMetanotion 46 = .ok (.dup, 1) := by decide +kernel
theorem D_Reader_readMetanotion_47 : decode cX4_readMetanotion 47 = .ok (.getfield 41, 3) := by decide +kernel
theorem D_Reader_readMetanotion_50 : decode cX4_readMetanotion 50 = .ok (.iconst (1), 1) := by decide +kernel
theorem D_Reader_readMetanotion_51 : decode cX4_readMetanotion 51 = .ok (.iadd, 1) := by decide +kernel
theorem D_Reader_readMetanotion_52 : decode cX4_readMetanotion 52 = .ok (.putfield 41, 3) := by decide +kernel
theorem D_Reader_readMetanotion_55 : decode cX4_readMetanotion 55 = .ok (.iconst (1), 1) := by decide +kernel
theorem D_Reader_readMetanotion_56 : decode cX4_readMetanotion 56 = .ok (.istore_n 3, 1) := by decide +kernel
theorem D_Reader_readMetanotion_57 : decode cX4_readMetanotion 57 = .ok (.iconst (1), 1) := by decide +kernel
theorem D_Reader_readMetanotion_58 : decode cX4_readMetanotion 58 = .ok (.istore 4, 2) := by decide +kernel
theorem D_Reader_readMetanotion_60 : decode cX4_readMetanotion 60 = .ok (.iload_n 3, 1) := by decide +kernel
theorem D_Reader_readMetanotion_61 : decode cX4_readMetanotion 61 = .ok (.ifCond .eq (71), 3) := by decide +kernel
theorem D_Reader_readMetanotion_64 : decode cX4_readMetanotion 64 = .ok (.iload 4, 2) := by decide +kernel
theorem D_Reader_readMetanotion_66 : decode cX4_readMetanotion 66 = .ok (.iconst (4), 1) := by decide +kernel
theorem D_Reader_readMetanotion_67 : decode cX4_readMetanotion 67 = .ok (.if_icmp .gt (65), 3) := by decide +kernel
theorem D_Reader_readMetanotion_70 : decode cX4_readMetanotion 70 = .ok (.aload_n 0, 1) := by decide +kernel
theorem D_Reader_readMetanotion_71 : decode cX4_readMetanotion 71 = .ok (.invokevirtual 67, 3) := by decide +kernel
theorem D_Reader_readMetanotion_74 : decode cX4_readMetanotion 74 = .ok (.istore 5, 2) := by decide +kernel
theorem D_Reader_readMetanotion_76 : decode cX4_readMetanotion 76 = .ok (.aload_n 0, 1) := by decide +kernel
theorem D_Reader_readMetanotion_77 : decode cX4_readMetanotion 77 = .ok (.getfield 27, 3) := by decide +kernel
theorem D_Reader_readMetanotion_80 : decode cX4_readMetanotion 80 = .ok (.iload_n 2, 1) := by decide +kernel
theorem D_Reader_readMetanotion_81 : decode cX4_readMetanotion 81 = .ok (.aload_n 0, 1) := by decide +kernel
theorem D_Reader_readMetanotion_82 : decode cX4_readMetanotion 82 = .ok (.getfield 17, 3) := by decide +kernel
theorem D_Reader_readMetanotion_85 : decode cX4_readMetanotion 85 = .ok (.iload 5, 2) := by decide +kernel
theorem D_Reader_readMetanotion_87 : decode cX4_readMetanotion 87 = .ok (.invokestatic 98, 3) := by decide +kernel
theorem D_Reader_readMetanotion_90 : decode cX4_readMetanotion 90 = .ok (.invokevirtual 104, 3) := by decide +kernel
theorem D_Reader_readMetanotion_93 : decode cX4_readMetanotion 93 = .ok (.aload_n 0, 1) := by decide +kernel
theorem D_Reader_readMetanotion_94 : decode cX4_readMetanotion 94 = .ok (.getfield 44, 3) := by decide +kernel
theorem D_Reader_readMetanotion_97 : decode cX4_readMetanotion 97 = .ok (.ifCond .ne (27), 3) := by decide +kernel
theorem D_Reader_readMetanotion_100 : decode cX4_readMetanotion 100 = .ok (.aload_n 0, 1) := by decide +kernel
theorem D_Reader_readMetanotion_101 : decode cX4_readMetanotion 101 = .ok (.bipush (124), 2) := by decide +kernel
theorem D_Reader_readMetanotion_103 : decode cX4_readMetanotion 103 = .ok (.iload 4, 2) := by decide +kernel
theorem D_Reader_readMetanotion_105 : decode cX4_readMetanotion 105 = .ok (.iconst (4), 1) := by decide +kernel
theorem D_Reader_readMetanotion_106 : decode cX4_readMetanotion 106 = .ok (.if_icmp .ne (7), 3) := by decide +kernel
theorem D_Reader_readMetanotion_109 : decode cX4_readMetanotion 109 = .ok (.iconst (1), 1) := by decide +kernel
theorem D_Reader_readMetanotion_110 : decode cX4_readMetanotion 110 = .ok (.goto (4), 3) := by decide +kernel
theorem D_Reader_readMetanotion_113 : decode cX4_readMetanotion 113 = .ok (.iconst (0), 1) := by decide +kernel
theorem D_Reader_readMetanotion_114 : decode cX4_readMetanotion 114 = .ok (.invokevirtual 108, 3) := by decide +kernel
theorem D_Reader_readMetanotion_117 : decode cX4_readMetanotion 117 = .ok (.ifCond .eq (7), 3) := by decide +kernel
theorem D_Reader_readMetanotion_120 : decode cX4_readMetanotion 120 = .ok (.iconst (1), 1) := by decide +kernel
theorem D_Reader_readMetanotion_121 : decode cX4_readMetanotion 121 = .ok (.goto (4), 3) := by decide +kernel
theorem D_Reader_readMetanotion_124 : decode cX4_readMetanotion 124 = .ok (.iconst (0), 1) := by decide +kernel
theorem D_Reader_readMetanotion_125 : decode cX4_readMetanotion 125 = .ok (.istore_n 3, 1) := by decide +kernel
theorem D_Reader_readMetanotion_126 : decode cX4_readMetanotion 126 = .ok (.iinc 4 (1), 3) := by decide +kernel
theorem D_Reader_readMetanotion_129 : decode cX4_readMetanotion 129 = .ok (.goto (-69), 3) := by decide +kernel
theorem D_Reader_readMetanotion_132 : decode cX4_readMetanotion 132 = .ok (.return_, 1) := by decide +kernel
def K_Reader_readMetanotion : SC := (cX4_readMetanotion, "TwoLevels$Reader", 6, 3, false, [1, 5, 11, 26, 29, 30, 31, 32, 34, 38, 53, 54], NoQ)
def d_Reader_readMetanotion : MD Unit := mth tt 6 (sq (sIf (eh1 z_ne (kV 11 d_Upper_isTold (eh1 (gR 5 8) (lR 0)) [vI (lI 2)])) (sq (sE (kV 5 d_Reader_failAt (lR 0) [vI (lI 1), vI (eC (nI 4))]))
 rtnU) sk)
 (sq (sIf (eh2 c_eq (kV 11 d_Upper_toldMany (eh1 (gR 5 8) (lR 0)) []) (eC (nI 6))) (sq (sE (kV 5 d_Reader_failAt (lR 0) [vI (lI 1), vI (eC (nI 3))]))
 rtnU) sk)
 (sq (sE (kV 11 d_Upper_setTold (eh1 (gR 5 8) (lR 0)) [vI (lI 2)]))
 (sq (su2 (gI 5 2) (uF false 5 2 (fun x y => x + y)) (lR 0) (eC (nI 1)))
 (sq (sI1 3 (eC (nI 1)))
 (sq (sq (sI1 4 (eC (nI 1)))
 (loop (cAnd (eh1 z_ne (lI 3)) (eh2 c_le (lI 4) (eC (nI 4))))
 (sq (sI1 5 (kV 5 d_Reader_readSigns (lR 0) []))
 (sq (sE (kV 11 d_Upper_addRow (eh1 (gR 5 8) (lR 0)) [vI (lI 2), vR (kS (d_Arrays_copyOfI 34) [vR (eh1 (gR 5 4) (lR 0)), vI (lI 5)])]))
 (sI1 3 (eIf (cAnd (eh1 z_eq (eh1 (gI 5 3) (lR 0))) (eh1 z_ne (kV 5 d_Reader_goesOn (lR 0) [vI (eC (nI 124)), vI (eIf (eh2 c_eq (lI 4) (eC (nI 4))) (eC (nI 1)) (eC (nI 0)))]))) (eC (nI 1)) (eC (nI 0))))))
 (sInc 4 (nI 1))))
 rtnU))))))
theorem m_Reader_readMetanotion : MJ 3 [1, 5, 11, 26, 29, 30, 31, 32, 34, 38, 53, 54] yX4_readMetanotion none eU (d_Reader_readMetanotion) := MJ_of (K := K_Reader_readMetanotion) (ri := .return_) (n1 := 0) (n2 := 0) (n3 := 0)
 (SJ_sq (p0 := 0) (p1 := 18) (nN := 0) (nB := 0) (nC := 0) (SJ_if (p0 := 0) (pT := 11) (pF := 18) (nN := 18) (nB := 0) (nC := 0) (CZ_ne' (off := 10) (tgt := 18) (p0 := 0) (p1 := 8) (EJ_callV (t := 11) (c := 10) (r := (RX10, TX10, 7)) (p0 := 0) (p1 := 4) (p2 := 5) (EJ_getR (t := 5) (c := 4) (kf := 8) (r := (RX4, TX4, 9)) (p0 := 0) (p1 := 1) (EJ_aload_n (j := 0) (i := 0) (pc := 0) D_Reader_readMetanotion_0 rfl) D_Reader_readMetanotion_1 ⟨rfl, rfl, by decide, q_154⟩ (fun _ _ => rfl)) (AJ_I (p0 := 4) (p1 := 5) (p2 := 5) (EJ_iload_n (j := 2) (i := 2) (pc := 4) D_Reader_readMetanotion_4 rfl) AJ_nil) m_Upper_isTold E1_I D_Reader_readMetanotion_5 rfl rfl rfl q_335 q_336 q_337 q_93 ⟨by decide +kernel, by decide +kernel, by decide +kernel⟩ (by decide) (show 2 + 1 ≤ 3 from by decide) (fun _ h => absurd h List.not_mem_nil)) D_Reader_readMetanotion_8 rfl) (SJ_sq (p0 := 11) (p1 := 17) (nN := 18) (nB := 0) (nC := 0) (SJ_void (p0 := 11) (p1 := 17) (EJ_callV (t := 5) (c := 4) (r := (RX4, TX4, 9)) (p0 := 11) (p1 := 12) (p2 := 14) (EJ_aload_n (j := 0) (i := 0) (pc := 11) D_Reader_readMetanotion_11 rfl) (AJ_I (p0 := 12) (p1 := 13) (p2 := 14) (EJ_iload_n (j := 1) (i := 1) (pc := 12) D_Reader_readMetanotion_12 rfl) (AJ_I (p0 := 13) (p1 := 14) (p2 := 14) (EJ_iconst (n := 4) (v := (nI 4)) (pc := 13) D_Reader_readMetanotion_13 (by decide +kernel)) AJ_nil)) m_Reader_failAt E1_U D_Reader_readMetanotion_14 rfl rfl rfl q_322 q_323 q_4 q_92 ⟨by decide +kernel, by decide +kernel, by decide +kernel⟩ (by decide) (show 1 + 1 ≤ 3 from by decide) (show ∀ x_ ∈ ([5] : List Nat), x_ ∈ ([1, 5, 11, 26, 29, 30, 31, 32, 34, 38, 53, 54] : List Nat) from by decide)))
 (SJ_retU (pc := 17) D_Reader_readMetanotion_17)) SJ_sk)
 (SJ_sq (p0 := 18) (p1 := 37) (nN := 0) (nB := 0) (nC := 0) (SJ_if (p0 := 18) (pT := 30) (pF := 37) (nN := 37) (nB := 0) (nC := 0) (CJ_eq' (off := 10) (tgt := 37) (p0 := 18) (p1 := 25) (p2 := 27) (EJ_callV (t := 11) (c := 10) (r := (RX10, TX10, 7)) (p0 := 18) (p1 := 22) (p2 := 22) (EJ_getR (t := 5) (c := 4) (kf := 8) (r := (RX4, TX4, 9)) (p0 := 18) (p1 := 19) (EJ_aload_n (j := 0) (i := 0) (pc := 18) D_Reader_readMetanotion_18 rfl) D_Reader_readMetanotion_19 ⟨rfl, rfl, by decide, q_154⟩ (fun _ _ => rfl)) AJ_nil m_Upper_toldMany E1_I D_Reader_readMetanotion_22 rfl rfl rfl q_342 q_343 q_344 q_93 ⟨by decide +kernel, by decide +kernel, by decide +kernel⟩ (by decide) (show 2 + 1 ≤ 3 from by decide) (fun _ h => absurd h List.not_mem_nil)) (EJ_bipush (n := 6) (v := (nI 6)) (pc := 25) D_Reader_readMetanotion_25 (by decide +kernel)) D_Reader_readMetanotion_27 rfl) (SJ_sq (p0 := 30) (p1 := 36) (nN := 37) (nB := 0) (nC := 0) (SJ_void (p0 := 30) (p1 := 36) (EJ_callV (t := 5) (c := 4) (r := (RX4, TX4, 9)) (p0 := 30) (p1 := 31) (p2 := 33) (EJ_aload_n (j := 0) (i := 0) (pc := 30) D_Reader_readMetanotion_30 rfl) (AJ_I (p0 := 31) (p1 := 32) (p2 := 33) (EJ_iload_n (j := 1) (i := 1) (pc := 31) D_Reader_readMetanotion_31 rfl) (AJ_I (p0 := 32) (p1 := 33) (p2 := 33) (EJ_iconst (n := 3) (v := (nI 3)) (pc := 32) D_Reader_readMetanotion_32 (by decide +kernel)) AJ_nil)) m_Reader_failAt E1_U D_Reader_readMetanotion_33 rfl rfl rfl q_322 q_323 q_4 q_92 ⟨by decide +kernel, by decide +kernel, by decide +kernel⟩ (by decide) (show 1 + 1 ≤ 3 from by decide) (show ∀ x_ ∈ ([5] : List Nat), x_ ∈ ([1, 5, 11, 26, 29, 30, 31, 32, 34, 38, 53, 54] : List Nat) from by decide)))
 (SJ_retU (pc := 36) D_Reader_readMetanotion_36)) SJ_sk)
 (SJ_sq (p0 := 37) (p1 := 45) (nN := 0) (nB := 0) (nC := 0) (SJ_void (p0 := 37) (p1 := 45) (EJ_callV (t := 11) (c := 10) (r := (RX10, TX10, 7)) (p0 := 37) (p1 := 41) (p2 := 42) (EJ_getR (t := 5) (c := 4) (kf := 8) (r := (RX4, TX4, 9)) (p0 := 37) (p1 := 38) (EJ_aload_n (j := 0) (i := 0) (pc := 37) D_Reader_readMetanotion_37 rfl) D_Reader_readMetanotion_38 ⟨rfl, rfl, by decide, q_154⟩ (fun _ _ => rfl)) (AJ_I (p0 := 41) (p1 := 42) (p2 := 42) (EJ_iload_n (j := 2) (i := 2) (pc := 41) D_Reader_readMetanotion_41 rfl) AJ_nil) m_Upper_setTold E1_U D_Reader_readMetanotion_42 rfl rfl rfl q_352 q_353 q_354 q_93 ⟨by decide +kernel, by decide +kernel, by decide +kernel⟩ (by decide) (show 2 + 1 ≤ 3 from by decide) (show ∀ x_ ∈ ([11] : List Nat), x_ ∈ ([1, 5, 11, 26, 29, 30, 31, 32, 34, 38, 53, 54] : List Nat) from by decide)))
 (SJ_sq (p0 := 45) (p1 := 55) (nN := 0) (nB := 0) (nC := 0) (SJ_upF (z := false) (t := 5) (c := 4) (kf := 2) (r := (RX4, TX4, 9)) (f := (fun x y => x + y)) (p0 := 45) (p1 := 46) (p3 := 51) (EJ_aload_n (j := 0) (i := 0) (pc := 45) D_Reader_readMetanotion_45 rfl) D_Reader_readMetanotion_46 D_Reader_readMetanotion_47 (EJ_iconst (n := 1) (v := (nI 1)) (pc := 50) D_Reader_readMetanotion_50 (by decide +kernel)) (Op2_iadd D_Reader_readMetanotion_51) D_Reader_readMetanotion_52 ⟨rfl, rfl, by decide, q_148⟩ ⟨rfl, rfl, by decide, q_148⟩ (Or.inl rfl) (fun _ _ => ⟨rfl, rfl⟩) (fun _ _ => rfl) (show (5 : Nat) ∈ ([1, 5, 11, 26, 29, 30, 31, 32, 34, 38, 53, 54] : List Nat) from by decide))
 (SJ_sq (p0 := 55) (p1 := 57) (nN := 0) (nB := 0) (nC := 0) (SJ_istore_n (i := 3) (j := 3) (p0 := 55) (p1 := 56) (EJ_iconst (n := 1) (v := (nI 1)) (pc := 55) D_Reader_readMetanotion_55 (by decide +kernel)) D_Reader_readMetanotion_56 rfl)
 (SJ_sq (p0 := 57) (p1 := 132) (nN := 0) (nB := 0) (nC := 0) (SJ_sq (p0 := 57) (p1 := 60) (nN := 132) (nB := 0) (nC := 0) (SJ_istore (i := 4) (p0 := 57) (p1 := 58) (EJ_iconst (n := 1) (v := (nI 1)) (pc := 57) D_Reader_readMetanotion_57 (by decide +kernel)) D_Reader_readMetanotion_58)
 (SJ_loop (p0 := 60) (pB := 70) (pS := 126) (pE := 132) (CJ_and (p0 := 60) (pM := 64) (pT := 70) (pF := 132) (CZ_ne' (off := 71) (tgt := 132) (p0 := 60) (p1 := 61) (EJ_iload_n (j := 3) (i := 3) (pc := 60) D_Reader_readMetanotion_60 rfl) D_Reader_readMetanotion_61 rfl) (CJ_le' (off := 65) (tgt := 132) (p0 := 64) (p1 := 66) (p2 := 67) (EJ_iload (i := 4) (pc := 64) D_Reader_readMetanotion_64) (EJ_iconst (n := 4) (v := (nI 4)) (pc := 66) D_Reader_readMetanotion_66 (by decide +kernel)) D_Reader_readMetanotion_67 rfl))
 (SJ_sq (p0 := 70) (p1 := 76) (nN := 126) (nB := 132) (nC := 126) (SJ_istore (i := 5) (p0 := 70) (p1 := 74) (EJ_callV (t := 5) (c := 4) (r := (RX4, TX4, 9)) (p0 := 70) (p1 := 71) (p2 := 71) (EJ_aload_n (j := 0) (i := 0) (pc := 70) D_Reader_readMetanotion_70 rfl) AJ_nil m_Reader_readSigns E1_I D_Reader_readMetanotion_71 rfl rfl rfl q_315 q_316 q_3 q_92 ⟨by decide +kernel, by decide +kernel, by decide +kernel⟩ (by decide) (show 2 + 1 ≤ 3 from by decide) (show ∀ x_ ∈ ([1, 5, 11, 26, 29, 30, 38, 53, 54] : List Nat), x_ ∈ ([1, 5, 11, 26, 29, 30, 31, 32, 34, 38, 53, 54] : List Nat) from by decide)) D_Reader_readMetanotion_74)
 (SJ_sq (p0 := 76) (p1 := 93) (nN := 126) (nB := 132) (nC := 126) (SJ_void (p0 := 76) (p1 := 93) (EJ_callV (t := 11) (c := 10) (r := (RX10, TX10, 7)) (p0 := 76) (p1 := 80) (p2 := 90) (EJ_getR (t := 5) (c := 4) (kf := 8) (r := (RX4, TX4, 9)) (p0 := 76) (p1 := 77) (EJ_aload_n (j := 0) (i := 0) (pc := 76) D_Reader_readMetanotion_76 rfl) D_Reader_readMetanotion_77 ⟨rfl, rfl, by decide, q_154⟩ (fun _ _ => rfl)) (AJ_I (p0 := 80) (p1 := 81) (p2 := 90) (EJ_iload_n (j := 2) (i := 2) (pc := 80) D_Reader_readMetanotion_80 rfl) (AJ_R (p0 := 81) (p1 := 90) (p2 := 90) (EJ_callS (p0 := 81) (p1 := 87) (AJ_R (p0 := 81) (p1 := 85) (p2 := 87) (EJ_getR (t := 5) (c := 4) (kf := 4) (r := (RX4, TX4, 9)) (p0 := 81) (p1 := 82) (EJ_aload_n (j := 0) (i := 0) (pc := 81) D_Reader_readMetanotion_81 rfl) D_Reader_readMetanotion_82 ⟨rfl, rfl, by decide, q_150⟩ (fun _ _ => rfl)) (AJ_I (p0 := 85) (p1 := 87) (p2 := 87) (EJ_iload (i := 5) (pc := 85) D_Reader_readMetanotion_85) AJ_nil)) (m_Arrays_copyOfI 34 rfl) E1_R D_Reader_readMetanotion_87 q_356 q_357 q_100 ⟨by decide +kernel, by decide +kernel, by decide +kernel⟩ (by decide) (show 2 + 1 ≤ 3 from by decide) (show ∀ x_ ∈ ([34] : List Nat), x_ ∈ ([1, 5, 11, 26, 29, 30, 31, 32, 34, 38, 53, 54] : List Nat) from by decide)) AJ_nil)) m_Upper_addRow E1_U D_Reader_readMetanotion_90 rfl rfl rfl q_369 q_370 q_371 q_93 ⟨by decide +kernel, by decide +kernel, by decide +kernel⟩ (by decide) (show 1 + 1 ≤ 3 from by decide) (show ∀ x_ ∈ ([31, 32] : List Nat), x_ ∈ ([1, 5, 11, 26, 29, 30, 31, 32, 34, 38, 53, 54] : List Nat) from by decide)))
 (SJ_istore_n (i := 3) (j := 3) (p0 := 93) (p1 := 125) (EJ_if (p0 := 93) (pT := 120) (pF := 124) (pE := 121) (p1 := 125) (CJ_and (p0 := 93) (pM := 100) (pT := 120) (pF := 124) (CZ_eq' (off := 27) (tgt := 124) (p0 := 93) (p1 := 97) (EJ_getI (t := 5) (c := 4) (kf := 3) (r := (RX4, TX4, 9)) (p0 := 93) (p1 := 94) (EJ_aload_n (j := 0) (i := 0) (pc := 93) D_Reader_readMetanotion_93 rfl) D_Reader_readMetanotion_94 ⟨rfl, rfl, by decide, q_149⟩ (fun _ _ => rfl)) D_Reader_readMetanotion_97 rfl) (CZ_ne' (off := 7) (tgt := 124) (p0 := 100) (p1 := 117) (EJ_callV (t := 5) (c := 4) (r := (RX4, TX4, 9)) (p0 := 100) (p1 := 101) (p2 := 114) (EJ_aload_n (j := 0) (i := 0) (pc := 100) D_Reader_readMetanotion_100 rfl) (AJ_I (p0 := 101) (p1 := 103) (p2 := 114) (EJ_bipush (n := 124) (v := (nI 124)) (pc := 101) D_Reader_readMetanotion_101 (by decide +kernel)) (AJ_I (p0 := 103) (p1 := 114) (p2 := 114) (EJ_if (p0 := 103) (pT := 109) (pF := 113) (pE := 110) (p1 := 114) (CJ_eq' (off := 7) (tgt := 113) (p0 := 103) (p1 := 105) (p2 := 106) (EJ_iload (i := 4) (pc := 103) D_Reader_readMetanotion_103) (EJ_iconst (n := 4) (v := (nI 4)) (pc := 105) D_Reader_readMetanotion_105 (by decide +kernel)) D_Reader_readMetanotion_106 rfl) (EJ_iconst (n := 1) (v := (nI 1)) (pc := 109) D_Reader_readMetanotion_109 (by decide +kernel)) (Lead.goto (K := K_Reader_readMetanotion) (pc := 110) (tgt := 114) D_Reader_readMetanotion_110 rfl) (EJ_iconst (n := 0) (v := (nI 0)) (pc := 113) D_Reader_readMetanotion_113 (by decide +kernel))) AJ_nil)) m_Reader_goesOn E1_I D_Reader_readMetanotion_114 rfl rfl rfl q_373 q_374 q_7 q_92 ⟨by decide +kernel, by decide +kernel, by decide +kernel⟩ (by decide) (show 2 + 1 ≤ 3 from by decide) (show ∀ x_ ∈ ([5] : List Nat), x_ ∈ ([1, 5, 11, 26, 29, 30, 31, 32, 34, 38, 53, 54] : List Nat) from by decide)) D_Reader_readMetanotion_117 rfl)) (EJ_iconst (n := 1) (v := (nI 1)) (pc := 120) D_Reader_readMetanotion_120 (by decide +kernel)) (Lead.goto (K := K_Reader_readMetanotion) (pc := 121) (tgt := 125) D_Reader_readMetanotion_121 rfl) (EJ_iconst (n := 0) (v := (nI 0)) (pc := 124) D_Reader_readMetanotion_124 (by decide +kernel))) D_Reader_readMetanotion_125 rfl)))
 (SJ_post (SJ_iinc (i := 4) (n := 1) (v := (nI 1)) (pc := 126) D_Reader_readMetanotion_126 (by decide +kernel)) (Lead.goto (K := K_Reader_readMetanotion) (pc := 129) (tgt := 60) D_Reader_readMetanotion_129 rfl))))
 (SJ_retU (pc := 132) D_Reader_readMetanotion_132)))))))
 RTm_void q_334 (by decide +kernel) rfl (fun h => by cases h) (show 6 ≤ 40 from by decide) (fun _ => trivial)
theorem D_Reader_readMember_0 : decode cX4_readMember 0 = .ok (.aload_n 0, 1) := by decide +kernel
theorem D_Reader_readMember_1 : decode cX4_readMember 1 = .ok (.invokevirtual 50, 3) := by decide +kernel
theorem D_Reader_readMember_4 : decode cX4_readMember 4 = .ok (.aload_n 0, 1) := by decide +kernel
theorem D_Reader_readMember_5 : decode cX4_readMember 5 = .ok (.bipush (34), 2) := by decide +kernel
theorem D_Reader_readMember_7 : decode cX4_readMember 7 = .ok (.invokevirtual 85, 3) := by decide +kernel
theorem D_Reader_readMember_10 : decode cX4_readMember 10 = .ok (.istore_n 2, 1) := by decide +kernel
theorem D_Reader_readMember_11 : decode cX4_readMember 11 = .ok (.aload_n 0, 1) := by decide +kernel
theorem D_Reader_readMember_12 : decode cX4_readMember 12 = .ok (.invokevirtual 67, 3) := by decide +kernel
theorem D_Reader_readMember_15 : decode cX4_readMember 15 = .ok (.istore_n 3, 1) := by decide +kernel
theorem D_Reader_readMember_16 : decode cX4_readMember 16 = .ok (.iload_n 3, 1) := by decide +kernel
theorem D_Reader_readMember_17 : decode cX4_readMember 17 = .ok (.ifCond .ne (12), 3) := by decide +kernel
theorem D_Reader_readMember_20 : decode cX4_readMember 20 = .ok (.aload_n 0, 1) := by decide +kernel
theorem D_Reader_readMember_21 : decode cX4_readMember 21 = .ok (.aload_n 0, 1) := by decide +kernel
theorem D_Reader_readMember_22 : decode cX4_readMember 22 = .ok (.getfield 41, 3) := by decide +kernel
theorem D_Reader_readMember_25 : decode cX4_readMember 25 = .ok (.iconst (1), 1) := by decide +kernel
theorem D_Reader_readMember_26 : decode cX4_readMember 26 = .ok (.invokevirtual 82, 3) := by decide +kernel
theorem D_Reader_readMember_29 : decode cX4_readMember 29 = .ok (.aload_n 0, 1) := by decide +kernel
theorem D_Reader_readMember_30 : decode cX4_readMember 30 = .ok (.getfield 44, 3) := by decide +kernel
theorem D_Reader_readMember_33 : decode cX4_readMember 33 = .ok (.ifCond .ne (16), 3) := by decide +kernel
theorem D_Reader_readMember_36 : decode cX4_readMember 36 = .ok (.aload_n 1, 1) := by decide +kernel
theorem D_Reader_readMember_37 : decode cX4_readMember 37 = .ok (.aload_n 0, 1) := by decide +kernel
theorem D_Reader_readMember_38 : decode cX4_readMember 38 = .ok (.getfield 17, 3) := by decide +kernel
theorem D_Reader_readMember_41 : decode cX4_readMember 41 = .ok (.iload_n 3, 1) := by decide +kernel
theorem D_Reader_readMember_42 : decode cX4_readMember 42 = .ok (.invokestatic 98, 3) := by decide +kernel
theorem D_Reader_readMember_45 : decode cX4_readMember 45 = .ok (.iload_n 2, 1) := by decide +kernel
theorem D_Reader_readMember_46 : decode cX4_readMember 46 = .ok (.invokevirtual 133, 3) := by decide +kernel
theorem D_Reader_readMember_49 : decode cX4_readMember 49 = .ok (.return_, 1) := by decide +kernel
def K_Reader_readMember : SC := (cX4_readMember, "TwoLevels$Reader", 4, 3, false, [1, 5, 11, 26, 29, 30, 37, 38, 39, 53, 54], NoQ)
def d_Reader_readMember : MD Unit := mth tt 4 (sq (sE (kV 5 d_Reader_skipBlanks (lR 0) []))
 (sq (sI1 2 (kV 5 d_Reader_goesOver (lR 0) [vI (eC (nI 34))]))
 (sq (sI1 3 (kV 5 d_Reader_readSigns (lR 0) []))
 (sq (sIf (eh1 z_eq (lI 3)) (sE (kV 5 d_Reader_failAt (lR 0) [vI (eh1 (gI 5 2) (lR 0)), vI (eC (nI 1))])) sk)
 (sq (sIf (eh1 z_eq (eh1 (gI 5 3) (lR 0))) (sE (kV 1 d_Choice_addMember (lR 1) [vR (kS (d_Arrays_copyOfI 39) [vR (eh1 (gR 5 4) (lR 0)), vI (lI 3)]), vI (lI 2)])) sk)
 rtnU)))))
theorem m_Reader_readMember : MJ 3 [1, 5, 11, 26, 29, 30, 37, 38, 39, 53, 54] yX4_readMember none eU (d_Reader_readMember) := MJ_of (K := K_Reader_readMember) (ri := .return_) (n1 := 0) (n2 := 0) (n3 := 0)
 (SJ_sq (p0 := 0) (p1 := 4) (nN := 0) (nB := 0) (nC := 0) (SJ_void (p0 := 0) (p1 := 4) (EJ_callV (t := 5) (c := 4) (r := (RX4, TX4, 9)) (p0 := 0) (p1 := 1) (p2 := 1) (EJ_aload_n (j := 0) (i := 0) (pc := 0) D_Reader_readMember_0 rfl) AJ_nil m_Reader_skipBlanks E1_U D_Reader_readMember_1 rfl rfl rfl q_309 q_310 q_1 q_92 ⟨by decide +kernel, by decide +kernel, by decide +kernel⟩ (by decide) (show 1 + 1 ≤ 3 from by decide) (show ∀ x_ ∈ ([5] : List Nat), x_ ∈ ([1, 5, 11, 26, 29, 30, 37, 38, 39, 53, 54] : List Nat) from by decide)))
 (SJ_sq (p0 := 4) (p1 := 11) (nN := 0) (nB := 0) (nC := 0) (SJ_istore_n (i := 2) (j := 2) (p0 := 4) (p1 := 10) (EJ_callV (t := 5) (c := 4) (r := (RX4, TX4, 9)) (p0 := 4) (p1 := 5) (p2 := 7) (EJ_aload_n (j := 0) (i := 0) (pc := 4) D_Reader_readMember_4 rfl) (AJ_I (p0 := 5) (p1 := 7) (p2 := 7) (EJ_bipush (n := 34) (v := (nI 34)) (pc := 5) D_Reader_readMember_5 (by decide +kernel)) AJ_nil) m_Reader_goesOver E1_I D_Reader_readMember_7 rfl rfl rfl q_455 q_456 q_11 q_92 ⟨by decide +kernel, by decide +kernel, by decide +kernel⟩ (by decide) (show 2 + 1 ≤ 3 from by decide) (show ∀ x_ ∈ ([5] : List Nat), x_ ∈ ([1, 5, 11, 26, 29, 30, 37, 38, 39, 53, 54] : List Nat) from by decide)) D_Reader_readMember_10 rfl)
 (SJ_sq (p0 := 11) (p1 := 16) (nN := 0) (nB := 0) (nC := 0) (SJ_istore_n (i := 3) (j := 3) (p0 := 11) (p1 := 15) (EJ_callV (t := 5) (c := 4) (r := (RX4, TX4, 9)) (p0 := 11) (p1 := 12) (p2 := 12) (EJ_aload_n (j := 0) (i := 0) (pc := 11) D_Reader_readMember_11 rfl) AJ_nil m_Reader_readSigns E1_I D_Reader_readMember_12 rfl rfl rfl q_315 q_316 q_3 q_92 ⟨by decide +kernel, by decide +kernel, by decide +kernel⟩ (by decide) (show 2 + 1 ≤ 3 from by decide) (show ∀ x_ ∈ ([1, 5, 11, 26, 29, 30, 38, 53, 54] : List Nat), x_ ∈ ([1, 5, 11, 26, 29, 30, 37, 38, 39, 53, 54] : List Nat) from by decide)) D_Reader_readMember_15 rfl)
 (SJ_sq (p0 := 16) (p1 := 29) (nN := 0) (nB := 0) (nC := 0) (SJ_if (p0 := 16) (pT := 20) (pF := 29) (nN := 29) (nB := 0) (nC := 0) (CZ_eq' (off := 12) (tgt := 29) (p0 := 16) (p1 := 17) (EJ_iload_n (j := 3) (i := 3) (pc := 16) D_Reader_readMember_16 rfl) D_Reader_readMember_17 rfl) (SJ_void (p0 := 20) (p1 := 29) (EJ_callV (t := 5) (c := 4) (r := (RX4, TX4, 9)) (p0 := 20) (p1 := 21) (p2 := 26) (EJ_aload_n (j := 0) (i := 0) (pc := 20) D_Reader_readMember_20 rfl) (AJ_I (p0 := 21) (p1 := 25) (p2 := 26) (EJ_getI (t := 5) (c := 4) (kf := 2) (r := (RX4, TX4, 9)) (p0 := 21) (p1 := 22) (EJ_aload_n (j := 0) (i := 0) (pc := 21) D_Reader_readMember_21 rfl) D_Reader_readMember_22 ⟨rfl, rfl, by decide, q_148⟩ (fun _ _ => rfl)) (AJ_I (p0 := 25) (p1 := 26) (p2 := 26) (EJ_iconst (n := 1) (v := (nI 1)) (pc := 25) D_Reader_readMember_25 (by decide +kernel)) AJ_nil)) m_Reader_failAt E1_U D_Reader_readMember_26 rfl rfl rfl q_322 q_323 q_4 q_92 ⟨by decide +kernel, by decide +kernel, by decide +kernel⟩ (by decide) (show 1 + 1 ≤ 3 from by decide) (show ∀ x_ ∈ ([5] : List Nat), x_ ∈ ([1, 5, 11, 26, 29, 30, 37, 38, 39, 53, 54] : List Nat) from by decide))) SJ_sk)
 (SJ_sq (p0 := 29) (p1 := 49) (nN := 0) (nB := 0) (nC := 0) (SJ_if (p0 := 29) (pT := 36) (pF := 49) (nN := 49) (nB := 0) (nC := 0) (CZ_eq' (off := 16) (tgt := 49) (p0 := 29) (p1 := 33) (EJ_getI (t := 5) (c := 4) (kf := 3) (r := (RX4, TX4, 9)) (p0 := 29) (p1 := 30) (EJ_aload_n (j := 0) (i := 0) (pc := 29) D_Reader_readMember_29 rfl) D_Reader_readMember_30 ⟨rfl, rfl, by decide, q_149⟩ (fun _ _ => rfl)) D_Reader_readMember_33 rfl) (SJ_void (p0 := 36) (p1 := 49) (EJ_callV (t := 1) (c := 0) (r := (RX0, TX0, 11)) (p0 := 36) (p1 := 37) (p2 := 46) (EJ_aload_n (j := 1) (i := 1) (pc := 36) D_Reader_readMember_36 rfl) (AJ_R (p0 := 37) (p1 := 45) (p2 := 46) (EJ_callS (p0 := 37) (p1 := 42) (AJ_R (p0 := 37) (p1 := 41) (p2 := 42) (EJ_getR (t := 5) (c := 4) (kf := 4) (r := (RX4, TX4, 9)) (p0 := 37) (p1 := 38) (EJ_aload_n (j := 0) (i := 0) (pc := 37) D_Reader_readMember_37 rfl) D_Reader_readMember_38 ⟨rfl, rfl, by decide, q_150⟩ (fun _ _ => rfl)) (AJ_I (p0 := 41) (p1 := 42) (p2 := 42) (EJ_iload_n (j := 3) (i := 3) (pc := 41) D_Reader_readMember_41 rfl) AJ_nil)) (m_Arrays_copyOfI 39 rfl) E1_R D_Reader_readMember_42 q_356 q_357 q_100 ⟨by decide +kernel, by decide +kernel, by decide +kernel⟩ (by decide) (show 2 + 1 ≤ 3 from by decide) (show ∀ x_ ∈ ([39] : List Nat), x_ ∈ ([1, 5, 11, 26, 29, 30, 37, 38, 39, 53, 54] : List Nat) from by decide)) (AJ_I (p0 := 45) (p1 := 46) (p2 := 46) (EJ_iload_n (j := 2) (i := 2) (pc := 45) D_Reader_readMember_45 rfl) AJ_nil)) m_Choice_addMember E1_U D_Reader_readMember_46 rfl rfl rfl q_458 q_459 q_460 q_103 ⟨by decide +kernel, by decide +kernel, by decide +kernel⟩ (by decide) (show 2 + 1 ≤ 3 from by decide) (show ∀ x_ ∈ ([1, 37] : List Nat), x_ ∈ ([1, 5, 11, 26, 29, 30, 37, 38, 39, 53, 54] : List Nat) from by decide))) SJ_sk)
 (SJ_retU (pc := 49) D_Reader_readMember_49))))))
 RTm_void q_454 (by decide +kernel) rfl (fun h => by cases h) (show 4 ≤ 40 from by decide) (fun _ => trivial)
theorem D_Reader_readChoice_0 : decode cX4_readChoice 0 = .ok (.new 126, 3) := by decide +kernel
theorem D_Reader_readChoice_3 : decode cX4_readChoice 3 = .ok (.dup, 1) := by decide +kernel
theorem D_Reader_readChoice_4 : decode cX4_readChoice 4 = .ok (.iload_n 1, 1) := by decide +kernel
theorem D_Reader_readChoice_5 : decode cX4_readChoice 5 = .ok (.invokespecial 128, 3) := by decide +kernel
theorem D_Reader_readChoice_8 : decode cX4_readChoice 8 = .ok (.astore_n 2, 1) := by decide +kernel
theorem D_Reader_readChoice_9 : decode cX4_readChoice 9 = .ok (.aload_n 0, 1) := by decide +kernel
theorem D_Reader_readChoice_10 : decode cX4_readChoice 10 = .ok (.aload_n 2, 1) := by decide +kernel
theorem D_Reader_readChoice_11 : decode cX4_readChoice 11 = .ok (.putfield 63, 3) := by decide +kernel
theorem D_Reader_readChoice_14 : decode cX4_readChoice 14 = .ok (.aload_n 0, 1) := by decide +kernel
theorem D_Reader_readChoice_15 : decode cX4_readChoice 15 = .ok (.invokevirtual 50, 3) := by decide +kernel
theorem D_Reader_readChoice_18 : decode cX4_readChoice 18 = .ok (.aload_n 0, 1) := by decide +kernel
theorem D_Reader_readChoice_19 : decode cX4_readChoice 19 = .ok (.getfield 41, 3) := by decide +kernel
theorem D_Reader_readChoice_22 : decode cX4_readChoice 22 = .ok (.aload_n 0, 1) := by decide +kernel
theorem D_Reader_readChoice_23 : decode cX4_readChoice 23 = .ok (.getfield 37, 3) := by decide +kernel
theorem D_Reader_readChoice_26 : decode cX4_readChoice 26 = .ok (.if_icmp .ge (25), 3) := by decide +kernel
theorem D_Reader_readChoice_29 : decode cX4_readChoice 29 = .ok (.aload_n 0, 1) := by decide +kernel
theorem D_Reader_readChoice_30 : decode cX4_readChoice 30 = .ok (.bipush (47), 2) := by decide +kernel
theorem D_Reader_readChoice_32 : decode cX4_readChoice 32 = .ok (.invokevirtual 71, 3) := by decide +kernel
theorem D_Reader_readChoice_35 : decode cX4_readChoice 35 = .ok (.ifCond .ne (16), 3) := by decide +kernel
theorem D_Reader_readChoice_38 : decode cX4_readChoice 38 = .ok (.aload_n 0, 1) := by decide +kernel
theorem D_Reader_readChoice_39 : decode cX4_readChoice 39 = .ok (.bipush (59), 2) := by decide +kernel
theorem D_Reader_readChoice_41 : decode cX4_readChoice 41 = .ok (.invokevirtual 71, 3) := by decide +kernel
theorem D_Reader_readChoice_44 : decode cX4_readChoice 44 = .ok (.ifCond .ne (7), 3) := by decide +kernel
theorem D_Reader_readChoice_47 : decode cX4_readChoice 47 = .ok (.iconst (1), 1) := by decide +kernel
theorem D_Reader_readChoice_48 : decode cX4_readChoice 48 = .ok (.goto (4), 3) := by decide +kernel
theorem D_Reader_readChoice_51 : decode cX4_readChoice 51 = .ok (.iconst (0), 1) := by decide +kernel
theorem D_Reader_readChoice_52 : decode cX4_readChoice 52 = .ok (.istore_n 3, 1) := by decide +kernel
theorem D_Reader_readChoice_53 : decode cX4_readChoice 53 = .ok (.iconst (1), 1) := by decide +kernel
theorem D_Reader_readChoice_54 : decode cX4_readChoice 54 = .ok (.istore 4, 2) := by decide +kernel
theorem D_Reader_readChoice_56 : decode cX4_readChoice 56 = .ok (.iload_n 3, 1) := by decide +kernel
theorem D_Reader_readChoice_57 : decode cX4_readChoice 57 = .ok (.ifCond .eq (78), 3) := by decide +kernel
theorem D_Reader_readChoice_60 : decode cX4_readChoice 60 = .ok (.iload 4, 2) := by decide +kernel
theorem D_Reader_readChoice_62 : decode cX4_readChoice 62 = .ok (.iconst (4), 1) := by decide +kernel
theorem D_Reader_readChoice_63 : decode cX4_readChoice 63 = .ok (.if_icmp .gt (72), 3) := by decide +kernel
theorem D_Reader_readChoice_66 : decode cX4_readChoice 66 = .ok (.aload_n 0, 1) := by decide +kernel
theorem D_Reader_readChoice_67 : decode cX4_readChoice 67 = .ok (.aload_n 2, 1) := by decide +kernel
theorem D_Reader_readChoice_68 : decode cX4_readChoice 68 = .ok (.invokevirtual 130, 3) := by decide +kernel
theorem D_Reader_readChoice_71 : decode cX4_readChoice 71 = .ok (.aload_n 0, 1) := by decide +kernel
theorem D_Reader_readChoice_72 : decode cX4_readChoice 72 = .ok (.getfield 44, 3) := by decide +kernel
theorem D_Reader_readChoice_75 : decode cX4_readChoice 75 = .ok (.ifCond .ne (16), 3) := by decide +kernel
theorem D_Reader_readChoice_78 : decode cX4_readChoice 78 = .ok (.aload_n 0, 1) := by decide +kernel
theorem D_Reader_readChoice_79 : decode cX4_readChoice 79 = .ok (.bipush (44), 2) := by decide +kernel
theorem D_Reader_readChoice_81 : decode cX4_readChoice 81 = .ok (.invokevirtual 71, 3) := by decide +kernel
theorem D_Reader_readChoice_84 : decode cX4_readChoice 84 = .ok (.ifCond .eq (7), 3) := by decide +kernel
theorem D_Reader_readChoice_87 : decode cX4_readChoice 87 = .ok (.iconst (1), 1) := by decide +kernel
theorem D_Reader_readChoice_88 : decode cX4_readChoice 88 = .ok (.goto (4), 3) := by decide +kernel
theorem D_Reader_readChoice_91 : decode cX4_readChoice 91 = .ok (.iconst (0), 1) := by decide +kernel
theorem D_Reader_readChoice_92 : decode cX4_readChoice 92 = .ok (.istore_n 3, 1) := by decide +kernel
theorem D_Reader_readChoice_93 : decode cX4_readChoice 93 = .ok (.iload_n 3, 1) := by decide +kernel
theorem D_Reader_readChoice_94 : decode cX4_readChoice 94 = .ok (.ifCond .eq (21), 3) := by decide +kernel
theorem D_Reader_readChoice_97 : decode cX4_readChoice 97 = .ok (.iload 4, 2) := by decide +kernel
theorem D_Reader_readChoice_99 : decode cX4_readChoice 99 = .ok (.iconst (4), 1) := by decide +kernel
theorem D_Reader_readChoice_100 : decode cX4_readChoice 100 = .ok (.if_icmp .ne (15), 3) := by decide +kernel
theorem D_Reader_readChoice_103 : decode cX4_readChoice 103 = .ok (.aload_n 0, 1) := by decide +kernel
theorem D_Reader_readChoice_104 : decode cX4_readChoice 104 = .ok (.aload_n 0, 1) := by decide +kernel
theorem D_Reader_readChoice_105 : decode cX4_readChoice 105 = .ok (.getfield 41, 3) := by decide +kernel
theorem D_Reader_readChoice_108 : decode cX4_readChoice 108 = .ok (.iconst (3), 1) := by decide +kernel
theorem D_Reader_readChoice_109 : decode cX4_readChoice 109 = .ok (.invokevirtual 82, 3) := by decide +kernel
theorem D_Reader_readChoice_112 : decode cX4_readChoice 112 = .ok (.goto (17), 3) := by decide +kernel
theorem D_Reader_readChoice_115 : decode cX4_readChoice 115 = .ok (.iload_n 3, 1) := by decide +kernel
theorem D_Reader_readChoice_116 : decode cX4_readChoice 116 = .ok (.ifCond .eq (13), 3) := by decide +kernel
theorem D_Reader_readChoice_119 : decode cX4_readChoice 119 = .ok (.aload_n 0, 1) := by decide +kernel
theorem D_Reader_readChoice_120 : decode cX4_readChoice 120 = .ok (.dup, 1) := by decide +kernel
theorem D_Reader_readChoice_121 : decode cX4_readChoice 121 = .ok (.getfield 41, 3) := by decide +kernel
theorem D_Reader_readChoice_124 : decode cX4_readChoice 124 = .ok (.iconst (1), 1) := by decide +kernel
theorem D_Reader_readChoice_125 : decode cX4_readChoice 125 = .ok (.iadd, 1) := by decide +kernel
theorem D_Reader_readChoice_126 : decode cX4_readChoice 126 = .ok (.putfield 41, 3) := by decide +kernel
theorem D_Reader_readChoice_129 : decode cX4_readChoice 129 = .ok (.iinc 4 (1), 3) := by decide +kernel
theorem D_Reader_readChoice_132 : decode cX4_readChoice 132 = .ok (.goto (-76), 3) := by decide +kernel
theorem D_Reader_readChoice_135 : decode cX4_readChoice 135 = .ok (.aload_n 2, 1) := by decide +kernel
theorem D_Reader_readChoice_136 : decode cX4_readChoice 136 = .ok (.areturn, 1) := by decide +kernel
def K_Reader_readChoice : SC := (cX4_readChoice, "TwoLevels$Reader", 5, 4, false, [1, 5, 11, 26, 29, 30, 37, 38, 39, 53, 54], NoQ)
def d_Reader_readChoice : MD (Option Nat) := mth tt 5 (sq (sR1 2 (kN 1 11 d_Choice_init [vI (lI 1)]))
 (sq (sh2 (pR 5 7) (lR 0) (lR 2))
 (sq (sE (kV 5 d_Reader_skipBlanks (lR 0) []))
 (sq (sI1 3 (eIf (cAnd (cAnd (eh2 c_lt (eh1 (gI 5 2) (lR 0)) (eh1 (gI 5 1) (lR 0))) (cNot (eh1 z_ne (kV 5 d_Reader_sees (lR 0) [vI (eC (nI 47))])))) (cNot (eh1 z_ne (kV 5 d_Reader_sees (lR 0) [vI (eC (nI 59))])))) (eC (nI 1)) (eC (nI 0))))
 (sq (sq (sI1 4 (eC (nI 1)))
 (loop (cAnd (eh1 z_ne (lI 3)) (eh2 c_le (lI 4) (eC (nI 4))))
 (sq (sE (kV 5 d_Reader_readMember (lR 0) [vR (lR 2)]))
 (sq (sI1 3 (eIf (cAnd (eh1 z_eq (eh1 (gI 5 3) (lR 0))) (eh1 z_ne (kV 5 d_Reader_sees (lR 0) [vI (eC (nI 44))]))) (eC (nI 1)) (eC (nI 0))))
 (sIf (cAnd (eh1 z_ne (lI 3)) (eh2 c_eq (lI 4) (eC (nI 4)))) (sE (kV 5 d_Reader_failAt (lR 0) [vI (eh1 (gI 5 2) (lR 0)), vI (eC (nI 3))])) (sIf (eh1 z_ne (lI 3)) (su2 (gI 5 2) (uF false 5 2 (fun x y => x + y)) (lR 0) (eC (nI 1))) sk))))
 (sInc 4 (nI 1))))
 (rtn (lR 2)))))))
theorem m_Reader_readChoice : MJ 4 [1, 5, 11, 26, 29, 30, 37, 38, 39, 53, 54] yX4_readChoice (some (.object "TwoLevels$Choice")) eR (d_Reader_readChoice) := MJ_of (K := K_Reader_readChoice) (ri := .areturn) (n1 := 0) (n2 := 0) (n3 := 0)
 (SJ_sq (p0 := 0) (p1 := 9) (nN := 0) (nB := 0) (nC := 0) (SJ_astore_n (i := 2) (j := 2) (p0 := 0) (p1 := 8) (EJ_new (t := 1) (c := 0) (r := (RX0, TX0, 11)) (p0 := 0) (p1 := 5) D_Reader_readChoice_0 D_Reader_readChoice_3 (AJ_I (p0 := 4) (p1 := 5) (p2 := 5) (EJ_iload_n (j := 1) (i := 1) (pc := 4) D_Reader_readChoice_4 rfl) AJ_nil) m_Choice_init D_Reader_readChoice_5 rfl rfl q_412 q_413 q_103 rfl rfl (Or.inl q_414) q_415 ⟨by decide +kernel, by decide +kernel, by decide +kernel⟩ (by decide) (show 1 + 1 ≤ 4 from by decide) (show ∀ x_ ∈ ([1] : List Nat), x_ ∈ ([1, 5, 11, 26, 29, 30, 37, 38, 39, 53, 54] : List Nat) from by decide)) D_Reader_readChoice_8 rfl)
 (SJ_sq (p0 := 9) (p1 := 14) (nN := 0) (nB := 0) (nC := 0) (SJ_putR (t := 5) (c := 4) (kf := 7) (r := (RX4, TX4, 9)) (p0 := 9) (p1 := 10) (p2 := 11) (EJ_aload_n (j := 0) (i := 0) (pc := 9) D_Reader_readChoice_9 rfl) (EJ_aload_n (j := 2) (i := 2) (pc := 10) D_Reader_readChoice_10 rfl) D_Reader_readChoice_11 ⟨rfl, rfl, by decide, q_153⟩ (Or.inl rfl) (Or.inl ⟨_, rfl⟩) (fun _ _ => rfl) (show (5 : Nat) ∈ ([1, 5, 11, 26, 29, 30, 37, 38, 39, 53, 54] : List Nat) from by decide))
 (SJ_sq (p0 := 14) (p1 := 18) (nN := 0) (nB := 0) (nC := 0) (SJ_void (p0 := 14) (p1 := 18) (EJ_callV (t := 5) (c := 4) (r := (RX4, TX4, 9)) (p0 := 14) (p1 := 15) (p2 := 15) (EJ_aload_n (j := 0) (i := 0) (pc := 14) D_Reader_readChoice_14 rfl) AJ_nil m_Reader_skipBlanks E1_U D_Reader_readChoice_15 rfl rfl rfl q_309 q_310 q_1 q_92 ⟨by decide +kernel, by decide +kernel, by decide +kernel⟩ (by decide) (show 1 + 1 ≤ 4 from by decide) (show ∀ x_ ∈ ([5] : List Nat), x_ ∈ ([1, 5, 11, 26, 29, 30, 37, 38, 39, 53, 54] : List Nat) from by decide)))
 (SJ_sq (p0 := 18) (p1 := 53) (nN := 0) (nB := 0) (nC := 0) (SJ_istore_n (i := 3) (j := 3) (p0 := 18) (p1 := 52) (EJ_if (p0 := 18) (pT := 47) (pF := 51) (pE := 48) (p1 := 52) (CJ_and (p0 := 18) (pM := 38) (pT := 47) (pF := 51) (CJ_and (p0 := 18) (pM := 29) (pT := 38) (pF := 51) (CJ_lt' (off := 25) (tgt := 51) (p0 := 18) (p1 := 22) (p2 := 26) (EJ_getI (t := 5) (c := 4) (kf := 2) (r := (RX4, TX4, 9)) (p0 := 18) (p1 := 19) (EJ_aload_n (j := 0) (i := 0) (pc := 18) D_Reader_readChoice_18 rfl) D_Reader_readChoice_19 ⟨rfl, rfl, by decide, q_148⟩ (fun _ _ => rfl)) (EJ_getI (t := 5) (c := 4) (kf := 1) (r := (RX4, TX4, 9)) (p0 := 22) (p1 := 23) (EJ_aload_n (j := 0) (i := 0) (pc := 22) D_Reader_readChoice_22 rfl) D_Reader_readChoice_23 ⟨rfl, rfl, by decide, q_147⟩ (fun _ _ => rfl)) D_Reader_readChoice_26 rfl) (CJ_not (p0 := 29) (pT := 38) (pF := 51) (CZ_ne (off := 16) (tgt := 51) (p0 := 29) (p1 := 35) (EJ_callV (t := 5) (c := 4) (r := (RX4, TX4, 9)) (p0 := 29) (p1 := 30) (p2 := 32) (EJ_aload_n (j := 0) (i := 0) (pc := 29) D_Reader_readChoice_29 rfl) (AJ_I (p0 := 30) (p1 := 32) (p2 := 32) (EJ_bipush (n := 47) (v := (nI 47)) (pc := 30) D_Reader_readChoice_30 (by decide +kernel)) AJ_nil) m_Reader_sees E1_I D_Reader_readChoice_32 rfl rfl rfl q_329 q_330 q_5 q_92 ⟨by decide +kernel, by decide +kernel, by decide +kernel⟩ (by decide) (show 1 + 1 ≤ 4 from by decide) (fun _ h => absurd h List.not_mem_nil)) D_Reader_readChoice_35 rfl))) (CJ_not (p0 := 38) (pT := 47) (pF := 51) (CZ_ne (off := 7) (tgt := 51) (p0 := 38) (p1 := 44) (EJ_callV (t := 5) (c := 4) (r := (RX4, TX4, 9)) (p0 := 38) (p1 := 39) (p2 := 41) (EJ_aload_n (j := 0) (i := 0) (pc := 38) D_Reader_readChoice_38 rfl) (AJ_I (p0 := 39) (p1 := 41) (p2 := 41) (EJ_bipush (n := 59) (v := (nI 59)) (pc := 39) D_Reader_readChoice_39 (by decide +kernel)) AJ_nil) m_Reader_sees E1_I D_Reader_readChoice_41 rfl rfl rfl q_329 q_330 q_5 q_92 ⟨by decide +kernel, by decide +kernel, by decide +kernel⟩ (by decide) (show 1 + 1 ≤ 4 from by decide) (fun _ h => absurd h List.not_mem_nil)) D_Reader_readChoice_44 rfl))) (EJ_iconst (n := 1) (v := (nI 1)) (pc := 47) D_Reader_readChoice_47 (by decide +kernel)) (Lead.goto (K := K_Reader_readChoice) (pc := 48) (tgt := 52) D_Reader_readChoice_48 rfl) (EJ_iconst (n := 0) (v := (nI 0)) (pc := 51) D_Reader_readChoice_51 (by decide +kernel))) D_Reader_readChoice_52 rfl)
 (SJ_sq (p0 := 53) (p1 := 135) (nN := 0) (nB := 0) (nC := 0) (SJ_sq (p0 := 53) (p1 := 56) (nN := 135) (nB := 0) (nC := 0) (SJ_istore (i := 4) (p0 := 53) (p1 := 54) (EJ_iconst (n := 1) (v := (nI 1)) (pc := 53) D_Reader_readChoice_53 (by decide +kernel)) D_Reader_readChoice_54)
 (SJ_loop (p0 := 56) (pB := 66) (pS := 129) (pE := 135) (CJ_and (p0 := 56) (pM := 60) (pT := 66) (pF := 135) (CZ_ne' (off := 78) (tgt := 135) (p0 := 56) (p1 := 57) (EJ_iload_n (j := 3) (i := 3) (pc := 56) D_Reader_readChoice_56 rfl) D_Reader_readChoice_57 rfl) (CJ_le' (off := 72) (tgt := 135) (p0 := 60) (p1 := 62) (p2 := 63) (EJ_iload (i := 4) (pc := 60) D_Reader_readChoice_60) (EJ_iconst (n := 4) (v := (nI 4)) (pc := 62) D_Reader_readChoice_62 (by decide +kernel)) D_Reader_readChoice_63 rfl))
 (SJ_sq (p0 := 66) (p1 := 71) (nN := 129) (nB := 135) (nC := 129) (SJ_void (p0 := 66) (p1 := 71) (EJ_callV (t := 5) (c := 4) (r := (RX4, TX4, 9)) (p0 := 66) (p1 := 67) (p2 := 68) (EJ_aload_n (j := 0) (i := 0) (pc := 66) D_Reader_readChoice_66 rfl) (AJ_R (p0 := 67) (p1 := 68) (p2 := 68) (EJ_aload_n (j := 2) (i := 2) (pc := 67) D_Reader_readChoice_67 rfl) AJ_nil) m_Reader_readMember E1_U D_Reader_readChoice_68 rfl rfl rfl q_452 q_453 q_10 q_92 ⟨by decide +kernel, by decide +kernel, by decide +kernel⟩ (by decide) (show 3 + 1 ≤ 4 from by decide) (show ∀ x_ ∈ ([1, 5, 11, 26, 29, 30, 37, 38, 39, 53, 54] : List Nat), x_ ∈ ([1, 5, 11, 26, 29, 30, 37, 38, 39, 53, 54] : List Nat) from by decide)))
 (SJ_sq (p0 := 71) (p1 := 93) (nN := 129) (nB := 135) (nC := 129) (SJ_istore_n (i := 3) (j := 3) (p0 := 71) (p1 := 92) (EJ_if (p0 := 71) (pT := 87) (pF := 91) (pE := 88) (p1 := 92) (CJ_and (p0 := 71) (pM := 78) (pT := 87) (pF := 91) (CZ_eq' (off := 16) (tgt := 91) (p0 := 71) (p1 := 75) (EJ_getI (t := 5) (c := 4) (kf := 3) (r := (RX4, TX4, 9)) (p0 := 71) (p1 := 72) (EJ_aload_n (j := 0) (i := 0) (pc := 71) D_Reader_readChoice_71 rfl) D_Reader_readChoice_72 ⟨rfl, rfl, by decide, q_149⟩ (fun _ _ => rfl)) D_Reader_readChoice_75 rfl) (CZ_ne' (off := 7) (tgt := 91) (p0 := 78) (p1 := 84) (EJ_callV (t := 5) (c := 4) (r := (RX4, TX4, 9)) (p0 := 78) (p1 := 79) (p2 := 81) (EJ_aload_n (j := 0) (i := 0) (pc := 78) D_Reader_readChoice_78 rfl) (AJ_I (p0 := 79) (p1 := 81) (p2 := 81) (EJ_bipush (n := 44) (v := (nI 44)) (pc := 79) D_Reader_readChoice_79 (by decide +kernel)) AJ_nil) m_Reader_sees E1_I D_Reader_readChoice_81 rfl rfl rfl q_329 q_330 q_5 q_92 ⟨by decide +kernel, by decide +kernel, by decide +kernel⟩ (by decide) (show 1 + 1 ≤ 4 from by decide) (fun _ h => absurd h List.not_mem_nil)) D_Reader_readChoice_84 rfl)) (EJ_iconst (n := 1) (v := (nI 1)) (pc := 87) D_Reader_readChoice_87 (by decide +kernel)) (Lead.goto (K := K_Reader_readChoice) (pc := 88) (tgt := 92) D_Reader_readChoice_88 rfl) (EJ_iconst (n := 0) (v := (nI 0)) (pc := 91) D_Reader_readChoice_91 (by decide +kernel))) D_Reader_readChoice_92 rfl)
 (SJ_if (p0 := 93) (pT := 103) (pF := 115) (nN := 129) (nB := 135) (nC := 129) (CJ_and (p0 := 93) (pM := 97) (pT := 103) (pF := 115) (CZ_ne' (off := 21) (tgt := 115) (p0 := 93) (p1 := 94) (EJ_iload_n (j := 3) (i := 3) (pc := 93) D_Reader_readChoice_93 rfl) D_Reader_readChoice_94 rfl) (CJ_eq' (off := 15) (tgt := 115) (p0 := 97) (p1 := 99) (p2 := 100) (EJ_iload (i := 4) (pc := 97) D_Reader_readChoice_97) (EJ_iconst (n := 4) (v := (nI 4)) (pc := 99) D_Reader_readChoice_99 (by decide +kernel)) D_Reader_readChoice_100 rfl)) (SJ_post (SJ_void (p0 := 103) (p1 := 112) (EJ_callV (t := 5) (c := 4) (r := (RX4, TX4, 9)) (p0 := 103) (p1 := 104) (p2 := 109) (EJ_aload_n (j := 0) (i := 0) (pc := 103) D_Reader_readChoice_103 rfl) (AJ_I (p0 := 104) (p1 := 108) (p2 := 109) (EJ_getI (t := 5) (c := 4) (kf := 2) (r := (RX4, TX4, 9)) (p0 := 104) (p1 := 105) (EJ_aload_n (j := 0) (i := 0) (pc := 104) D_Reader_readChoice_104 rfl) D_Reader_readChoice_105 ⟨rfl, rfl, by decide, q_148⟩ (fun _ _ => rfl)) (AJ_I (p0 := 108) (p1 := 109) (p2 := 109) (EJ_iconst (n := 3) (v := (nI 3)) (pc := 108) D_Reader_readChoice_108 (by decide +kernel)) AJ_nil)) m_Reader_failAt E1_U D_Reader_readChoice_109 rfl rfl rfl q_322 q_323 q_4 q_92 ⟨by decide +kernel, by decide +kernel, by decide +kernel⟩ (by decide) (show 1 + 1 ≤ 4 from by decide) (show ∀ x_ ∈ ([5] : List Nat), x_ ∈ ([1, 5, 11, 26, 29, 30, 37, 38, 39, 53, 54] : List Nat) from by decide))) (Lead.goto (K := K_Reader_readChoice) (pc := 112) (tgt := 129) D_Reader_readChoice_112 rfl)) (SJ_if (p0 := 115) (pT := 119) (pF := 129) (nN := 129) (nB := 135) (nC := 129) (CZ_ne' (off := 13) (tgt := 129) (p0 := 115) (p1 := 116) (EJ_iload_n (j := 3) (i := 3) (pc := 115) D_Reader_readChoice_115 rfl) D_Reader_readChoice_116 rfl) (SJ_upF (z := false) (t := 5) (c := 4) (kf := 2) (r := (RX4, TX4, 9)) (f := (fun x y => x + y)) (p0 := 119) (p1 := 120) (p3 := 125) (EJ_aload_n (j := 0) (i := 0) (pc := 119) D_Reader_readChoice_119 rfl) D_Reader_readChoice_120 D_Reader_readChoice_121 (EJ_iconst (n := 1) (v := (nI 1)) (pc := 124) D_Reader_readChoice_124 (by decide +kernel)) (Op2_iadd D_Reader_readChoice_125) D_Reader_readChoice_126 ⟨rfl, rfl, by decide, q_148⟩ ⟨rfl, rfl, by decide, q_148⟩ (Or.inl rfl) (fun _ _ => ⟨rfl, rfl⟩) (fun _ _ => rfl) (show (5 : Nat) ∈ ([1, 5, 11, 26, 29, 30, 37, 38, 39, 53, 54] : List Nat) from by decide)) SJ_sk))))
 (SJ_post (SJ_iinc (i := 4) (n := 1) (v := (nI 1)) (pc := 129) D_Reader_readChoice_129 (by decide +kernel)) (Lead.goto (K := K_Reader_readChoice) (pc := 132) (tgt := 56) D_Reader_readChoice_132 rfl))))
 (SJ_ret (p0 := 135) (p1 := 136) (EJ_aload_n (j := 2) (i := 2) (pc := 135) D_Reader_readChoice_135 rfl) D_Reader_readChoice_136))))))
 (RTm_ref (Or.inl ⟨_, rfl⟩)) q_411 (by decide +kernel) rfl (fun h => by cases h) (show 5 ≤ 40 from by decide) (fun _ => trivial)
