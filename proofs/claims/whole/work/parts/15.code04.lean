/-! the program: part 4 -/
theorem D_Search_isPlaced_0 : decode cX7_isPlaced 0 = .ok (.aload_n 1, 1) := by decide +kernel
theorem D_Search_isPlaced_1 : decode cX7_isPlaced 1 = .ok (.getfield 123, 3) := by decide +kernel
theorem D_Search_isPlaced_4 : decode cX7_isPlaced 4 = .ok (.ifCond .ne (24), 3) := by decide +kernel
theorem D_Search_isPlaced_7 : decode cX7_isPlaced 7 = .ok (.aload_n 1, 1) := by decide +kernel
theorem D_Search_isPlaced_8 : decode cX7_isPlaced 8 = .ok (.getfield 65, 3) := by decide +kernel
theorem D_Search_isPlaced_11 : decode cX7_isPlaced 11 = .ok (.ifCond .ne (15), 3) := by decide +kernel
theorem D_Search_isPlaced_14 : decode cX7_isPlaced 14 = .ok (.aload_n 1, 1) := by decide +kernel
theorem D_Search_isPlaced_15 : decode cX7_isPlaced 15 = .ok (.getfield 78, 3) := by decide +kernel
theorem D_Search_isPlaced_18 : decode cX7_isPlaced 18 = .ok (.iconst (-1), 1) := by decide +kernel
theorem D_Search_isPlaced_19 : decode cX7_isPlaced 19 = .ok (.if_icmp .ne (7), 3) := by decide +kernel
theorem D_Search_isPlaced_22 : decode cX7_isPlaced 22 = .ok (.iconst (1), 1) := by decide +kernel
theorem D_Search_isPlaced_23 : decode cX7_isPlaced 23 = .ok (.goto (4), 3) := by decide +kernel
theorem D_Search_isPlaced_26 : decode cX7_isPlaced 26 = .ok (.iconst (0), 1) := by decide +kernel
theorem D_Search_isPlaced_27 : decode cX7_isPlaced 27 = .ok (.ireturn, 1) := by decide +kernel
theorem D_Search_isPlaced_28 : decode cX7_isPlaced 28 = .ok (.aload_n 1, 1) := by decide +kernel
theorem D_Search_isPlaced_29 : decode cX7_isPlaced 29 = .ok (.getfield 78, 3) := by decide +kernel
theorem D_Search_isPlaced_32 : decode cX7_isPlaced 32 = .ok (.ifCond .lt (50), 3) := by decide +kernel
theorem D_Search_isPlaced_35 : decode cX7_isPlaced 35 = .ok (.aload_n 1, 1) := by decide +kernel
theorem D_Search_isPlaced_36 : decode cX7_isPlaced 36 = .ok (.getfield 78, 3) := by decide +kernel
theorem D_Search_isPlaced_39 : decode cX7_isPlaced 39 = .ok (.aload_n 1, 1) := by decide +kernel
theorem D_Search_isPlaced_40 : decode cX7_isPlaced 40 = .ok (.getfield 123, 3) := by decide +kernel
theorem D_Search_isPlaced_43 : decode cX7_isPlaced 43 = .ok (.if_icmp .ge (39), 3) := by decide +kernel
theorem D_Search_isPlaced_46 : decode cX7_isPlaced 46 = .ok (.aload_n 1, 1) := by decide +kernel
theorem D_Search_isPlaced_47 : decode cX7_isPlaced 47 = .ok (.getfield 65, 3) := by decide +kernel
theorem D_Search_isPlaced_50 : decode cX7_isPlaced 50 = .ok (.aload_n 0, 1) := by decide +kernel
theorem D_Search_isPlaced_51 : decode cX7_isPlaced 51 = .ok (.getfield 35, 3) := by decide +kernel
theorem D_Search_isPlaced_54 : decode cX7_isPlaced 54 = .ok (.if_icmp .ge (28), 3) := by decide +kernel
theorem D_Search_isPlaced_57 : decode cX7_isPlaced 57 = .ok (.aload_n 1, 1) := by decide +kernel
theorem D_Search_isPlaced_58 : decode cX7_isPlaced 58 = .ok (.getfield 65, 3) := by decide +kernel
theorem D_Search_isPlaced_61 : decode cX7_isPlaced 61 = .ok (.aload_n 0, 1) := by decide +kernel
theorem D_Search_isPlaced_62 : decode cX7_isPlaced 62 = .ok (.getfield 17, 3) := by decide +kernel
theorem D_Search_isPlaced_65 : decode cX7_isPlaced 65 = .ok (.aload_n 1, 1) := by decide +kernel
theorem D_Search_isPlaced_66 : decode cX7_isPlaced 66 = .ok (.getfield 78, 3) := by decide +kernel
theorem D_Search_isPlaced_69 : decode cX7_isPlaced 69 = .ok (.aaload, 1) := by decide +kernel
theorem D_Search_isPlaced_70 : decode cX7_isPlaced 70 = .ok (.getfield 65, 3) := by decide +kernel
theorem D_Search_isPlaced_73 : decode cX7_isPlaced 73 = .ok (.iconst (1), 1) := by decide +kernel
theorem D_Search_isPlaced_74 : decode cX7_isPlaced 74 = .ok (.iadd, 1) := by decide +kernel
theorem D_Search_isPlaced_75 : decode cX7_isPlaced 75 = .ok (.if_icmp .ne (7), 3) := by decide +kernel
theorem D_Search_isPlaced_78 : decode cX7_isPlaced 78 = .ok (.iconst (1), 1) := by decide +kernel
theorem D_Search_isPlaced_79 : decode cX7_isPlaced 79 = .ok (.goto (4), 3) := by decide +kernel
theorem D_Search_isPlaced_82 : decode cX7_isPlaced 82 = .ok (.iconst (0), 1) := by decide +kernel
theorem D_Search_isPlaced_83 : decode cX7_isPlaced 83 = .ok (.ireturn, 1) := by decide +kernel
def K_Search_isPlaced : SC := (cX7_isPlaced, "TwoLevels$Search", 2, 1, false, [], NoQ)
def d_Search_isPlaced : MD Int32 := mth zz 2 (sq (sIf (eh1 z_eq (eh1 (gI 4 0) (lR 1))) (rtn (eIf (cAnd (eh1 z_eq (eh1 (gI 4 2) (lR 1))) (eh2 c_eq (eh1 (gI 4 3) (lR 1)) (eC (-1)))) (eC (nI 1)) (eC (nI 0)))) sk)
 (rtn (eIf (cAnd (cAnd (cAnd (eh1 z_ge (eh1 (gI 4 3) (lR 1))) (eh2 c_lt (eh1 (gI 4 3) (lR 1)) (eh1 (gI 4 0) (lR 1)))) (eh2 c_lt (eh1 (gI 4 2) (lR 1)) (eh1 (gI 8 1) (lR 0)))) (eh2 c_eq (eh1 (gI 4 2) (lR 1)) (eh2 iaddF (eh1 (gI 4 2) (eh2 (aR (.object "TwoLevels$Node")) (eh1 (gR 8 9) (lR 0)) (eh1 (gI 4 3) (lR 1)))) (eC (nI 1))))) (eC (nI 1)) (eC (nI 0)))))
theorem m_Search_isPlaced : MJ 1 [] yX7_isPlaced (some .boolean) eI (d_Search_isPlaced) := MJ_of (K := K_Search_isPlaced) (ri := .ireturn) (n1 := 0) (n2 := 0) (n3 := 0)
 (SJ_sq (p0 := 0) (p1 := 28) (nN := 0) (nB := 0) (nC := 0) (SJ_if (p0 := 0) (pT := 7) (pF := 28) (nN := 28) (nB := 0) (nC := 0) (CZ_eq' (off := 24) (tgt := 28) (p0 := 0) (p1 := 4) (EJ_getI (t := 4) (c := 3) (kf := 0) (r := (RX3, TX3, 11)) (p0 := 0) (p1 := 1) (EJ_aload_n (j := 1) (i := 1) (pc := 0) D_Search_isPlaced_0 rfl) D_Search_isPlaced_1 ⟨rfl, rfl, by decide, q_792⟩ (fun _ _ => rfl)) D_Search_isPlaced_4 rfl) (SJ_ret (p0 := 7) (p1 := 27) (EJ_if (p0 := 7) (pT := 22) (pF := 26) (pE := 23) (p1 := 27) (CJ_and (p0 := 7) (pM := 14) (pT := 22) (pF := 26) (CZ_eq' (off := 15) (tgt := 26) (p0 := 7) (p1 := 11) (EJ_getI (t := 4) (c := 3) (kf := 2) (r := (RX3, TX3, 11)) (p0 := 7) (p1 := 8) (EJ_aload_n (j := 1) (i := 1) (pc := 7) D_Search_isPlaced_7 rfl) D_Search_isPlaced_8 ⟨rfl, rfl, by decide, q_795⟩ (fun _ _ => rfl)) D_Search_isPlaced_11 rfl) (CJ_eq' (off := 7) (tgt := 26) (p0 := 14) (p1 := 18) (p2 := 19) (EJ_getI (t := 4) (c := 3) (kf := 3) (r := (RX3, TX3, 11)) (p0 := 14) (p1 := 15) (EJ_aload_n (j := 1) (i := 1) (pc := 14) D_Search_isPlaced_14 rfl) D_Search_isPlaced_15 ⟨rfl, rfl, by decide, q_797⟩ (fun _ _ => rfl)) (EJ_iconst (n := -1) (v := (-1)) (pc := 18) D_Search_isPlaced_18 (by decide +kernel)) D_Search_isPlaced_19 rfl)) (EJ_iconst (n := 1) (v := (nI 1)) (pc := 22) D_Search_isPlaced_22 (by decide +kernel)) (Lead.goto (K := K_Search_isPlaced) (pc := 23) (tgt := 27) D_Search_isPlaced_23 rfl) (EJ_iconst (n := 0) (v := (nI 0)) (pc := 26) D_Search_isPlaced_26 (by decide +kernel))) D_Search_isPlaced_27) SJ_sk)
 (SJ_ret (p0 := 28) (p1 := 83) (EJ_if (p0 := 28) (pT := 78) (pF := 82) (pE := 79) (p1 := 83) (CJ_and (p0 := 28) (pM := 57) (pT := 78) (pF := 82) (CJ_and (p0 := 28) (pM := 46) (pT := 57) (pF := 82) (CJ_and (p0 := 28) (pM := 35) (pT := 46) (pF := 82) (CZ_ge' (off := 50) (tgt := 82) (p0 := 28) (p1 := 32) (EJ_getI (t := 4) (c := 3) (kf := 3) (r := (RX3, TX3, 11)) (p0 := 28) (p1 := 29) (EJ_aload_n (j := 1) (i := 1) (pc := 28) D_Search_isPlaced_28 rfl) D_Search_isPlaced_29 ⟨rfl, rfl, by decide, q_797⟩ (fun _ _ => rfl)) D_Search_isPlaced_32 rfl) (CJ_lt' (off := 39) (tgt := 82) (p0 := 35) (p1 := 39) (p2 := 43) (EJ_getI (t := 4) (c := 3) (kf := 3) (r := (RX3, TX3, 11)) (p0 := 35) (p1 := 36) (EJ_aload_n (j := 1) (i := 1) (pc := 35) D_Search_isPlaced_35 rfl) D_Search_isPlaced_36 ⟨rfl, rfl, by decide, q_797⟩ (fun _ _ => rfl)) (EJ_getI (t := 4) (c := 3) (kf := 0) (r := (RX3, TX3, 11)) (p0 := 39) (p1 := 40) (EJ_aload_n (j := 1) (i := 1) (pc := 39) D_Search_isPlaced_39 rfl) D_Search_isPlaced_40 ⟨rfl, rfl, by decide, q_792⟩ (fun _ _ => rfl)) D_Search_isPlaced_43 rfl)) (CJ_lt' (off := 28) (tgt := 82) (p0 := 46) (p1 := 50) (p2 := 54) (EJ_getI (t := 4) (c := 3) (kf := 2) (r := (RX3, TX3, 11)) (p0 := 46) (p1 := 47) (EJ_aload_n (j := 1) (i := 1) (pc := 46) D_Search_isPlaced_46 rfl) D_Search_isPlaced_47 ⟨rfl, rfl, by decide, q_795⟩ (fun _ _ => rfl)) (EJ_getI (t := 8) (c := 7) (kf := 1) (r := (RX7, TX7, 11)) (p0 := 50) (p1 := 51) (EJ_aload_n (j := 0) (i := 0) (pc := 50) D_Search_isPlaced_50 rfl) D_Search_isPlaced_51 ⟨rfl, rfl, by decide, q_229⟩ (fun _ _ => rfl)) D_Search_isPlaced_54 rfl)) (CJ_eq' (off := 7) (tgt := 82) (p0 := 57) (p1 := 61) (p2 := 75) (EJ_getI (t := 4) (c := 3) (kf := 2) (r := (RX3, TX3, 11)) (p0 := 57) (p1 := 58) (EJ_aload_n (j := 1) (i := 1) (pc := 57) D_Search_isPlaced_57 rfl) D_Search_isPlaced_58 ⟨rfl, rfl, by decide, q_795⟩ (fun _ _ => rfl)) (EJ_iadd (p0 := 61) (p1 := 73) (p2 := 74) (EJ_getI (t := 4) (c := 3) (kf := 2) (r := (RX3, TX3, 11)) (p0 := 61) (p1 := 70) (EJ_aald (p0 := 61) (p1 := 65) (p2 := 69) (EJ_getR (t := 8) (c := 7) (kf := 9) (r := (RX7, TX7, 11)) (p0 := 61) (p1 := 62) (EJ_aload_n (j := 0) (i := 0) (pc := 61) D_Search_isPlaced_61 rfl) D_Search_isPlaced_62 ⟨rfl, rfl, by decide, q_241⟩ (fun _ _ => rfl)) (EJ_getI (t := 4) (c := 3) (kf := 3) (r := (RX3, TX3, 11)) (p0 := 65) (p1 := 66) (EJ_aload_n (j := 1) (i := 1) (pc := 65) D_Search_isPlaced_65 rfl) D_Search_isPlaced_66 ⟨rfl, rfl, by decide, q_797⟩ (fun _ _ => rfl)) D_Search_isPlaced_69 (Or.inl ⟨_, rfl⟩)) D_Search_isPlaced_70 ⟨rfl, rfl, by decide, q_795⟩ (fun _ _ => rfl)) (EJ_iconst (n := 1) (v := (nI 1)) (pc := 73) D_Search_isPlaced_73 (by decide +kernel)) D_Search_isPlaced_74) D_Search_isPlaced_75 rfl)) (EJ_iconst (n := 1) (v := (nI 1)) (pc := 78) D_Search_isPlaced_78 (by decide +kernel)) (Lead.goto (K := K_Search_isPlaced) (pc := 79) (tgt := 83) D_Search_isPlaced_79 rfl) (EJ_iconst (n := 0) (v := (nI 0)) (pc := 82) D_Search_isPlaced_82 (by decide +kernel))) D_Search_isPlaced_83))
 RTm_bool q_904 (by decide +kernel) rfl (fun h => by cases h) (show 2 ≤ 40 from by decide) (fun _ => trivial)
theorem D_Search_firstWrong_0 : decode cX7_firstWrong 0 = .ok (.iconst (0), 1) := by decide +kernel
theorem D_Search_firstWrong_1 : decode cX7_firstWrong 1 = .ok (.istore 4, 2) := by decide +kernel
theorem D_Search_firstWrong_3 : decode cX7_firstWrong 3 = .ok (.iload 4, 2) := by decide +kernel
theorem D_Search_firstWrong_5 : decode cX7_firstWrong 5 = .ok (.aload_n 0, 1) := by decide +kernel
theorem D_Search_firstWrong_6 : decode cX7_firstWrong 6 = .ok (.getfield 55, 3) := by decide +kernel
theorem D_Search_firstWrong_9 : decode cX7_firstWrong 9 = .ok (.if_icmp .ge (92), 3) := by decide +kernel
theorem D_Search_firstWrong_12 : decode cX7_firstWrong 12 = .ok (.aload_n 0, 1) := by decide +kernel
theorem D_Search_firstWrong_13 : decode cX7_firstWrong 13 = .ok (.getfield 17, 3) := by decide +kernel
theorem D_Search_firstWrong_16 : decode cX7_firstWrong 16 = .ok (.iload 4, 2) := by decide +kernel
theorem D_Search_firstWrong_18 : decode cX7_firstWrong 18 = .ok (.aaload, 1) := by decide +kernel
theorem D_Search_firstWrong_19 : decode cX7_firstWrong 19 = .ok (.astore 5, 2) := by decide +kernel
theorem D_Search_firstWrong_21 : decode cX7_firstWrong 21 = .ok (.iload 4, 2) := by decide +kernel
theorem D_Search_firstWrong_23 : decode cX7_firstWrong 23 = .ok (.ifCond .gt (30), 3) := by decide +kernel
theorem D_Search_firstWrong_26 : decode cX7_firstWrong 26 = .ok (.aload 5, 2) := by decide +kernel
theorem D_Search_firstWrong_28 : decode cX7_firstWrong 28 = .ok (.getfield 68, 3) := by decide +kernel
theorem D_Search_firstWrong_31 : decode cX7_firstWrong 31 = .ok (.lload_n 1, 1) := by decide +kernel
theorem D_Search_firstWrong_32 : decode cX7_firstWrong 32 = .ok (.lcmp, 1) := by decide +kernel
theorem D_Search_firstWrong_33 : decode cX7_firstWrong 33 = .ok (.ifCond .ne (24), 3) := by decide +kernel
theorem D_Search_firstWrong_36 : decode cX7_firstWrong 36 = .ok (.aload 5, 2) := by decide +kernel
theorem D_Search_firstWrong_38 : decode cX7_firstWrong 38 = .ok (.getfield 72, 3) := by decide +kernel
theorem D_Search_firstWrong_41 : decode cX7_firstWrong 41 = .ok (.ifCond .ne (16), 3) := by decide +kernel
theorem D_Search_firstWrong_44 : decode cX7_firstWrong 44 = .ok (.aload 5, 2) := by decide +kernel
theorem D_Search_firstWrong_46 : decode cX7_firstWrong 46 = .ok (.getfield 75, 3) := by decide +kernel
theorem D_Search_firstWrong_49 : decode cX7_firstWrong 49 = .ok (.iload_n 3, 1) := by decide +kernel
theorem D_Search_firstWrong_50 : decode cX7_firstWrong 50 = .ok (.if_icmp .ne (7), 3) := by decide +kernel
theorem D_Search_firstWrong_53 : decode cX7_firstWrong 53 = .ok (.iconst (1), 1) := by decide +kernel
theorem D_Search_firstWrong_54 : decode cX7_firstWrong 54 = .ok (.goto (4), 3) := by decide +kernel
theorem D_Search_firstWrong_57 : decode cX7_firstWrong 57 = .ok (.iconst (0), 1) := by decide +kernel
theorem D_Search_firstWrong_58 : decode cX7_firstWrong 58 = .ok (.istore 6, 2) := by decide +kernel
theorem D_Search_firstWrong_60 : decode cX7_firstWrong 60 = .ok (.iload 6, 2) := by decide +kernel
theorem D_Search_firstWrong_62 : decode cX7_firstWrong 62 = .ok (.ifCond .eq (30), 3) := by decide +kernel
theorem D_Search_firstWrong_65 : decode cX7_firstWrong 65 = .ok (.aload_n 0, 1) := by decide +kernel
theorem D_Search_firstWrong_66 : decode cX7_firstWrong 66 = .ok (.aload 5, 2) := by decide +kernel
theorem D_Search_firstWrong_68 : decode cX7_firstWrong 68 = .ok (.invokevirtual 202, 3) := by decide +kernel
theorem D_Search_firstWrong_71 : decode cX7_firstWrong 71 = .ok (.ifCond .eq (21), 3) := by decide +kernel
theorem D_Search_firstWrong_74 : decode cX7_firstWrong 74 = .ok (.aload_n 0, 1) := by decide +kernel
theorem D_Search_firstWrong_75 : decode cX7_firstWrong 75 = .ok (.aload 5, 2) := by decide +kernel
theorem D_Search_firstWrong_77 : decode cX7_firstWrong 77 = .ok (.invokevirtual 206, 3) := by decide +kernel
theorem D_Search_firstWrong_80 : decode cX7_firstWrong 80 = .ok (.ifCond .eq (12), 3) := by decide +kernel
theorem D_Search_firstWrong_83 : decode cX7_firstWrong 83 = .ok (.aload_n 0, 1) := by decide +kernel
theorem D_Search_firstWrong_84 : decode cX7_firstWrong 84 = .ok (.aload 5, 2) := by decide +kernel
theorem D_Search_firstWrong_86 : decode cX7_firstWrong 86 = .ok (.invokevirtual 209, 3) := by decide +kernel
theorem D_Search_firstWrong_89 : decode cX7_firstWrong 89 = .ok (.ifCond .ne (6), 3) := by decide +kernel
theorem D_Search_firstWrong_92 : decode cX7_firstWrong 92 = .ok (.iload 4, 2) := by decide +kernel
theorem D_Search_firstWrong_94 : decode cX7_firstWrong 94 = .ok (.ireturn, 1) := by decide +kernel
theorem D_Search_firstWrong_95 : decode cX7_firstWrong 95 = .ok (.iinc 4 (1), 3) := by decide +kernel
theorem D_Search_firstWrong_98 : decode cX7_firstWrong 98 = .ok (.goto (-95), 3) := by decide +kernel
theorem D_Search_firstWrong_101 : decode cX7_firstWrong 101 = .ok (.iconst (-1), 1) := by decide +kernel
theorem D_Search_firstWrong_102 : decode cX7_firstWrong 102 = .ok (.ireturn, 1) := by decide +kernel
def K_Search_firstWrong : SC := (cX7_firstWrong, "TwoLevels$Search", 7, 7, false, [3, 43, 44, 45, 46, 47, 48], NoQ)
def d_Search_firstWrong : MD Int32 := mth tt 7 (sq (sq (sI1 4 (eC (nI 0)))
 (loop (eh2 c_lt (lI 4) (eh1 (gI 8 10) (lR 0)))
 (sq (sR1 5 (eh2 (aR (.object "TwoLevels$Node")) (eh1 (gR 8 9) (lR 0)) (lI 4)))
 (sq (sI1 6 (eIf (cOr (eh1 z_gt (lI 4)) (cAnd (cAnd (eh2 j_eq (eh1 (gJ 4 1) (lR 5)) (lJ 1)) (eh1 z_eq (eh1 (gI 4 4) (lR 5)))) (eh2 c_eq (eh1 (gI 4 5) (lR 5)) (lI 3)))) (eC (nI 1)) (eC (nI 0))))
 (sIf (cOr (cOr (cOr (cNot (eh1 z_ne (lI 6))) (cNot (eh1 z_ne (kV 8 d_Search_isPlaced (lR 0) [vR (lR 5)])))) (cNot (eh1 z_ne (kV 8 d_Search_isAssigned (lR 0) [vR (lR 5)])))) (cNot (eh1 z_ne (kV 8 d_Search_hasItsMembers (lR 0) [vR (lR 5)])))) (rtn (lI 4)) sk)))
 (sInc 4 (nI 1))))
 (rtn (eC (-1))))
theorem m_Search_firstWrong : MJ 7 [3, 43, 44, 45, 46, 47, 48] yX7_firstWrong (some .int) eI (d_Search_firstWrong) := MJ_of (K := K_Search_firstWrong) (ri := .ireturn) (n1 := 0) (n2 := 0) (n3 := 0)
 (SJ_sq (p0 := 0) (p1 := 101) (nN := 0) (nB := 0) (nC := 0) (SJ_sq (p0 := 0) (p1 := 3) (nN := 101) (nB := 0) (nC := 0) (SJ_istore (i := 4) (p0 := 0) (p1 := 1) (EJ_iconst (n := 0) (v := (nI 0)) (pc := 0) D_Search_firstWrong_0 (by decide +kernel)) D_Search_firstWrong_1)
 (SJ_loop (p0 := 3) (pB := 12) (pS := 95) (pE := 101) (CJ_lt' (off := 92) (tgt := 101) (p0 := 3) (p1 := 5) (p2 := 9) (EJ_iload (i := 4) (pc := 3) D_Search_firstWrong_3) (EJ_getI (t := 8) (c := 7) (kf := 10) (r := (RX7, TX7, 11)) (p0 := 5) (p1 := 6) (EJ_aload_n (j := 0) (i := 0) (pc := 5) D_Search_firstWrong_5 rfl) D_Search_firstWrong_6 ⟨rfl, rfl, by decide, q_242⟩ (fun _ _ => rfl)) D_Search_firstWrong_9 rfl)
 (SJ_sq (p0 := 12) (p1 := 21) (nN := 95) (nB := 101) (nC := 95) (SJ_astore (i := 5) (p0 := 12) (p1 := 19) (EJ_aald (p0 := 12) (p1 := 16) (p2 := 18) (EJ_getR (t := 8) (c := 7) (kf := 9) (r := (RX7, TX7, 11)) (p0 := 12) (p1 := 13) (EJ_aload_n (j := 0) (i := 0) (pc := 12) D_Search_firstWrong_12 rfl) D_Search_firstWrong_13 ⟨rfl, rfl, by decide, q_241⟩ (fun _ _ => rfl)) (EJ_iload (i := 4) (pc := 16) D_Search_firstWrong_16) D_Search_firstWrong_18 (Or.inl ⟨_, rfl⟩)) D_Search_firstWrong_19)
 (SJ_sq (p0 := 21) (p1 := 60) (nN := 95) (nB := 101) (nC := 95) (SJ_istore (i := 6) (p0 := 21) (p1 := 58) (EJ_if (p0 := 21) (pT := 53) (pF := 57) (pE := 54) (p1 := 58) (CJ_or (p0 := 21) (pM := 26) (pT := 53) (pF := 57) (CZ_gt (off := 30) (tgt := 53) (p0 := 21) (p1 := 23) (EJ_iload (i := 4) (pc := 21) D_Search_firstWrong_21) D_Search_firstWrong_23 rfl) (CJ_and (p0 := 26) (pM := 44) (pT := 53) (pF := 57) (CJ_and (p0 := 26) (pM := 36) (pT := 44) (pF := 57) (CL_eq' (off := 24) (tgt := 57) (p0 := 26) (p1 := 31) (p2 := 32) (EJ_getJ (t := 4) (c := 3) (kf := 1) (r := (RX3, TX3, 11)) (p0 := 26) (p1 := 28) (EJ_aload (i := 5) (pc := 26) D_Search_firstWrong_26) D_Search_firstWrong_28 ⟨rfl, rfl, by decide, q_793⟩ (fun _ _ => rfl)) (EJ_lload_n (j := 1) (i := 1) (pc := 31) D_Search_firstWrong_31 rfl) D_Search_firstWrong_32 D_Search_firstWrong_33 rfl) (CZ_eq' (off := 16) (tgt := 57) (p0 := 36) (p1 := 41) (EJ_getI (t := 4) (c := 3) (kf := 4) (r := (RX3, TX3, 11)) (p0 := 36) (p1 := 38) (EJ_aload (i := 5) (pc := 36) D_Search_firstWrong_36) D_Search_firstWrong_38 ⟨rfl, rfl, by decide, q_799⟩ (fun _ _ => rfl)) D_Search_firstWrong_41 rfl)) (CJ_eq' (off := 7) (tgt := 57) (p0 := 44) (p1 := 49) (p2 := 50) (EJ_getI (t := 4) (c := 3) (kf := 5) (r := (RX3, TX3, 11)) (p0 := 44) (p1 := 46) (EJ_aload (i := 5) (pc := 44) D_Search_firstWrong_44) D_Search_firstWrong_46 ⟨rfl, rfl, by decide, q_801⟩ (fun _ _ => rfl)) (EJ_iload_n (j := 3) (i := 3) (pc := 49) D_Search_firstWrong_49 rfl) D_Search_firstWrong_50 rfl))) (EJ_iconst (n := 1) (v := (nI 1)) (pc := 53) D_Search_firstWrong_53 (by decide +kernel)) (Lead.goto (K := K_Search_firstWrong) (pc := 54) (tgt := 58) D_Search_firstWrong_54 rfl) (EJ_iconst (n := 0) (v := (nI 0)) (pc := 57) D_Search_firstWrong_57 (by decide +kernel))) D_Search_firstWrong_58)
 (SJ_if (p0 := 60) (pT := 92) (pF := 95) (nN := 95) (nB := 101) (nC := 95) (CJ_or (p0 := 60) (pM := 83) (pT := 92) (pF := 95) (CJ_or (p0 := 60) (pM := 74) (pT := 92) (pF := 83) (CJ_or (p0 := 60) (pM := 65) (pT := 92) (pF := 74) (CJ_not (p0 := 60) (pT := 92) (pF := 65) (CZ_ne' (off := 30) (tgt := 92) (p0 := 60) (p1 := 62) (EJ_iload (i := 6) (pc := 60) D_Search_firstWrong_60) D_Search_firstWrong_62 rfl)) (CJ_not (p0 := 65) (pT := 92) (pF := 74) (CZ_ne' (off := 21) (tgt := 92) (p0 := 65) (p1 := 71) (EJ_callV (t := 8) (c := 7) (r := (RX7, TX7, 11)) (p0 := 65) (p1 := 66) (p2 := 68) (EJ_aload_n (j := 0) (i := 0) (pc := 65) D_Search_firstWrong_65 rfl) (AJ_R (p0 := 66) (p1 := 68) (p2 := 68) (EJ_aload (i := 5) (pc := 66) D_Search_firstWrong_66) AJ_nil) m_Search_isPlaced E1_I D_Search_firstWrong_68 rfl rfl rfl q_902 q_903 q_31 q_96 ⟨by decide +kernel, by decide +kernel, by decide +kernel⟩ (by decide) (show 1 + 1 ≤ 7 from by decide) (fun _ h => absurd h List.not_mem_nil)) D_Search_firstWrong_71 rfl))) (CJ_not (p0 := 74) (pT := 92) (pF := 83) (CZ_ne' (off := 12) (tgt := 92) (p0 := 74) (p1 := 80) (EJ_callV (t := 8) (c := 7) (r := (RX7, TX7, 11)) (p0 := 74) (p1 := 75) (p2 := 77) (EJ_aload_n (j := 0) (i := 0) (pc := 74) D_Search_firstWrong_74 rfl) (AJ_R (p0 := 75) (p1 := 77) (p2 := 77) (EJ_aload (i := 5) (pc := 75) D_Search_firstWrong_75) AJ_nil) m_Search_isAssigned E1_I D_Search_firstWrong_77 rfl rfl rfl q_905 q_906 q_32 q_96 ⟨by decide +kernel, by decide +kernel, by decide +kernel⟩ (by decide) (show 6 + 1 ≤ 7 from by decide) (show ∀ x_ ∈ ([3, 43, 44, 45, 46, 47, 48] : List Nat), x_ ∈ ([3, 43, 44, 45, 46, 47, 48] : List Nat) from by decide)) D_Search_firstWrong_80 rfl))) (CJ_not (p0 := 83) (pT := 92) (pF := 95) (CZ_ne (off := 6) (tgt := 95) (p0 := 83) (p1 := 89) (EJ_callV (t := 8) (c := 7) (r := (RX7, TX7, 11)) (p0 := 83) (p1 := 84) (p2 := 86) (EJ_aload_n (j := 0) (i := 0) (pc := 83) D_Search_firstWrong_83 rfl) (AJ_R (p0 := 84) (p1 := 86) (p2 := 86) (EJ_aload (i := 5) (pc := 84) D_Search_firstWrong_84) AJ_nil) m_Search_hasItsMembers E1_I D_Search_firstWrong_86 rfl rfl rfl q_913 q_914 q_34 q_96 ⟨by decide +kernel, by decide +kernel, by decide +kernel⟩ (by decide) (show 2 + 1 ≤ 7 from by decide) (fun _ h => absurd h List.not_mem_nil)) D_Search_firstWrong_89 rfl))) (SJ_ret (p0 := 92) (p1 := 94) (EJ_iload (i := 4) (pc := 92) D_Search_firstWrong_92) D_Search_firstWrong_94) SJ_sk)))
 (SJ_post (SJ_iinc (i := 4) (n := 1) (v := (nI 1)) (pc := 95) D_Search_firstWrong_95 (by decide +kernel)) (Lead.goto (K := K_Search_firstWrong) (pc := 98) (tgt := 3) D_Search_firstWrong_98 rfl))))
 (SJ_ret (p0 := 101) (p1 := 102) (EJ_iconst (n := -1) (v := (-1)) (pc := 101) D_Search_firstWrong_101 (by decide +kernel)) D_Search_firstWrong_102))
 RTm_int q_901 (by decide +kernel) rfl (fun h => by cases h) (show 7 ≤ 40 from by decide) (fun _ => trivial)
theorem D_Node_init_0 : decode cX3_init 0 = .ok (.aload_n 0, 1) := by decide +kernel
theorem D_Node_init_1 : decode cX3_init 1 = .ok (.invokespecial 1, 3) := by decide +kernel
theorem D_Node_init_4 : decode cX3_init 4 = .ok (.aload_n 0, 1) := by decide +kernel
theorem D_Node_init_5 : decode cX3_init 5 = .ok (.iconst (2), 1) := by decide +kernel
theorem D_Node_init_6 : decode cX3_init 6 = .ok (.newarray .long, 2) := by decide +kernel
theorem D_Node_init_8 : decode cX3_init 8 = .ok (.putfield 9, 3) := by decide +kernel
theorem D_Node_init_11 : decode cX3_init 11 = .ok (.aload_n 0, 1) := by decide +kernel
theorem D_Node_init_12 : decode cX3_init 12 = .ok (.iload_n 1, 1) := by decide +kernel
theorem D_Node_init_13 : decode cX3_init 13 = .ok (.putfield 15, 3) := by decide +kernel
theorem D_Node_init_16 : decode cX3_init 16 = .ok (.return_, 1) := by decide +kernel
def K_Node_init : SC := (cX3_init, "TwoLevels$Node", 2, 1, true, [4], NoQ)
def d_Node_init : MD Unit := mth tt 2 (sq sObj
 (sq (sh2 (pR 4 10) (lR 0) (nA 49 (eC (nI 2))))
 (sq (sh2 (pI false 4 0) (lR 0) (lI 1))
 rtnU)))
theorem m_Node_init : MJ 1 [4] yX3_init none eU (d_Node_init) := MJ_of (K := K_Node_init) (ri := .return_) (n1 := 0) (n2 := 0) (n3 := 0)
 (SJ_sq (p0 := 0) (p1 := 4) (nN := 0) (nB := 0) (nC := 0) (SJ_obj (pc := 0) (idx := 1) D_Node_init_0 D_Node_init_1 q_790 q_114 q_115 (show 1 ≤ 1 from by decide))
 (SJ_sq (p0 := 4) (p1 := 11) (nN := 0) (nB := 0) (nC := 0) (SJ_putR (t := 4) (c := 3) (kf := 10) (r := (RX3, TX3, 11)) (p0 := 4) (p1 := 5) (p2 := 8) (EJ_aload_n (j := 0) (i := 0) (pc := 4) D_Node_init_4 rfl) (EJ_newarr (atype := .long) (ty := .long) (t := 49) (p0 := 5) (p1 := 6) (EJ_iconst (n := 2) (v := (nI 2)) (pc := 5) D_Node_init_5 (by decide +kernel)) D_Node_init_6 rfl (by decide) q_220 rfl) D_Node_init_8 ⟨rfl, rfl, by decide, q_811⟩ (Or.inr ⟨rfl, rfl⟩) (Or.inr ⟨_, rfl⟩) (fun _ _ => rfl) (show (4 : Nat) ∈ ([4] : List Nat) from by decide))
 (SJ_sq (p0 := 11) (p1 := 16) (nN := 0) (nB := 0) (nC := 0) (SJ_putI (z := false) (t := 4) (c := 3) (kf := 0) (r := (RX3, TX3, 11)) (p0 := 11) (p1 := 12) (p2 := 13) (EJ_aload_n (j := 0) (i := 0) (pc := 11) D_Node_init_11 rfl) (EJ_iload_n (j := 1) (i := 1) (pc := 12) D_Node_init_12 rfl) D_Node_init_13 ⟨rfl, rfl, by decide, q_791⟩ (Or.inr ⟨rfl, rfl⟩) (fun _ _ => ⟨rfl, rfl⟩) (fun _ _ => rfl) (show (4 : Nat) ∈ ([4] : List Nat) from by decide))
 (SJ_retU (pc := 16) D_Node_init_16))))
 RTm_void q_789 (by decide +kernel) rfl (fun _ => rfl) (show 2 ≤ 40 from by decide) (fun _ => trivial)
theorem D_Search_openNode_0 : decode cX7_openNode 0 = .ok (.aload_n 0, 1) := by decide +kernel
theorem D_Search_openNode_1 : decode cX7_openNode 1 = .ok (.getfield 17, 3) := by decide +kernel
theorem D_Search_openNode_4 : decode cX7_openNode 4 = .ok (.aload_n 0, 1) := by decide +kernel
theorem D_Search_openNode_5 : decode cX7_openNode 5 = .ok (.getfield 55, 3) := by decide +kernel
theorem D_Search_openNode_8 : decode cX7_openNode 8 = .ok (.aaload, 1) := by decide +kernel
theorem D_Search_openNode_9 : decode cX7_openNode 9 = .ok (.astore 7, 2) := by decide +kernel
theorem D_Search_openNode_11 : decode cX7_openNode 11 = .ok (.aload 7, 2) := by decide +kernel
theorem D_Search_openNode_13 : decode cX7_openNode 13 = .ok (.ifnonnull (27), 3) := by decide +kernel
theorem D_Search_openNode_16 : decode cX7_openNode 16 = .ok (.new 15, 3) := by decide +kernel
theorem D_Search_openNode_19 : decode cX7_openNode 19 = .ok (.dup, 1) := by decide +kernel
theorem D_Search_openNode_20 : decode cX7_openNode 20 = .ok (.aload_n 0, 1) := by decide +kernel
theorem D_Search_openNode_21 : decode cX7_openNode 21 = .ok (.getfield 55, 3) := by decide +kernel
theorem D_Search_openNode_24 : decode cX7_openNode 24 = .ok (.invokespecial 62, 3) := by decide +kernel
theorem D_Search_openNode_27 : decode cX7_openNode 27 = .ok (.astore 7, 2) := by decide +kernel
theorem D_Search_openNode_29 : decode cX7_openNode 29 = .ok (.aload_n 0, 1) := by decide +kernel
theorem D_Search_openNode_30 : decode cX7_openNode 30 = .ok (.getfield 17, 3) := by decide +kernel
theorem D_Search_openNode_33 : decode cX7_openNode 33 = .ok (.aload_n 0, 1) := by decide +kernel
theorem D_Search_openNode_34 : decode cX7_openNode 34 = .ok (.getfield 55, 3) := by decide +kernel
theorem D_Search_openNode_37 : decode cX7_openNode 37 = .ok (.aload 7, 2) := by decide +kernel
theorem D_Search_openNode_39 : decode cX7_openNode 39 = .ok (.aastore, 1) := by decide +kernel
theorem D_Search_openNode_40 : decode cX7_openNode 40 = .ok (.aload_n 0, 1) := by decide +kernel
theorem D_Search_openNode_41 : decode cX7_openNode 41 = .ok (.dup, 1) := by decide +kernel
theorem D_Search_openNode_42 : decode cX7_openNode 42 = .ok (.getfield 55, 3) := by decide +kernel
theorem D_Search_openNode_45 : decode cX7_openNode 45 = .ok (.iconst (1), 1) := by decide +kernel
theorem D_Search_openNode_46 : decode cX7_openNode 46 = .ok (.iadd, 1) := by decide +kernel
theorem D_Search_openNode_47 : decode cX7_openNode 47 = .ok (.putfield 55, 3) := by decide +kernel
theorem D_Search_openNode_50 : decode cX7_openNode 50 = .ok (.aload 7, 2) := by decide +kernel
theorem D_Search_openNode_52 : decode cX7_openNode 52 = .ok (.iload_n 1, 1) := by decide +kernel
theorem D_Search_openNode_53 : decode cX7_openNode 53 = .ok (.putfield 65, 3) := by decide +kernel
theorem D_Search_openNode_56 : decode cX7_openNode 56 = .ok (.aload 7, 2) := by decide +kernel
theorem D_Search_openNode_58 : decode cX7_openNode 58 = .ok (.lload_n 2, 1) := by decide +kernel
theorem D_Search_openNode_59 : decode cX7_openNode 59 = .ok (.putfield 68, 3) := by decide +kernel
theorem D_Search_openNode_62 : decode cX7_openNode 62 = .ok (.aload 7, 2) := by decide +kernel
theorem D_Search_openNode_64 : decode cX7_openNode 64 = .ok (.iload 4, 2) := by decide +kernel
theorem D_Search_openNode_66 : decode cX7_openNode 66 = .ok (.putfield 72, 3) := by decide +kernel
theorem D_Search_openNode_69 : decode cX7_openNode 69 = .ok (.aload 7, 2) := by decide +kernel
theorem D_Search_openNode_71 : decode cX7_openNode 71 = .ok (.iload 5, 2) := by decide +kernel
theorem D_Search_openNode_73 : decode cX7_openNode 73 = .ok (.putfield 75, 3) := by decide +kernel
theorem D_Search_openNode_76 : decode cX7_openNode 76 = .ok (.aload 7, 2) := by decide +kernel
theorem D_Search_openNode_78 : decode cX7_openNode 78 = .ok (.iload 6, 2) := by decide +kernel
theorem D_Search_openNode_80 : decode cX7_openNode 80 = .ok (.putfield 78, 3) := by decide +kernel
theorem D_Search_openNode_83 : decode cX7_openNode 83 = .ok (.aload 7, 2) := by decide +kernel
theorem D_Search_openNode_85 : decode cX7_openNode 85 = .ok (.areturn, 1) := by decide +kernel
def K_Search_openNode : SC := (cX7_openNode, "TwoLevels$Search", 8, 2, false, [4, 8, 51], NoQ)
def d_Search_openNode : MD (Option Nat) := mth tt 8 (sq (sR1 7 (eh2 (aR (.object "TwoLevels$Node")) (eh1 (gR 8 9) (lR 0)) (eh1 (gI 8 10) (lR 0))))
 (sq (sIf (eh1 n_nul (lR 7)) (sq (sR1 7 (kN 4 11 d_Node_init [vI (eh1 (gI 8 10) (lR 0))]))
 (sh3 (stO [51] "TwoLevels$Node" 4) (eh1 (gR 8 9) (lR 0)) (eh1 (gI 8 10) (lR 0)) (lR 7))) sk)
 (sq (su2 (gI 8 10) (uF false 8 10 (fun x y => x + y)) (lR 0) (eC (nI 1)))
 (sq (sh2 (pI false 4 2) (lR 7) (lI 1))
 (sq (sh2 (pJ 4 1) (lR 7) (lJ 2))
 (sq (sh2 (pI false 4 4) (lR 7) (lI 4))
 (sq (sh2 (pI false 4 5) (lR 7) (lI 5))
 (sq (sh2 (pI false 4 3) (lR 7) (lI 6))
 (rtn (lR 7))))))))))
theorem m_Search_openNode : MJ 2 [4, 8, 51] yX7_openNode (some (.object "TwoLevels$Node")) eR (d_Search_openNode) := MJ_of (K := K_Search_openNode) (ri := .areturn) (n1 := 0) (n2 := 0) (n3 := 0)
 (SJ_sq (p0 := 0) (p1 := 11) (nN := 0) (nB := 0) (nC := 0) (SJ_astore (i := 7) (p0 := 0) (p1 := 9) (EJ_aald (p0 := 0) (p1 := 4) (p2 := 8) (EJ_getR (t := 8) (c := 7) (kf := 9) (r := (RX7, TX7, 11)) (p0 := 0) (p1 := 1) (EJ_aload_n (j := 0) (i := 0) (pc := 0) D_Search_openNode_0 rfl) D_Search_openNode_1 ⟨rfl, rfl, by decide, q_241⟩ (fun _ _ => rfl)) (EJ_getI (t := 8) (c := 7) (kf := 10) (r := (RX7, TX7, 11)) (p0 := 4) (p1 := 5) (EJ_aload_n (j := 0) (i := 0) (pc := 4) D_Search_openNode_4 rfl) D_Search_openNode_5 ⟨rfl, rfl, by decide, q_242⟩ (fun _ _ => rfl)) D_Search_openNode_8 (Or.inl ⟨_, rfl⟩)) D_Search_openNode_9)
 (SJ_sq (p0 := 11) (p1 := 40) (nN := 0) (nB := 0) (nC := 0) (SJ_if (p0 := 11) (pT := 16) (pF := 40) (nN := 40) (nB := 0) (nC := 0) (CN_nul' (off := 27) (tgt := 40) (p0 := 11) (p1 := 13) (EJ_aload (i := 7) (pc := 11) D_Search_openNode_11) D_Search_openNode_13 rfl) (SJ_sq (p0 := 16) (p1 := 29) (nN := 40) (nB := 0) (nC := 0) (SJ_astore (i := 7) (p0 := 16) (p1 := 27) (EJ_new (t := 4) (c := 3) (r := (RX3, TX3, 11)) (p0 := 16) (p1 := 24) D_Search_openNode_16 D_Search_openNode_19 (AJ_I (p0 := 20) (p1 := 24) (p2 := 24) (EJ_getI (t := 8) (c := 7) (kf := 10) (r := (RX7, TX7, 11)) (p0 := 20) (p1 := 21) (EJ_aload_n (j := 0) (i := 0) (pc := 20) D_Search_openNode_20 rfl) D_Search_openNode_21 ⟨rfl, rfl, by decide, q_242⟩ (fun _ _ => rfl)) AJ_nil) m_Node_init D_Search_openNode_24 rfl rfl q_227 q_786 q_107 rfl rfl (Or.inl q_787) q_788 ⟨by decide +kernel, by decide +kernel, by decide +kernel⟩ (by decide) (show 1 + 1 ≤ 2 from by decide) (show ∀ x_ ∈ ([4] : List Nat), x_ ∈ ([4, 8, 51] : List Nat) from by decide)) D_Search_openNode_27)
 (SJ_oast (tv := 4) (cv := 3) (r := (RX3, TX3, 11)) (ws := [51]) (p0 := 29) (p1 := 33) (p2 := 37) (p3 := 39) (EJ_getR (t := 8) (c := 7) (kf := 9) (r := (RX7, TX7, 11)) (p0 := 29) (p1 := 30) (EJ_aload_n (j := 0) (i := 0) (pc := 29) D_Search_openNode_29 rfl) D_Search_openNode_30 ⟨rfl, rfl, by decide, q_241⟩ (fun _ _ => rfl)) (EJ_getI (t := 8) (c := 7) (kf := 10) (r := (RX7, TX7, 11)) (p0 := 33) (p1 := 34) (EJ_aload_n (j := 0) (i := 0) (pc := 33) D_Search_openNode_33 rfl) D_Search_openNode_34 ⟨rfl, rfl, by decide, q_242⟩ (fun _ _ => rfl)) (EJ_aload (i := 7) (pc := 37) D_Search_openNode_37) D_Search_openNode_39 rfl rfl rfl (show ∀ x_ ∈ ([51] : List Nat), x_ ∈ ([4, 8, 51] : List Nat) from by decide))) SJ_sk)
 (SJ_sq (p0 := 40) (p1 := 50) (nN := 0) (nB := 0) (nC := 0) (SJ_upF (z := false) (t := 8) (c := 7) (kf := 10) (r := (RX7, TX7, 11)) (f := (fun x y => x + y)) (p0 := 40) (p1 := 41) (p3 := 46) (EJ_aload_n (j := 0) (i := 0) (pc := 40) D_Search_openNode_40 rfl) D_Search_openNode_41 D_Search_openNode_42 (EJ_iconst (n := 1) (v := (nI 1)) (pc := 45) D_Search_openNode_45 (by decide +kernel)) (Op2_iadd D_Search_openNode_46) D_Search_openNode_47 ⟨rfl, rfl, by decide, q_242⟩ ⟨rfl, rfl, by decide, q_242⟩ (Or.inl rfl) (fun _ _ => ⟨rfl, rfl⟩) (fun _ _ => rfl) (show (8 : Nat) ∈ ([4, 8, 51] : List Nat) from by decide))
 (SJ_sq (p0 := 50) (p1 := 56) (nN := 0) (nB := 0) (nC := 0) (SJ_putI (z := false) (t := 4) (c := 3) (kf := 2) (r := (RX3, TX3, 11)) (p0 := 50) (p1 := 52) (p2 := 53) (EJ_aload (i := 7) (pc := 50) D_Search_openNode_50) (EJ_iload_n (j := 1) (i := 1) (pc := 52) D_Search_openNode_52 rfl) D_Search_openNode_53 ⟨rfl, rfl, by decide, q_795⟩ (Or.inl rfl) (fun _ _ => ⟨rfl, rfl⟩) (fun _ _ => rfl) (show (4 : Nat) ∈ ([4, 8, 51] : List Nat) from by decide))
 (SJ_sq (p0 := 56) (p1 := 62) (nN := 0) (nB := 0) (nC := 0) (SJ_putJ (t := 4) (c := 3) (kf := 1) (r := (RX3, TX3, 11)) (p0 := 56) (p1 := 58) (p2 := 59) (EJ_aload (i := 7) (pc := 56) D_Search_openNode_56) (EJ_lload_n (j := 2) (i := 2) (pc := 58) D_Search_openNode_58 rfl) D_Search_openNode_59 ⟨rfl, rfl, by decide, q_793⟩ (Or.inl rfl) rfl (fun _ _ => rfl) (show (4 : Nat) ∈ ([4, 8, 51] : List Nat) from by decide))
 (SJ_sq (p0 := 62) (p1 := 69) (nN := 0) (nB := 0) (nC := 0) (SJ_putI (z := false) (t := 4) (c := 3) (kf := 4) (r := (RX3, TX3, 11)) (p0 := 62) (p1 := 64) (p2 := 66) (EJ_aload (i := 7) (pc := 62) D_Search_openNode_62) (EJ_iload (i := 4) (pc := 64) D_Search_openNode_64) D_Search_openNode_66 ⟨rfl, rfl, by decide, q_799⟩ (Or.inl rfl) (fun _ _ => ⟨rfl, rfl⟩) (fun _ _ => rfl) (show (4 : Nat) ∈ ([4, 8, 51] : List Nat) from by decide))
 (SJ_sq (p0 := 69) (p1 := 76) (nN := 0) (nB := 0) (nC := 0) (SJ_putI (z := false) (t := 4) (c := 3) (kf := 5) (r := (RX3, TX3, 11)) (p0 := 69) (p1 := 71) (p2 := 73) (EJ_aload (i := 7) (pc := 69) D_Search_openNode_69) (EJ_iload (i := 5) (pc := 71) D_Search_openNode_71) D_Search_openNode_73 ⟨rfl, rfl, by decide, q_801⟩ (Or.inl rfl) (fun _ _ => ⟨rfl, rfl⟩) (fun _ _ => rfl) (show (4 : Nat) ∈ ([4, 8, 51] : List Nat) from by decide))
 (SJ_sq (p0 := 76) (p1 := 83) (nN := 0) (nB := 0) (nC := 0) (SJ_putI (z := false) (t := 4) (c := 3) (kf := 3) (r := (RX3, TX3, 11)) (p0 := 76) (p1 := 78) (p2 := 80) (EJ_aload (i := 7) (pc := 76) D_Search_openNode_76) (EJ_iload (i := 6) (pc := 78) D_Search_openNode_78) D_Search_openNode_80 ⟨rfl, rfl, by decide, q_797⟩ (Or.inl rfl) (fun _ _ => ⟨rfl, rfl⟩) (fun _ _ => rfl) (show (4 : Nat) ∈ ([4, 8, 51] : List Nat) from by decide))
 (SJ_ret (p0 := 83) (p1 := 85) (EJ_aload (i := 7) (pc := 83) D_Search_openNode_83) D_Search_openNode_85)))))))))
 (RTm_ref (Or.inl ⟨_, rfl⟩)) q_785 (by decide +kernel) rfl (fun h => by cases h) (show 8 ≤ 40 from by decide) (fun _ => trivial)
theorem D_Search_opens_0 : decode cX7_opens 0 = .ok (.aload_n 0, 1) := by decide +kernel
theorem D_Search_opens_1 : decode cX7_opens 1 = .ok (.getfield 25, 3) := by decide +kernel
theorem D_Search_opens_4 : decode cX7_opens 4 = .ok (.aload_n 1, 1) := by decide +kernel
theorem D_Search_opens_5 : decode cX7_opens 5 = .ok (.getfield 65, 3) := by decide +kernel
theorem D_Search_opens_8 : decode cX7_opens 8 = .ok (.aaload, 1) := by decide +kernel
theorem D_Search_opens_9 : decode cX7_opens 9 = .ok (.aload_n 2, 1) := by decide +kernel
theorem D_Search_opens_10 : decode cX7_opens 10 = .ok (.getfield 186, 3) := by decide +kernel
theorem D_Search_opens_13 : decode cX7_opens 13 = .ok (.iconst (0), 1) := by decide +kernel
theorem D_Search_opens_14 : decode cX7_opens 14 = .ok (.aaload, 1) := by decide +kernel
theorem D_Search_opens_15 : decode cX7_opens 15 = .ok (.invokevirtual 190, 3) := by decide +kernel
theorem D_Search_opens_18 : decode cX7_opens 18 = .ok (.lstore_n 3, 1) := by decide +kernel
theorem D_Search_opens_19 : decode cX7_opens 19 = .ok (.aload_n 2, 1) := by decide +kernel
theorem D_Search_opens_20 : decode cX7_opens 20 = .ok (.iconst (0), 1) := by decide +kernel
theorem D_Search_opens_21 : decode cX7_opens 21 = .ok (.invokevirtual 194, 3) := by decide +kernel
theorem D_Search_opens_24 : decode cX7_opens 24 = .ok (.ifCond .eq (25), 3) := by decide +kernel
theorem D_Search_opens_27 : decode cX7_opens 27 = .ok (.aload_n 0, 1) := by decide +kernel
theorem D_Search_opens_28 : decode cX7_opens 28 = .ok (.getfield 9, 3) := by decide +kernel
theorem D_Search_opens_31 : decode cX7_opens 31 = .ok (.aload_n 1, 1) := by decide +kernel
theorem D_Search_opens_32 : decode cX7_opens 32 = .ok (.getfield 72, 3) := by decide +kernel
theorem D_Search_opens_35 : decode cX7_opens 35 = .ok (.laload, 1) := by decide +kernel
theorem D_Search_opens_36 : decode cX7_opens 36 = .ok (.lload_n 3, 1) := by decide +kernel
theorem D_Search_opens_37 : decode cX7_opens 37 = .ok (.lcmp, 1) := by decide +kernel
theorem D_Search_opens_38 : decode cX7_opens 38 = .ok (.ifCond .ne (7), 3) := by decide +kernel
theorem D_Search_opens_41 : decode cX7_opens 41 = .ok (.iconst (1), 1) := by decide +kernel
theorem D_Search_opens_42 : decode cX7_opens 42 = .ok (.goto (20), 3) := by decide +kernel
theorem D_Search_opens_45 : decode cX7_opens 45 = .ok (.iconst (0), 1) := by decide +kernel
theorem D_Search_opens_46 : decode cX7_opens 46 = .ok (.goto (16), 3) := by decide +kernel
theorem D_Search_opens_49 : decode cX7_opens 49 = .ok (.lload_n 3, 1) := by decide +kernel
theorem D_Search_opens_50 : decode cX7_opens 50 = .ok (.ldc2_w 199, 3) := by decide +kernel
theorem D_Search_opens_53 : decode cX7_opens 53 = .ok (.lcmp, 1) := by decide +kernel
theorem D_Search_opens_54 : decode cX7_opens 54 = .ok (.ifCond .eq (7), 3) := by decide +kernel
theorem D_Search_opens_57 : decode cX7_opens 57 = .ok (.iconst (1), 1) := by decide +kernel
theorem D_Search_opens_58 : decode cX7_opens 58 = .ok (.goto (4), 3) := by decide +kernel
theorem D_Search_opens_61 : decode cX7_opens 61 = .ok (.iconst (0), 1) := by decide +kernel
theorem D_Search_opens_62 : decode cX7_opens 62 = .ok (.ireturn, 1) := by decide +kernel
def K_Search_opens : SC := (cX7_opens, "TwoLevels$Search", 5, 2, false, [], NoQ)
def d_Search_opens : MD Int32 := mth zz 5 (sq (sJ1 3 (kV 3 d_Fit_spell (eh2 (aR (.object "TwoLevels$Fit")) (eh1 (gR 8 3) (lR 0)) (eh1 (gI 4 2) (lR 1))) [vR (eh2 (aR (.array .int)) (eh1 (gR 1 1) (lR 2)) (eC (nI 0)))]))
 (rtn (eIf (eh1 z_ne (kV 1 d_Choice_isToken (lR 2) [vI (eC (nI 0))])) (eIf (eh2 j_eq (eh2 aJ (eh1 (gR 8 2) (lR 0)) (eh1 (gI 4 4) (lR 1))) (lJ 3)) (eC (nI 1)) (eC (nI 0))) (eIf (eh2 j_ne (lJ 3) (eC (-1))) (eC (nI 1)) (eC (nI 0))))))
theorem m_Search_opens : MJ 2 [] yX7_opens (some .boolean) eI (d_Search_opens) := MJ_of (K := K_Search_opens) (ri := .ireturn) (n1 := 0) (n2 := 0) (n3 := 0)
 (SJ_sq (p0 := 0) (p1 := 19) (nN := 0) (nB := 0) (nC := 0) (SJ_lstore_n (i := 3) (j := 3) (p0 := 0) (p1 := 18) (EJ_callV (t := 3) (c := 2) (r := (RX2, TX2, 12)) (p0 := 0) (p1 := 9) (p2 := 15) (EJ_aald (p0 := 0) (p1 := 4) (p2 := 8) (EJ_getR (t := 8) (c := 7) (kf := 3) (r := (RX7, TX7, 11)) (p0 := 0) (p1 := 1) (EJ_aload_n (j := 0) (i := 0) (pc := 0) D_Search_opens_0 rfl) D_Search_opens_1 ⟨rfl, rfl, by decide, q_231⟩ (fun _ _ => rfl)) (EJ_getI (t := 4) (c := 3) (kf := 2) (r := (RX3, TX3, 11)) (p0 := 4) (p1 := 5) (EJ_aload_n (j := 1) (i := 1) (pc := 4) D_Search_opens_4 rfl) D_Search_opens_5 ⟨rfl, rfl, by decide, q_795⟩ (fun _ _ => rfl)) D_Search_opens_8 (Or.inl ⟨_, rfl⟩)) (AJ_R (p0 := 9) (p1 := 15) (p2 := 15) (EJ_aald (p0 := 9) (p1 := 13) (p2 := 14) (EJ_getR (t := 1) (c := 0) (kf := 1) (r := (RX0, TX0, 10)) (p0 := 9) (p1 := 10) (EJ_aload_n (j := 2) (i := 2) (pc := 9) D_Search_opens_9 rfl) D_Search_opens_10 ⟨rfl, rfl, by decide, q_421⟩ (fun _ _ => rfl)) (EJ_iconst (n := 0) (v := (nI 0)) (pc := 13) D_Search_opens_13 (by decide +kernel)) D_Search_opens_14 (Or.inr ⟨_, rfl⟩)) AJ_nil) m_Fit_spell E1_J D_Search_opens_15 rfl rfl rfl q_846 q_847 q_848 q_95 ⟨by decide +kernel, by decide +kernel, by decide +kernel⟩ (by decide) (show 1 + 1 ≤ 2 from by decide) (fun _ h => absurd h List.not_mem_nil)) D_Search_opens_18 rfl)
 (SJ_ret (p0 := 19) (p1 := 62) (EJ_if (p0 := 19) (pT := 27) (pF := 49) (pE := 62) (p1 := 62) (CZ_ne' (off := 25) (tgt := 49) (p0 := 19) (p1 := 24) (EJ_callV (t := 1) (c := 0) (r := (RX0, TX0, 10)) (p0 := 19) (p1 := 20) (p2 := 21) (EJ_aload_n (j := 2) (i := 2) (pc := 19) D_Search_opens_19 rfl) (AJ_I (p0 := 20) (p1 := 21) (p2 := 21) (EJ_iconst (n := 0) (v := (nI 0)) (pc := 20) D_Search_opens_20 (by decide +kernel)) AJ_nil) m_Choice_isToken E1_I D_Search_opens_21 rfl rfl rfl q_842 q_843 q_844 q_103 ⟨by decide +kernel, by decide +kernel, by decide +kernel⟩ (by decide) (show 1 + 1 ≤ 2 from by decide) (fun _ h => absurd h List.not_mem_nil)) D_Search_opens_24 rfl) (EJ_if (p0 := 27) (pT := 41) (pF := 45) (pE := 42) (p1 := 62) (CL_eq' (off := 7) (tgt := 45) (p0 := 27) (p1 := 36) (p2 := 37) (EJ_lald (p0 := 27) (p1 := 31) (p2 := 35) (EJ_getR (t := 8) (c := 7) (kf := 2) (r := (RX7, TX7, 11)) (p0 := 27) (p1 := 28) (EJ_aload_n (j := 0) (i := 0) (pc := 27) D_Search_opens_27 rfl) D_Search_opens_28 ⟨rfl, rfl, by decide, q_230⟩ (fun _ _ => rfl)) (EJ_getI (t := 4) (c := 3) (kf := 4) (r := (RX3, TX3, 11)) (p0 := 31) (p1 := 32) (EJ_aload_n (j := 1) (i := 1) (pc := 31) D_Search_opens_31 rfl) D_Search_opens_32 ⟨rfl, rfl, by decide, q_799⟩ (fun _ _ => rfl)) D_Search_opens_35) (EJ_lload_n (j := 3) (i := 3) (pc := 36) D_Search_opens_36 rfl) D_Search_opens_37 D_Search_opens_38 rfl) (EJ_iconst (n := 1) (v := (nI 1)) (pc := 41) D_Search_opens_41 (by decide +kernel)) (Lead.goto (K := K_Search_opens) (pc := 42) (tgt := 62) D_Search_opens_42 rfl) (EJ_post (EJ_iconst (n := 0) (v := (nI 0)) (pc := 45) D_Search_opens_45 (by decide +kernel)) (Lead.goto (K := K_Search_opens) (pc := 46) (tgt := 62) D_Search_opens_46 rfl))) Lead.rf (EJ_if (p0 := 49) (pT := 57) (pF := 61) (pE := 58) (p1 := 62) (CL_ne' (off := 7) (tgt := 61) (p0 := 49) (p1 := 50) (p2 := 53) (EJ_lload_n (j := 3) (i := 3) (pc := 49) D_Search_opens_49 rfl) (EJ_ldc2 (i := 199) (v := (-1)) (pc := 50) D_Search_opens_50 q_851) D_Search_opens_53 D_Search_opens_54 rfl) (EJ_iconst (n := 1) (v := (nI 1)) (pc := 57) D_Search_opens_57 (by decide +kernel)) (Lead.goto (K := K_Search_opens) (pc := 58) (tgt := 62) D_Search_opens_58 rfl) (EJ_iconst (n := 0) (v := (nI 0)) (pc := 61) D_Search_opens_61 (by decide +kernel)))) D_Search_opens_62))
 RTm_bool q_854 (by decide +kernel) rfl (fun h => by cases h) (show 5 ≤ 40 from by decide) (fun _ => trivial)
theorem D_Search_ask_0 : decode cX7_ask 0 = .ok (.aload_n 0, 1) := by decide +kernel
theorem D_Search_ask_1 : decode cX7_ask 1 = .ok (.getfield 43, 3) := by decide +kernel
theorem D_Search_ask_4 : decode cX7_ask 4 = .ok (.sipush (500), 3) := by decide +kernel
theorem D_Search_ask_7 : decode cX7_ask 7 = .ok (.if_icmp .eq (13), 3) := by decide +kernel
theorem D_Search_ask_10 : decode cX7_ask 10 = .ok (.aload_n 0, 1) := by decide +kernel
theorem D_Search_ask_11 : decode cX7_ask 11 = .ok (.getfield 55, 3) := by decide +kernel
theorem D_Search_ask_14 : decode cX7_ask 14 = .ok (.sipush (500), 3) := by decide +kernel
theorem D_Search_ask_17 : decode cX7_ask 17 = .ok (.if_icmp .ne (10), 3) := by decide +kernel
theorem D_Search_ask_20 : decode cX7_ask 20 = .ok (.aload_n 0, 1) := by decide +kernel
theorem D_Search_ask_21 : decode cX7_ask 21 = .ok (.iconst (1), 1) := by decide +kernel
theorem D_Search_ask_22 : decode cX7_ask 22 = .ok (.putfield 39, 3) := by decide +kernel
theorem D_Search_ask_25 : decode cX7_ask 25 = .ok (.iconst (0), 1) := by decide +kernel
theorem D_Search_ask_26 : decode cX7_ask 26 = .ok (.ireturn, 1) := by decide +kernel
theorem D_Search_ask_27 : decode cX7_ask 27 = .ok (.aload_n 0, 1) := by decide +kernel
theorem D_Search_ask_28 : decode cX7_ask 28 = .ok (.dup, 1) := by decide +kernel
theorem D_Search_ask_29 : decode cX7_ask 29 = .ok (.getfield 43, 3) := by decide +kernel
theorem D_Search_ask_32 : decode cX7_ask 32 = .ok (.iconst (1), 1) := by decide +kernel
theorem D_Search_ask_33 : decode cX7_ask 33 = .ok (.iadd, 1) := by decide +kernel
theorem D_Search_ask_34 : decode cX7_ask 34 = .ok (.putfield 43, 3) := by decide +kernel
theorem D_Search_ask_37 : decode cX7_ask 37 = .ok (.aload_n 0, 1) := by decide +kernel
theorem D_Search_ask_38 : decode cX7_ask 38 = .ok (.aload_n 0, 1) := by decide +kernel
theorem D_Search_ask_39 : decode cX7_ask 39 = .ok (.getfield 52, 3) := by decide +kernel
theorem D_Search_ask_42 : decode cX7_ask 42 = .ok (.iload_n 1, 1) := by decide +kernel
theorem D_Search_ask_43 : decode cX7_ask 43 = .ok (.invokestatic 81, 3) := by decide +kernel
theorem D_Search_ask_46 : decode cX7_ask 46 = .ok (.putfield 52, 3) := by decide +kernel
theorem D_Search_ask_49 : decode cX7_ask 49 = .ok (.iload_n 1, 1) := by decide +kernel
theorem D_Search_ask_50 : decode cX7_ask 50 = .ok (.aload_n 0, 1) := by decide +kernel
theorem D_Search_ask_51 : decode cX7_ask 51 = .ok (.getfield 35, 3) := by decide +kernel
theorem D_Search_ask_54 : decode cX7_ask 54 = .ok (.if_icmp .lt (15), 3) := by decide +kernel
theorem D_Search_ask_57 : decode cX7_ask 57 = .ok (.aload_n 0, 1) := by decide +kernel
theorem D_Search_ask_58 : decode cX7_ask 58 = .ok (.dup, 1) := by decide +kernel
theorem D_Search_ask_59 : decode cX7_ask 59 = .ok (.getfield 49, 3) := by decide +kernel
theorem D_Search_ask_62 : decode cX7_ask 62 = .ok (.iconst (1), 1) := by decide +kernel
theorem D_Search_ask_63 : decode cX7_ask 63 = .ok (.iadd, 1) := by decide +kernel
theorem D_Search_ask_64 : decode cX7_ask 64 = .ok (.putfield 49, 3) := by decide +kernel
theorem D_Search_ask_67 : decode cX7_ask 67 = .ok (.iconst (0), 1) := by decide +kernel
theorem D_Search_ask_68 : decode cX7_ask 68 = .ok (.ireturn, 1) := by decide +kernel
theorem D_Search_ask_69 : decode cX7_ask 69 = .ok (.aload_n 0, 1) := by decide +kernel
theorem D_Search_ask_70 : decode cX7_ask 70 = .ok (.iload_n 1, 1) := by decide +kernel
theorem D_Search_ask_71 : decode cX7_ask 71 = .ok (.lload_n 2, 1) := by decide +kernel
theorem D_Search_ask_72 : decode cX7_ask 72 = .ok (.iload 4, 2) := by decide +kernel
theorem D_Search_ask_74 : decode cX7_ask 74 = .ok (.iload 5, 2) := by decide +kernel
theorem D_Search_ask_76 : decode cX7_ask 76 = .ok (.iload 6, 2) := by decide +kernel
theorem D_Search_ask_78 : decode cX7_ask 78 = .ok (.invokevirtual 84, 3) := by decide +kernel
theorem D_Search_ask_81 : decode cX7_ask 81 = .ok (.astore 7, 2) := by decide +kernel
theorem D_Search_ask_83 : decode cX7_ask 83 = .ok (.aload_n 0, 1) := by decide +kernel
theorem D_Search_ask_84 : decode cX7_ask 84 = .ok (.getfield 25, 3) := by decide +kernel
theorem D_Search_ask_87 : decode cX7_ask 87 = .ok (.iload_n 1, 1) := by decide +kernel
theorem D_Search_ask_88 : decode cX7_ask 88 = .ok (.aaload, 1) := by decide +kernel
theorem D_Search_ask_89 : decode cX7_ask 89 = .ok (.astore 8, 2) := by decide +kernel
theorem D_Search_ask_91 : decode cX7_ask 91 = .ok (.aload 8, 2) := by decide +kernel
theorem D_Search_ask_93 : decode cX7_ask 93 = .ok (.aload_n 0, 1) := by decide +kernel
theorem D_Search_ask_94 : decode cX7_ask 94 = .ok (.getfield 21, 3) := by decide +kernel
theorem D_Search_ask_97 : decode cX7_ask 97 = .ok (.getfield 88, 3) := by decide +kernel
theorem D_Search_ask_100 : decode cX7_ask 100 = .ok (.lload_n 2, 1) := by decide +kernel
theorem D_Search_ask_101 : decode cX7_ask 101 = .ok (.invokevirtual 94, 3) := by decide +kernel
theorem D_Search_ask_104 : decode cX7_ask 104 = .ok (.iconst (0), 1) := by decide +kernel
theorem D_Search_ask_105 : decode cX7_ask 105 = .ok (.istore 9, 2) := by decide +kernel
theorem D_Search_ask_107 : decode cX7_ask 107 = .ok (.iconst (0), 1) := by decide +kernel
theorem D_Search_ask_108 : decode cX7_ask 108 = .ok (.istore 10, 2) := by decide +kernel
theorem D_Search_ask_110 : decode cX7_ask 110 = .ok (.iload 10, 2) := by decide +kernel
theorem D_Search_ask_112 : decode cX7_ask 112 = .ok (.aload_n 0, 1) := by decide +kernel
theorem D_Search_ask_113 : decode cX7_ask 113 = .ok (.getfield 21, 3) := by decide +kernel
theorem D_Search_ask_116 : decode cX7_ask 116 = .ok (.getfield 100, 3) := by decide +kernel
theorem D_Search_ask_119 : decode cX7_ask 119 = .ok (.arraylength, 1) := by decide +kernel
theorem D_Search_ask_120 : decode cX7_ask 120 = .ok (.if_icmp .ge (96), 3) := by decide +kernel
theorem D_Search_ask_123 : decode cX7_ask 123 = .ok (.aload_n 0, 1) := by decide +kernel
theorem D_Search_ask_124 : decode cX7_ask 124 = .ok (.getfield 39, 3) := by decide +kernel
theorem D_Search_ask_127 : decode cX7_ask 127 = .ok (.ifCond .ne (89), 3) := by decide +kernel
theorem D_Search_ask_130 : decode cX7_ask 130 = .ok (.aload_n 0, 1) := by decide +kernel
theorem D_Search_ask_131 : decode cX7_ask 131 = .ok (.getfield 21, 3) := by decide +kernel
theorem D_Search_ask_134 : decode cX7_ask 134 = .ok (.getfield 100, 3) := by decide +kernel
theorem D_Search_ask_137 : decode cX7_ask 137 = .ok (.iload 10, 2) := by decide +kernel
theorem D_Search_ask_139 : decode cX7_ask 139 = .ok (.aaload, 1) := by decide +kernel
theorem D_Search_ask_140 : decode cX7_ask 140 = .ok (.astore 11, 2) := by decide +kernel
theorem D_Search_ask_142 : decode cX7_ask 142 = .ok (.aload 7, 2) := by decide +kernel
theorem D_Search_ask_144 : decode cX7_ask 144 = .ok (.iload 10, 2) := by decide +kernel
theorem D_Search_ask_146 : decode cX7_ask 146 = .ok (.putfield 104, 3) := by decide +kernel
theorem D_Search_ask_149 : decode cX7_ask 149 = .ok (.aload 8, 2) := by decide +kernel
theorem D_Search_ask_151 : decode cX7_ask 151 = .ok (.aload 11, 2) := by decide +kernel
theorem D_Search_ask_153 : decode cX7_ask 153 = .ok (.invokevirtual 107, 3) := by decide +kernel
theorem D_Search_ask_156 : decode cX7_ask 156 = .ok (.iconst (0), 1) := by decide +kernel
theorem D_Search_ask_157 : decode cX7_ask 157 = .ok (.istore 12, 2) := by decide +kernel
theorem D_Search_ask_159 : decode cX7_ask 159 = .ok (.aload_n 0, 1) := by decide +kernel
theorem D_Search_ask_160 : decode cX7_ask 160 = .ok (.getfield 39, 3) := by decide +kernel
theorem D_Search_ask_163 : decode cX7_ask 163 = .ok (.ifCond .ne (47), 3) := by decide +kernel
theorem D_Search_ask_166 : decode cX7_ask 166 = .ok (.iload 12, 2) := by decide +kernel
theorem D_Search_ask_168 : decode cX7_ask 168 = .ok (.ldc 111, 2) := by decide +kernel
theorem D_Search_ask_170 : decode cX7_ask 170 = .ok (.if_icmp .ge (40), 3) := by decide +kernel
theorem D_Search_ask_173 : decode cX7_ask 173 = .ok (.aload 8, 2) := by decide +kernel
theorem D_Search_ask_175 : decode cX7_ask 175 = .ok (.invokevirtual 112, 3) := by decide +kernel
theorem D_Search_ask_178 : decode cX7_ask 178 = .ok (.ifCond .eq (32), 3) := by decide +kernel
theorem D_Search_ask_181 : decode cX7_ask 181 = .ok (.iconst (1), 1) := by decide +kernel
theorem D_Search_ask_182 : decode cX7_ask 182 = .ok (.istore 9, 2) := by decide +kernel
theorem D_Search_ask_184 : decode cX7_ask 184 = .ok (.aload 7, 2) := by decide +kernel
theorem D_Search_ask_186 : decode cX7_ask 186 = .ok (.iload 12, 2) := by decide +kernel
theorem D_Search_ask_188 : decode cX7_ask 188 = .ok (.putfield 116, 3) := by decide +kernel
theorem D_Search_ask_191 : decode cX7_ask 191 = .ok (.aload_n 0, 1) := by decide +kernel
theorem D_Search_ask_192 : decode cX7_ask 192 = .ok (.aload 7, 2) := by decide +kernel
theorem D_Search_ask_194 : decode cX7_ask 194 = .ok (.aload 11, 2) := by decide +kernel
theorem D_Search_ask_196 : decode cX7_ask 196 = .ok (.invokevirtual 119, 3) := by decide +kernel
theorem D_Search_ask_199 : decode cX7_ask 199 = .ok (.ifCond .eq (5), 3) := by decide +kernel
theorem D_Search_ask_202 : decode cX7_ask 202 = .ok (.iconst (1), 1) := by decide +kernel
theorem D_Search_ask_203 : decode cX7_ask 203 = .ok (.ireturn, 1) := by decide +kernel
theorem D_Search_ask_204 : decode cX7_ask 204 = .ok (.iinc 12 (1), 3) := by decide +kernel
theorem D_Search_ask_207 : decode cX7_ask 207 = .ok (.goto (-48), 3) := by decide +kernel
theorem D_Search_ask_210 : decode cX7_ask 210 = .ok (.iinc 10 (1), 3) := by decide +kernel
theorem D_Search_ask_213 : decode cX7_ask 213 = .ok (.goto (-103), 3) := by decide +kernel
theorem D_Search_ask_216 : decode cX7_ask 216 = .ok (.aload_n 0, 1) := by decide +kernel
theorem D_Search_ask_217 : decode cX7_ask 217 = .ok (.dup, 1) := by decide +kernel
theorem D_Search_ask_218 : decode cX7_ask 218 = .ok (.getfield 46, 3) := by decide +kernel
theorem D_Search_ask_221 : decode cX7_ask 221 = .ok (.iload 9, 2) := by decide +kernel
theorem D_Search_ask_223 : decode cX7_ask 223 = .ok (.ifCond .eq (7), 3) := by decide +kernel
theorem D_Search_ask_226 : decode cX7_ask 226 = .ok (.iconst (0), 1) := by decide +kernel
theorem D_Search_ask_227 : decode cX7_ask 227 = .ok (.goto (4), 3) := by decide +kernel
theorem D_Search_ask_230 : decode cX7_ask 230 = .ok (.iconst (1), 1) := by decide +kernel
theorem D_Search_ask_231 : decode cX7_ask 231 = .ok (.iadd, 1) := by decide +kernel
theorem D_Search_ask_232 : decode cX7_ask 232 = .ok (.putfield 46, 3) := by decide +kernel
theorem D_Search_ask_235 : decode cX7_ask 235 = .ok (.aload_n 0, 1) := by decide +kernel
theorem D_Search_ask_236 : decode cX7_ask 236 = .ok (.aload 7, 2) := by decide +kernel
theorem D_Search_ask_238 : decode cX7_ask 238 = .ok (.getfield 123, 3) := by decide +kernel
theorem D_Search_ask_241 : decode cX7_ask 241 = .ok (.putfield 55, 3) := by decide +kernel
theorem D_Search_ask_244 : decode cX7_ask 244 = .ok (.iconst (0), 1) := by decide +kernel
theorem D_Search_ask_245 : decode cX7_ask 245 = .ok (.ireturn, 1) := by decide +kernel
def K_Search_ask (n : Nat) : SC := (cX7_ask, "TwoLevels$Search", 13, 4 + n + 1, false, [3, 4, 8, 43, 44, 45, 46, 47, 48, 49, 51], NoQ)
def b_Search_ask (R : Nat → MD Int32) : MD Int32 := mth zz 13 (sq (sIf (cOr (eh2 c_eq (eh1 (gI 8 5) (lR 0)) (eC (nI 500))) (eh2 c_eq (eh1 (gI 8 10) (lR 0)) (eC (nI 500)))) (sq (sh2 (pI true 8 4) (lR 0) (eC (nI 1)))
 (rtn (eC (nI 0)))) sk)
 (sq (su2 (gI 8 5) (uF false 8 5 (fun x y => x + y)) (lR 0) (eC (nI 1)))
 (sq (sh2 (pI false 8 8) (lR 0) (kS d_Math_max [vI (eh1 (gI 8 8) (lR 0)), vI (lI 1)]))
 (sq (sIf (eh2 c_ge (lI 1) (eh1 (gI 8 1) (lR 0))) (sq (su2 (gI 8 7) (uF false 8 7 (fun x y => x + y)) (lR 0) (eC (nI 1)))
 (rtn (eC (nI 0)))) sk)
 (sq (sR1 7 (kV 8 d_Search_openNode (lR 0) [vI (lI 1), vJ (lJ 2), vI (lI 4), vI (lI 5), vI (lI 6)]))
 (sq (sR1 8 (eh2 (aR (.object "TwoLevels$Fit")) (eh1 (gR 8 3) (lR 0)) (lI 1)))
 (sq (sE (kV 3 d_Fit_load (lR 8) [vR (eh1 (gR 10 0) (eh1 (gR 8 0) (lR 0))), vJ (lJ 2)]))
 (sq (sI1 9 (eC (nI 0)))
 (sq (sq (sI1 10 (eC (nI 0)))
 (loop (cAnd (eh2 c_lt (lI 10) (eh1 aL (eh1 (gR 10 1) (eh1 (gR 8 0) (lR 0))))) (cNot (eh1 z_ne (eh1 (gI 8 4) (lR 0)))))
 (sq (sR1 11 (eh2 (aR (.object "TwoLevels$Rule")) (eh1 (gR 10 1) (eh1 (gR 8 0) (lR 0))) (lI 10)))
 (sq (sh2 (pI false 4 6) (lR 7) (lI 10))
 (sq (sE (kV 3 d_Fit_begin (lR 8) [vR (lR 11)]))
 (sq (sI1 12 (eC (nI 0)))
 (loop (cAnd (cAnd (cNot (eh1 z_ne (eh1 (gI 8 4) (lR 0)))) (eh2 c_lt (lI 12) (eC (nI 1000000)))) (eh1 z_ne (kV 3 d_Fit_next (lR 8) [])))
 (sq (sI1 9 (eC (nI 1)))
 (sq (sh2 (pI false 4 7) (lR 7) (lI 12))
 (sIf (eh1 z_ne (kV 8 (R 1) (lR 0) [vR (lR 7), vR (lR 11)])) (rtn (eC (nI 1))) sk)))
 (sInc 12 (nI 1)))))))
 (sInc 10 (nI 1))))
 (sq (su2 (gI 8 6) (uF false 8 6 (fun x y => x + y)) (lR 0) (eIf (eh1 z_ne (lI 9)) (eC (nI 0)) (eC (nI 1))))
 (sq (sh2 (pI false 8 10) (lR 0) (eh1 (gI 4 0) (lR 7)))
 (rtn (eC (nI 0))))))))))))))
theorem s_Search_ask (n : Nat) (R : Nat → MD Int32) (h1 : MJ (4 + n) [3, 4, 8, 43, 44, 45, 46, 47, 48, 49, 51] yX7_triesChoices (some .boolean) eI (R 1)) : MJ (4 + n + 1) [3, 4, 8, 43, 44, 45, 46, 47, 48, 49, 51] yX7_ask (some .boolean) eI (b_Search_ask R) := MJ_of (K := K_Search_ask n) (ri := .ireturn) (n1 := 0) (n2 := 0) (n3 := 0)
 (SJ_sq (p0 := 0) (p1 := 27) (nN := 0) (nB := 0) (nC := 0) (SJ_if (p0 := 0) (pT := 20) (pF := 27) (nN := 27) (nB := 0) (nC := 0) (CJ_or (p0 := 0) (pM := 10) (pT := 20) (pF := 27) (CJ_eq (off := 13) (tgt := 20) (p0 := 0) (p1 := 4) (p2 := 7) (EJ_getI (t := 8) (c := 7) (kf := 5) (r := (RX7, TX7, 11)) (p0 := 0) (p1 := 1) (EJ_aload_n (j := 0) (i := 0) (pc := 0) D_Search_ask_0 rfl) D_Search_ask_1 ⟨rfl, rfl, by decide, q_233⟩ (fun _ _ => rfl)) (EJ_sipush (n := 500) (v := (nI 500)) (pc := 4) D_Search_ask_4 (by decide +kernel)) D_Search_ask_7 rfl) (CJ_eq' (off := 10) (tgt := 27) (p0 := 10) (p1 := 14) (p2 := 17) (EJ_getI (t := 8) (c := 7) (kf := 10) (r := (RX7, TX7, 11)) (p0 := 10) (p1 := 11) (EJ_aload_n (j := 0) (i := 0) (pc := 10) D_Search_ask_10 rfl) D_Search_ask_11 ⟨rfl, rfl, by decide, q_242⟩ (fun _ _ => rfl)) (EJ_sipush (n := 500) (v := (nI 500)) (pc := 14) D_Search_ask_14 (by decide +kernel)) D_Search_ask_17 rfl)) (SJ_sq (p0 := 20) (p1 := 25) (nN := 27) (nB := 0) (nC := 0) (SJ_putI (z := true) (t := 8) (c := 7) (kf := 4) (r := (RX7, TX7, 11)) (p0 := 20) (p1 := 21) (p2 := 22) (EJ_aload_n (j := 0) (i := 0) (pc := 20) D_Search_ask_20 rfl) (EJ_iconst (n := 1) (v := (nI 1)) (pc := 21) D_Search_ask_21 (by decide +kernel)) D_Search_ask_22 ⟨rfl, rfl, by decide, q_232⟩ (Or.inl rfl) (okZ_bool rfl) (fun _ _ => rfl) (show (8 : Nat) ∈ ([3, 4, 8, 43, 44, 45, 46, 47, 48, 49, 51] : List Nat) from by decide))
 (SJ_ret (p0 := 25) (p1 := 26) (EJ_iconst (n := 0) (v := (nI 0)) (pc := 25) D_Search_ask_25 (by decide +kernel)) D_Search_ask_26)) SJ_sk)
 (SJ_sq (p0 := 27) (p1 := 37) (nN := 0) (nB := 0) (nC := 0) (SJ_upF (z := false) (t := 8) (c := 7) (kf := 5) (r := (RX7, TX7, 11)) (f := (fun x y => x + y)) (p0 := 27) (p1 := 28) (p3 := 33) (EJ_aload_n (j := 0) (i := 0) (pc := 27) D_Search_ask_27 rfl) D_Search_ask_28 D_Search_ask_29 (EJ_iconst (n := 1) (v := (nI 1)) (pc := 32) D_Search_ask_32 (by decide +kernel)) (Op2_iadd D_Search_ask_33) D_Search_ask_34 ⟨rfl, rfl, by decide, q_233⟩ ⟨rfl, rfl, by decide, q_233⟩ (Or.inl rfl) (fun _ _ => ⟨rfl, rfl⟩) (fun _ _ => rfl) (show (8 : Nat) ∈ ([3, 4, 8, 43, 44, 45, 46, 47, 48, 49, 51] : List Nat) from by decide))
 (SJ_sq (p0 := 37) (p1 := 49) (nN := 0) (nB := 0) (nC := 0) (SJ_putI (z := false) (t := 8) (c := 7) (kf := 8) (r := (RX7, TX7, 11)) (p0 := 37) (p1 := 38) (p2 := 46) (EJ_aload_n (j := 0) (i := 0) (pc := 37) D_Search_ask_37 rfl) (EJ_callS (p0 := 38) (p1 := 43) (AJ_I (p0 := 38) (p1 := 42) (p2 := 43) (EJ_getI (t := 8) (c := 7) (kf := 8) (r := (RX7, TX7, 11)) (p0 := 38) (p1 := 39) (EJ_aload_n (j := 0) (i := 0) (pc := 38) D_Search_ask_38 rfl) D_Search_ask_39 ⟨rfl, rfl, by decide, q_239⟩ (fun _ _ => rfl)) (AJ_I (p0 := 42) (p1 := 43) (p2 := 43) (EJ_iload_n (j := 1) (i := 1) (pc := 42) D_Search_ask_42 rfl) AJ_nil)) m_Math_max E1_I D_Search_ask_43 q_780 q_781 q_98 ⟨by decide +kernel, by decide +kernel, by decide +kernel⟩ (by decide) (show 1 + 1 ≤ 4 + n + 1 from by omega) (fun _ h => absurd h List.not_mem_nil)) D_Search_ask_46 ⟨rfl, rfl, by decide, q_239⟩ (Or.inl rfl) (fun _ _ => ⟨rfl, rfl⟩) (fun _ _ => rfl) (show (8 : Nat) ∈ ([3, 4, 8, 43, 44, 45, 46, 47, 48, 49, 51] : List Nat) from by decide))
 (SJ_sq (p0 := 49) (p1 := 69) (nN := 0) (nB := 0) (nC := 0) (SJ_if (p0 := 49) (pT := 57) (pF := 69) (nN := 69) (nB := 0) (nC := 0) (CJ_ge' (off := 15) (tgt := 69) (p0 := 49) (p1 := 50) (p2 := 54) (EJ_iload_n (j := 1) (i := 1) (pc := 49) D_Search_ask_49 rfl) (EJ_getI (t := 8) (c := 7) (kf := 1) (r := (RX7, TX7, 11)) (p0 := 50) (p1 := 51) (EJ_aload_n (j := 0) (i := 0) (pc := 50) D_Search_ask_50 rfl) D_Search_ask_51 ⟨rfl, rfl, by decide, q_229⟩ (fun _ _ => rfl)) D_Search_ask_54 rfl) (SJ_sq (p0 := 57) (p1 := 67) (nN := 69) (nB := 0) (nC := 0) (SJ_upF (z := false) (t := 8) (c := 7) (kf := 7) (r := (RX7, TX7, 11)) (f := (fun x y => x + y)) (p0 := 57) (p1 := 58) (p3 := 63) (EJ_aload_n (j := 0) (i := 0) (pc := 57) D_Search_ask_57 rfl) D_Search_ask_58 D_Search_ask_59 (EJ_iconst (n := 1) (v := (nI 1)) (pc := 62) D_Search_ask_62 (by decide +kernel)) (Op2_iadd D_Search_ask_63) D_Search_ask_64 ⟨rfl, rfl, by decide, q_237⟩ ⟨rfl, rfl, by decide, q_237⟩ (Or.inl rfl) (fun _ _ => ⟨rfl, rfl⟩) (fun _ _ => rfl) (show (8 : Nat) ∈ ([3, 4, 8, 43, 44, 45, 46, 47, 48, 49, 51] : List Nat) from by decide))
 (SJ_ret (p0 := 67) (p1 := 68) (EJ_iconst (n := 0) (v := (nI 0)) (pc := 67) D_Search_ask_67 (by decide +kernel)) D_Search_ask_68)) SJ_sk)
 (SJ_sq (p0 := 69) (p1 := 83) (nN := 0) (nB := 0) (nC := 0) (SJ_astore (i := 7) (p0 := 69) (p1 := 81) (EJ_callV (t := 8) (c := 7) (r := (RX7, TX7, 11)) (p0 := 69) (p1 := 70) (p2 := 78) (EJ_aload_n (j := 0) (i := 0) (pc := 69) D_Search_ask_69 rfl) (AJ_I (p0 := 70) (p1 := 71) (p2 := 78) (EJ_iload_n (j := 1) (i := 1) (pc := 70) D_Search_ask_70 rfl) (AJ_J (p0 := 71) (p1 := 72) (p2 := 78) (EJ_lload_n (j := 2) (i := 2) (pc := 71) D_Search_ask_71 rfl) (AJ_I (p0 := 72) (p1 := 74) (p2 := 78) (EJ_iload (i := 4) (pc := 72) D_Search_ask_72) (AJ_I (p0 := 74) (p1 := 76) (p2 := 78) (EJ_iload (i := 5) (pc := 74) D_Search_ask_74) (AJ_I (p0 := 76) (p1 := 78) (p2 := 78) (EJ_iload (i := 6) (pc := 76) D_Search_ask_76) AJ_nil))))) m_Search_openNode E1_R D_Search_ask_78 rfl rfl rfl q_783 q_784 q_25 q_96 ⟨by decide +kernel, by decide +kernel, by decide +kernel⟩ (by decide) (show 2 + 1 ≤ 4 + n + 1 from by omega) (show ∀ x_ ∈ ([4, 8, 51] : List Nat), x_ ∈ ([3, 4, 8, 43, 44, 45, 46, 47, 48, 49, 51] : List Nat) from by decide)) D_Search_ask_81)
 (SJ_sq (p0 := 83) (p1 := 91) (nN := 0) (nB := 0) (nC := 0) (SJ_astore (i := 8) (p0 := 83) (p1 := 89) (EJ_aald (p0 := 83) (p1 := 87) (p2 := 88) (EJ_getR (t := 8) (c := 7) (kf := 3) (r := (RX7, TX7, 11)) (p0 := 83) (p1 := 84) (EJ_aload_n (j := 0) (i := 0) (pc := 83) D_Search_ask_83 rfl) D_Search_ask_84 ⟨rfl, rfl, by decide, q_231⟩ (fun _ _ => rfl)) (EJ_iload_n (j := 1) (i := 1) (pc := 87) D_Search_ask_87 rfl) D_Search_ask_88 (Or.inl ⟨_, rfl⟩)) D_Search_ask_89)
 (SJ_sq (p0 := 91) (p1 := 104) (nN := 0) (nB := 0) (nC := 0) (SJ_void (p0 := 91) (p1 := 104) (EJ_callV (t := 3) (c := 2) (r := (RX2, TX2, 12)) (p0 := 91) (p1 := 93) (p2 := 101) (EJ_aload (i := 8) (pc := 91) D_Search_ask_91) (AJ_R (p0 := 93) (p1 := 100) (p2 := 101) (EJ_getR (t := 10) (c := 9) (kf := 0) (r := (RX9, TX9, 4)) (p0 := 93) (p1 := 97) (EJ_getR (t := 8) (c := 7) (kf := 0) (r := (RX7, TX7, 11)) (p0 := 93) (p1 := 94) (EJ_aload_n (j := 0) (i := 0) (pc := 93) D_Search_ask_93 rfl) D_Search_ask_94 ⟨rfl, rfl, by decide, q_228⟩ (fun _ _ => rfl)) D_Search_ask_97 ⟨rfl, rfl, by decide, q_175⟩ (fun _ _ => rfl)) (AJ_J (p0 := 100) (p1 := 101) (p2 := 101) (EJ_lload_n (j := 2) (i := 2) (pc := 100) D_Search_ask_100 rfl) AJ_nil)) m_Fit_load E1_U D_Search_ask_101 rfl rfl rfl q_825 q_664 q_665 q_95 ⟨by decide +kernel, by decide +kernel, by decide +kernel⟩ (by decide) (show 2 + 1 ≤ 4 + n + 1 from by omega) (show ∀ x_ ∈ ([3, 43, 44, 46] : List Nat), x_ ∈ ([3, 4, 8, 43, 44, 45, 46, 47, 48, 49, 51] : List Nat) from by decide)))
 (SJ_sq (p0 := 104) (p1 := 107) (nN := 0) (nB := 0) (nC := 0) (SJ_istore (i := 9) (p0 := 104) (p1 := 105) (EJ_iconst (n := 0) (v := (nI 0)) (pc := 104) D_Search_ask_104 (by decide +kernel)) D_Search_ask_105)
 (SJ_sq (p0 := 107) (p1 := 216) (nN := 0) (nB := 0) (nC := 0) (SJ_sq (p0 := 107) (p1 := 110) (nN := 216) (nB := 0) (nC := 0) (SJ_istore (i := 10) (p0 := 107) (p1 := 108) (EJ_iconst (n := 0) (v := (nI 0)) (pc := 107) D_Search_ask_107 (by decide +kernel)) D_Search_ask_108)
 (SJ_loop (p0 := 110) (pB := 130) (pS := 210) (pE := 216) (CJ_and (p0 := 110) (pM := 123) (pT := 130) (pF := 216) (CJ_lt' (off := 96) (tgt := 216) (p0 := 110) (p1 := 112) (p2 := 120) (EJ_iload (i := 10) (pc := 110) D_Search_ask_110) (EJ_alen (p0 := 112) (p1 := 119) (EJ_getR (t := 10) (c := 9) (kf := 1) (r := (RX9, TX9, 4)) (p0 := 112) (p1 := 116) (EJ_getR (t := 8) (c := 7) (kf := 0) (r := (RX7, TX7, 11)) (p0 := 112) (p1 := 113) (EJ_aload_n (j := 0) (i := 0) (pc := 112) D_Search_ask_112 rfl) D_Search_ask_113 ⟨rfl, rfl, by decide, q_228⟩ (fun _ _ => rfl)) D_Search_ask_116 ⟨rfl, rfl, by decide, q_178⟩ (fun _ _ => rfl)) D_Search_ask_119) D_Search_ask_120 rfl) (CJ_not (p0 := 123) (pT := 130) (pF := 216) (CZ_ne (off := 89) (tgt := 216) (p0 := 123) (p1 := 127) (EJ_getI (t := 8) (c := 7) (kf := 4) (r := (RX7, TX7, 11)) (p0 := 123) (p1 := 124) (EJ_aload_n (j := 0) (i := 0) (pc := 123) D_Search_ask_123 rfl) D_Search_ask_124 ⟨rfl, rfl, by decide, q_232⟩ (fun _ _ => rfl)) D_Search_ask_127 rfl)))
 (SJ_sq (p0 := 130) (p1 := 142) (nN := 210) (nB := 216) (nC := 210) (SJ_astore (i := 11) (p0 := 130) (p1 := 140) (EJ_aald (p0 := 130) (p1 := 137) (p2 := 139) (EJ_getR (t := 10) (c := 9) (kf := 1) (r := (RX9, TX9, 4)) (p0 := 130) (p1 := 134) (EJ_getR (t := 8) (c := 7) (kf := 0) (r := (RX7, TX7, 11)) (p0 := 130) (p1 := 131) (EJ_aload_n (j := 0) (i := 0) (pc := 130) D_Search_ask_130 rfl) D_Search_ask_131 ⟨rfl, rfl, by decide, q_228⟩ (fun _ _ => rfl)) D_Search_ask_134 ⟨rfl, rfl, by decide, q_178⟩ (fun _ _ => rfl)) (EJ_iload (i := 10) (pc := 137) D_Search_ask_137) D_Search_ask_139 (Or.inl ⟨_, rfl⟩)) D_Search_ask_140)
 (SJ_sq (p0 := 142) (p1 := 149) (nN := 210) (nB := 216) (nC := 210) (SJ_putI (z := false) (t := 4) (c := 3) (kf := 6) (r := (RX3, TX3, 11)) (p0 := 142) (p1 := 144) (p2 := 146) (EJ_aload (i := 7) (pc := 142) D_Search_ask_142) (EJ_iload (i := 10) (pc := 144) D_Search_ask_144) D_Search_ask_146 ⟨rfl, rfl, by decide, q_803⟩ (Or.inl rfl) (fun _ _ => ⟨rfl, rfl⟩) (fun _ _ => rfl) (show (4 : Nat) ∈ ([3, 4, 8, 43, 44, 45, 46, 47, 48, 49, 51] : List Nat) from by decide))
 (SJ_sq (p0 := 149) (p1 := 156) (nN := 210) (nB := 216) (nC := 210) (SJ_void (p0 := 149) (p1 := 156) (EJ_callV (t := 3) (c := 2) (r := (RX2, TX2, 12)) (p0 := 149) (p1 := 151) (p2 := 153) (EJ_aload (i := 8) (pc := 149) D_Search_ask_149) (AJ_R (p0 := 151) (p1 := 153) (p2 := 153) (EJ_aload (i := 11) (pc := 151) D_Search_ask_151) AJ_nil) m_Fit_begin E1_U D_Search_ask_153 rfl rfl rfl q_826 q_726 q_727 q_95 ⟨by decide +kernel, by decide +kernel, by decide +kernel⟩ (by decide) (show 4 + 1 ≤ 4 + n + 1 from by omega) (show ∀ x_ ∈ ([3, 43, 44, 46] : List Nat), x_ ∈ ([3, 4, 8, 43, 44, 45, 46, 47, 48, 49, 51] : List Nat) from by decide)))
 (SJ_sq (p0 := 156) (p1 := 159) (nN := 210) (nB := 216) (nC := 210) (SJ_istore (i := 12) (p0 := 156) (p1 := 157) (EJ_iconst (n := 0) (v := (nI 0)) (pc := 156) D_Search_ask_156 (by decide +kernel)) D_Search_ask_157)
 (SJ_loop (p0 := 159) (pB := 181) (pS := 204) (pE := 210) (CJ_and (p0 := 159) (pM := 173) (pT := 181) (pF := 210) (CJ_and (p0 := 159) (pM := 166) (pT := 173) (pF := 210) (CJ_not (p0 := 159) (pT := 166) (pF := 210) (CZ_ne (off := 47) (tgt := 210) (p0 := 159) (p1 := 163) (EJ_getI (t := 8) (c := 7) (kf := 4) (r := (RX7, TX7, 11)) (p0 := 159) (p1 := 160) (EJ_aload_n (j := 0) (i := 0) (pc := 159) D_Search_ask_159 rfl) D_Search_ask_160 ⟨rfl, rfl, by decide, q_232⟩ (fun _ _ => rfl)) D_Search_ask_163 rfl)) (CJ_lt' (off := 40) (tgt := 210) (p0 := 166) (p1 := 168) (p2 := 170) (EJ_iload (i := 12) (pc := 166) D_Search_ask_166) (EJ_ldc (i := 111) (v := (nI 1000000)) (pc := 168) D_Search_ask_168 q_827) D_Search_ask_170 rfl)) (CZ_ne' (off := 32) (tgt := 210) (p0 := 173) (p1 := 178) (EJ_callV (t := 3) (c := 2) (r := (RX2, TX2, 12)) (p0 := 173) (p1 := 175) (p2 := 175) (EJ_aload (i := 8) (pc := 173) D_Search_ask_173) AJ_nil m_Fit_next E1_I D_Search_ask_175 rfl rfl rfl q_828 q_731 q_732 q_95 ⟨by decide +kernel, by decide +kernel, by decide +kernel⟩ (by decide) (show 4 + 1 ≤ 4 + n + 1 from by omega) (show ∀ x_ ∈ ([3, 45, 46, 47, 48] : List Nat), x_ ∈ ([3, 4, 8, 43, 44, 45, 46, 47, 48, 49, 51] : List Nat) from by decide)) D_Search_ask_178 rfl))
 (SJ_sq (p0 := 181) (p1 := 184) (nN := 204) (nB := 210) (nC := 204) (SJ_istore (i := 9) (p0 := 181) (p1 := 182) (EJ_iconst (n := 1) (v := (nI 1)) (pc := 181) D_Search_ask_181 (by decide +kernel)) D_Search_ask_182)
 (SJ_sq (p0 := 184) (p1 := 191) (nN := 204) (nB := 210) (nC := 204) (SJ_putI (z := false) (t := 4) (c := 3) (kf := 7) (r := (RX3, TX3, 11)) (p0 := 184) (p1 := 186) (p2 := 188) (EJ_aload (i := 7) (pc := 184) D_Search_ask_184) (EJ_iload (i := 12) (pc := 186) D_Search_ask_186) D_Search_ask_188 ⟨rfl, rfl, by decide, q_805⟩ (Or.inl rfl) (fun _ _ => ⟨rfl, rfl⟩) (fun _ _ => rfl) (show (4 : Nat) ∈ ([3, 4, 8, 43, 44, 45, 46, 47, 48, 49, 51] : List Nat) from by decide))
 (SJ_if (p0 := 191) (pT := 202) (pF := 204) (nN := 204) (nB := 210) (nC := 204) (CZ_ne' (off := 5) (tgt := 204) (p0 := 191) (p1 := 199) (EJ_callV (t := 8) (c := 7) (r := (RX7, TX7, 11)) (p0 := 191) (p1 := 192) (p2 := 196) (EJ_aload_n (j := 0) (i := 0) (pc := 191) D_Search_ask_191 rfl) (AJ_R (p0 := 192) (p1 := 194) (p2 := 196) (EJ_aload (i := 7) (pc := 192) D_Search_ask_192) (AJ_R (p0 := 194) (p1 := 196) (p2 := 196) (EJ_aload (i := 11) (pc := 194) D_Search_ask_194) AJ_nil)) h1 E1_I D_Search_ask_196 rfl rfl rfl q_829 q_830 q_26 q_96 ⟨by decide +kernel, by decide +kernel, by decide +kernel⟩ (by decide) (Nat.le_refl _) (show ∀ x_ ∈ ([3, 4, 8, 43, 44, 45, 46, 47, 48, 49, 51] : List Nat), x_ ∈ ([3, 4, 8, 43, 44, 45, 46, 47, 48, 49, 51] : List Nat) from by decide)) D_Search_ask_199 rfl) (SJ_ret (p0 := 202) (p1 := 203) (EJ_iconst (n := 1) (v := (nI 1)) (pc := 202) D_Search_ask_202 (by decide +kernel)) D_Search_ask_203) SJ_sk)))
 (SJ_post (SJ_iinc (i := 12) (n := 1) (v := (nI 1)) (pc := 204) D_Search_ask_204 (by decide +kernel)) (Lead.goto (K := (K_Search_ask n)) (pc := 207) (tgt := 159) D_Search_ask_207 rfl)))))))
 (SJ_post (SJ_iinc (i := 10) (n := 1) (v := (nI 1)) (pc := 210) D_Search_ask_210 (by decide +kernel)) (Lead.goto (K := (K_Search_ask n)) (pc := 213) (tgt := 110) D_Search_ask_213 rfl))))
 (SJ_sq (p0 := 216) (p1 := 235) (nN := 0) (nB := 0) (nC := 0) (SJ_upF (z := false) (t := 8) (c := 7) (kf := 6) (r := (RX7, TX7, 11)) (f := (fun x y => x + y)) (p0 := 216) (p1 := 217) (p3 := 231) (EJ_aload_n (j := 0) (i := 0) (pc := 216) D_Search_ask_216 rfl) D_Search_ask_217 D_Search_ask_218 (EJ_if (p0 := 221) (pT := 226) (pF := 230) (pE := 227) (p1 := 231) (CZ_ne' (off := 7) (tgt := 230) (p0 := 221) (p1 := 223) (EJ_iload (i := 9) (pc := 221) D_Search_ask_221) D_Search_ask_223 rfl) (EJ_iconst (n := 0) (v := (nI 0)) (pc := 226) D_Search_ask_226 (by decide +kernel)) (Lead.goto (K := (K_Search_ask n)) (pc := 227) (tgt := 231) D_Search_ask_227 rfl) (EJ_iconst (n := 1) (v := (nI 1)) (pc := 230) D_Search_ask_230 (by decide +kernel))) (Op2_iadd D_Search_ask_231) D_Search_ask_232 ⟨rfl, rfl, by decide, q_235⟩ ⟨rfl, rfl, by decide, q_235⟩ (Or.inl rfl) (fun _ _ => ⟨rfl, rfl⟩) (fun _ _ => rfl) (show (8 : Nat) ∈ ([3, 4, 8, 43, 44, 45, 46, 47, 48, 49, 51] : List Nat) from by decide))
 (SJ_sq (p0 := 235) (p1 := 244) (nN := 0) (nB := 0) (nC := 0) (SJ_putI (z := false) (t := 8) (c := 7) (kf := 10) (r := (RX7, TX7, 11)) (p0 := 235) (p1 := 236) (p2 := 241) (EJ_aload_n (j := 0) (i := 0) (pc := 235) D_Search_ask_235 rfl) (EJ_getI (t := 4) (c := 3) (kf := 0) (r := (RX3, TX3, 11)) (p0 := 236) (p1 := 238) (EJ_aload (i := 7) (pc := 236) D_Search_ask_236) D_Search_ask_238 ⟨rfl, rfl, by decide, q_792⟩ (fun _ _ => rfl)) D_Search_ask_241 ⟨rfl, rfl, by decide, q_242⟩ (Or.inl rfl) (fun _ _ => ⟨rfl, rfl⟩) (fun _ _ => rfl) (show (8 : Nat) ∈ ([3, 4, 8, 43, 44, 45, 46, 47, 48, 49, 51] : List Nat) from by decide))
 (SJ_ret (p0 := 244) (p1 := 245) (EJ_iconst (n := 0) (v := (nI 0)) (pc := 244) D_Search_ask_244 (by decide +kernel)) D_Search_ask_245))))))))))))
 RTm_bool q_779 (by decide +kernel) rfl (fun h => by cases h) (show 13 ≤ 40 from by decide) (fun _ => trivial)
theorem D_Search_triesChoices_0 : decode cX7_triesChoices 0 = .ok (.iconst (0), 1) := by decide +kernel
theorem D_Search_triesChoices_1 : decode cX7_triesChoices 1 = .ok (.istore_n 3, 1) := by decide +kernel
theorem D_Search_triesChoices_2 : decode cX7_triesChoices 2 = .ok (.iload_n 3, 1) := by decide +kernel
theorem D_Search_triesChoices_3 : decode cX7_triesChoices 3 = .ok (.aload_n 2, 1) := by decide +kernel
theorem D_Search_triesChoices_4 : decode cX7_triesChoices 4 = .ok (.getfield 126, 3) := by decide +kernel
theorem D_Search_triesChoices_7 : decode cX7_triesChoices 7 = .ok (.if_icmp .ge (60), 3) := by decide +kernel
theorem D_Search_triesChoices_10 : decode cX7_triesChoices 10 = .ok (.aload_n 0, 1) := by decide +kernel
theorem D_Search_triesChoices_11 : decode cX7_triesChoices 11 = .ok (.getfield 39, 3) := by decide +kernel
theorem D_Search_triesChoices_14 : decode cX7_triesChoices 14 = .ok (.ifCond .ne (53), 3) := by decide +kernel
theorem D_Search_triesChoices_17 : decode cX7_triesChoices 17 = .ok (.aload_n 1, 1) := by decide +kernel
theorem D_Search_triesChoices_18 : decode cX7_triesChoices 18 = .ok (.iload_n 3, 1) := by decide +kernel
theorem D_Search_triesChoices_19 : decode cX7_triesChoices 19 = .ok (.putfield 129, 3) := by decide +kernel
theorem D_Search_triesChoices_22 : decode cX7_triesChoices 22 = .ok (.aload_n 1, 1) := by decide +kernel
theorem D_Search_triesChoices_23 : decode cX7_triesChoices 23 = .ok (.aload_n 2, 1) := by decide +kernel
theorem D_Search_triesChoices_24 : decode cX7_triesChoices 24 = .ok (.getfield 132, 3) := by decide +kernel
theorem D_Search_triesChoices_27 : decode cX7_triesChoices 27 = .ok (.iload_n 3, 1) := by decide +kernel
theorem D_Search_triesChoices_28 : decode cX7_triesChoices 28 = .ok (.aaload, 1) := by decide +kernel
theorem D_Search_triesChoices_29 : decode cX7_triesChoices 29 = .ok (.putfield 136, 3) := by decide +kernel
theorem D_Search_triesChoices_32 : decode cX7_triesChoices 32 = .ok (.aload_n 1, 1) := by decide +kernel
theorem D_Search_triesChoices_33 : decode cX7_triesChoices 33 = .ok (.getfield 136, 3) := by decide +kernel
theorem D_Search_triesChoices_36 : decode cX7_triesChoices 36 = .ok (.aload_n 1, 1) := by decide +kernel
theorem D_Search_triesChoices_37 : decode cX7_triesChoices 37 = .ok (.getfield 75, 3) := by decide +kernel
theorem D_Search_triesChoices_40 : decode cX7_triesChoices 40 = .ok (.invokevirtual 140, 3) := by decide +kernel
theorem D_Search_triesChoices_43 : decode cX7_triesChoices 43 = .ok (.ifCond .eq (18), 3) := by decide +kernel
theorem D_Search_triesChoices_46 : decode cX7_triesChoices 46 = .ok (.aload_n 0, 1) := by decide +kernel
theorem D_Search_triesChoices_47 : decode cX7_triesChoices 47 = .ok (.aload_n 1, 1) := by decide +kernel
theorem D_Search_triesChoices_48 : decode cX7_triesChoices 48 = .ok (.aload_n 1, 1) := by decide +kernel
theorem D_Search_triesChoices_49 : decode cX7_triesChoices 49 = .ok (.getfield 136, 3) := by decide +kernel
theorem D_Search_triesChoices_52 : decode cX7_triesChoices 52 = .ok (.iconst (0), 1) := by decide +kernel
theorem D_Search_triesChoices_53 : decode cX7_triesChoices 53 = .ok (.invokevirtual 146, 3) := by decide +kernel
theorem D_Search_triesChoices_56 : decode cX7_triesChoices 56 = .ok (.ifCond .eq (5), 3) := by decide +kernel
theorem D_Search_triesChoices_59 : decode cX7_triesChoices 59 = .ok (.iconst (1), 1) := by decide +kernel
theorem D_Search_triesChoices_60 : decode cX7_triesChoices 60 = .ok (.ireturn, 1) := by decide +kernel
theorem D_Search_triesChoices_61 : decode cX7_triesChoices 61 = .ok (.iinc 3 (1), 3) := by decide +kernel
theorem D_Search_triesChoices_64 : decode cX7_triesChoices 64 = .ok (.goto (-62), 3) := by decide +kernel
theorem D_Search_triesChoices_67 : decode cX7_triesChoices 67 = .ok (.iconst (0), 1) := by decide +kernel
theorem D_Search_triesChoices_68 : decode cX7_triesChoices 68 = .ok (.ireturn, 1) := by decide +kernel
def K_Search_triesChoices (n : Nat) : SC := (cX7_triesChoices, "TwoLevels$Search", 4, 4 + n + 1, false, [3, 4, 8, 43, 44, 45, 46, 47, 48, 49, 51], NoQ)
def b_Search_triesChoices (R : Nat → MD Int32) : MD Int32 := mth zz 4 (sq (sq (sI1 3 (eC (nI 0)))
 (loop (cAnd (eh2 c_lt (lI 3) (eh1 (gI 7 4) (lR 2))) (cNot (eh1 z_ne (eh1 (gI 8 4) (lR 0)))))
 (sq (sh2 (pI false 4 8) (lR 1) (lI 3))
 (sq (sh2 (pR 4 9) (lR 1) (eh2 (aR (.object "TwoLevels$Choice")) (eh1 (gR 7 3) (lR 2)) (lI 3)))
 (sIf (cAnd (eh1 z_ne (kV 1 d_Choice_suits (eh1 (gR 4 9) (lR 1)) [vI (eh1 (gI 4 5) (lR 1))])) (eh1 z_ne (kV 8 (R 2) (lR 0) [vR (lR 1), vR (eh1 (gR 4 9) (lR 1)), vI (eC (nI 0))]))) (rtn (eC (nI 1))) sk)))
 (sInc 3 (nI 1))))
 (rtn (eC (nI 0))))
theorem s_Search_triesChoices (n : Nat) (R : Nat → MD Int32) (h2 : MJ (4 + n) [3, 4, 8, 43, 44, 45, 46, 47, 48, 49, 51] yX7_triesFrees (some .boolean) eI (R 2)) : MJ (4 + n + 1) [3, 4, 8, 43, 44, 45, 46, 47, 48, 49, 51] yX7_triesChoices (some .boolean) eI (b_Search_triesChoices R) := MJ_of (K := K_Search_triesChoices n) (ri := .ireturn) (n1 := 0) (n2 := 0) (n3 := 0)
 (SJ_sq (p0 := 0) (p1 := 67) (nN := 0) (nB := 0) (nC := 0) (SJ_sq (p0 := 0) (p1 := 2) (nN := 67) (nB := 0) (nC := 0) (SJ_istore_n (i := 3) (j := 3) (p0 := 0) (p1 := 1) (EJ_iconst (n := 0) (v := (nI 0)) (pc := 0) D_Search_triesChoices_0 (by decide +kernel)) D_Search_triesChoices_1 rfl)
 (SJ_loop (p0 := 2) (pB := 17) (pS := 61) (pE := 67) (CJ_and (p0 := 2) (pM := 10) (pT := 17) (pF := 67) (CJ_lt' (off := 60) (tgt := 67) (p0 := 2) (p1 := 3) (p2 := 7) (EJ_iload_n (j := 3) (i := 3) (pc := 2) D_Search_triesChoices_2 rfl) (EJ_getI (t := 7) (c := 6) (kf := 4) (r := (RX6, TX6, 5)) (p0 := 3) (p1 := 4) (EJ_aload_n (j := 2) (i := 2) (pc := 3) D_Search_triesChoices_3 rfl) D_Search_triesChoices_4 ⟨rfl, rfl, by decide, q_401⟩ (fun _ _ => rfl)) D_Search_triesChoices_7 rfl) (CJ_not (p0 := 10) (pT := 17) (pF := 67) (CZ_ne (off := 53) (tgt := 67) (p0 := 10) (p1 := 14) (EJ_getI (t := 8) (c := 7) (kf := 4) (r := (RX7, TX7, 11)) (p0 := 10) (p1 := 11) (EJ_aload_n (j := 0) (i := 0) (pc := 10) D_Search_triesChoices_10 rfl) D_Search_triesChoices_11 ⟨rfl, rfl, by decide, q_232⟩ (fun _ _ => rfl)) D_Search_triesChoices_14 rfl)))
 (SJ_sq (p0 := 17) (p1 := 22) (nN := 61) (nB := 67) (nC := 61) (SJ_putI (z := false) (t := 4) (c := 3) (kf := 8) (r := (RX3, TX3, 11)) (p0 := 17) (p1 := 18) (p2 := 19) (EJ_aload_n (j := 1) (i := 1) (pc := 17) D_Search_triesChoices_17 rfl) (EJ_iload_n (j := 3) (i := 3) (pc := 18) D_Search_triesChoices_18 rfl) D_Search_triesChoices_19 ⟨rfl, rfl, by decide, q_807⟩ (Or.inl rfl) (fun _ _ => ⟨rfl, rfl⟩) (fun _ _ => rfl) (show (4 : Nat) ∈ ([3, 4, 8, 43, 44, 45, 46, 47, 48, 49, 51] : List Nat) from by decide))
 (SJ_sq (p0 := 22) (p1 := 32) (nN := 61) (nB := 67) (nC := 61) (SJ_putR (t := 4) (c := 3) (kf := 9) (r := (RX3, TX3, 11)) (p0 := 22) (p1 := 23) (p2 := 29) (EJ_aload_n (j := 1) (i := 1) (pc := 22) D_Search_triesChoices_22 rfl) (EJ_aald (p0 := 23) (p1 := 27) (p2 := 28) (EJ_getR (t := 7) (c := 6) (kf := 3) (r := (RX6, TX6, 5)) (p0 := 23) (p1 := 24) (EJ_aload_n (j := 2) (i := 2) (pc := 23) D_Search_triesChoices_23 rfl) D_Search_triesChoices_24 ⟨rfl, rfl, by decide, q_398⟩ (fun _ _ => rfl)) (EJ_iload_n (j := 3) (i := 3) (pc := 27) D_Search_triesChoices_27 rfl) D_Search_triesChoices_28 (Or.inl ⟨_, rfl⟩)) D_Search_triesChoices_29 ⟨rfl, rfl, by decide, q_809⟩ (Or.inl rfl) (Or.inl ⟨_, rfl⟩) (fun _ _ => rfl) (show (4 : Nat) ∈ ([3, 4, 8, 43, 44, 45, 46, 47, 48, 49, 51] : List Nat) from by decide))
 (SJ_if (p0 := 32) (pT := 59) (pF := 61) (nN := 61) (nB := 67) (nC := 61) (CJ_and (p0 := 32) (pM := 46) (pT := 59) (pF := 61) (CZ_ne' (off := 18) (tgt := 61) (p0 := 32) (p1 := 43) (EJ_callV (t := 1) (c := 0) (r := (RX0, TX0, 10)) (p0 := 32) (p1 := 36) (p2 := 40) (EJ_getR (t := 4) (c := 3) (kf := 9) (r := (RX3, TX3, 11)) (p0 := 32) (p1 := 33) (EJ_aload_n (j := 1) (i := 1) (pc := 32) D_Search_triesChoices_32 rfl) D_Search_triesChoices_33 ⟨rfl, rfl, by decide, q_809⟩ (fun _ _ => rfl)) (AJ_I (p0 := 36) (p1 := 40) (p2 := 40) (EJ_getI (t := 4) (c := 3) (kf := 5) (r := (RX3, TX3, 11)) (p0 := 36) (p1 := 37) (EJ_aload_n (j := 1) (i := 1) (pc := 36) D_Search_triesChoices_36 rfl) D_Search_triesChoices_37 ⟨rfl, rfl, by decide, q_801⟩ (fun _ _ => rfl)) AJ_nil) m_Choice_suits E1_I D_Search_triesChoices_40 rfl rfl rfl q_832 q_833 q_834 q_103 ⟨by decide +kernel, by decide +kernel, by decide +kernel⟩ (by decide) (show 1 + 1 ≤ 4 + n + 1 from by omega) (fun _ h => absurd h List.not_mem_nil)) D_Search_triesChoices_43 rfl) (CZ_ne' (off := 5) (tgt := 61) (p0 := 46) (p1 := 56) (EJ_callV (t := 8) (c := 7) (r := (RX7, TX7, 11)) (p0 := 46) (p1 := 47) (p2 := 53) (EJ_aload_n (j := 0) (i := 0) (pc := 46) D_Search_triesChoices_46 rfl) (AJ_R (p0 := 47) (p1 := 48) (p2 := 53) (EJ_aload_n (j := 1) (i := 1) (pc := 47) D_Search_triesChoices_47 rfl) (AJ_R (p0 := 48) (p1 := 52) (p2 := 53) (EJ_getR (t := 4) (c := 3) (kf := 9) (r := (RX3, TX3, 11)) (p0 := 48) (p1 := 49) (EJ_aload_n (j := 1) (i := 1) (pc := 48) D_Search_triesChoices_48 rfl) D_Search_triesChoices_49 ⟨rfl, rfl, by decide, q_809⟩ (fun _ _ => rfl)) (AJ_I (p0 := 52) (p1 := 53) (p2 := 53) (EJ_iconst (n := 0) (v := (nI 0)) (pc := 52) D_Search_triesChoices_52 (by decide +kernel)) AJ_nil))) h2 E1_I D_Search_triesChoices_53 rfl rfl rfl q_836 q_837 q_27 q_96 ⟨by decide +kernel, by decide +kernel, by decide +kernel⟩ (by decide) (Nat.le_refl _) (show ∀ x_ ∈ ([3, 4, 8, 43, 44, 45, 46, 47, 48, 49, 51] : List Nat), x_ ∈ ([3, 4, 8, 43, 44, 45, 46, 47, 48, 49, 51] : List Nat) from by decide)) D_Search_triesChoices_56 rfl)) (SJ_ret (p0 := 59) (p1 := 60) (EJ_iconst (n := 1) (v := (nI 1)) (pc := 59) D_Search_triesChoices_59 (by decide +kernel)) D_Search_triesChoices_60) SJ_sk)))
 (SJ_post (SJ_iinc (i := 3) (n := 1) (v := (nI 1)) (pc := 61) D_Search_triesChoices_61 (by decide +kernel)) (Lead.goto (K := (K_Search_triesChoices n)) (pc := 64) (tgt := 2) D_Search_triesChoices_64 rfl))))
 (SJ_ret (p0 := 67) (p1 := 68) (EJ_iconst (n := 0) (v := (nI 0)) (pc := 67) D_Search_triesChoices_67 (by decide +kernel)) D_Search_triesChoices_68))
 RTm_bool q_831 (by decide +kernel) rfl (fun h => by cases h) (show 4 ≤ 40 from by decide) (fun _ => trivial)
theorem D_Search_triesFrees_0 : decode cX7_triesFrees 0 = .ok (.iload_n 3, 1) := by decide +kernel
theorem D_Search_triesFrees_1 : decode cX7_triesFrees 1 = .ok (.aload_n 2, 1) := by decide +kernel
theorem D_Search_triesFrees_2 : decode cX7_triesFrees 2 = .ok (.getfield 150, 3) := by decide +kernel
theorem D_Search_triesFrees_5 : decode cX7_triesFrees 5 = .ok (.if_icmp .lt (29), 3) := by decide +kernel
theorem D_Search_triesFrees_8 : decode cX7_triesFrees 8 = .ok (.aload_n 0, 1) := by decide +kernel
theorem D_Search_triesFrees_9 : decode cX7_triesFrees 9 = .ok (.aload_n 1, 1) := by decide +kernel
theorem D_Search_triesFrees_10 : decode cX7_triesFrees 10 = .ok (.getfield 123, 3) := by decide +kernel
theorem D_Search_triesFrees_13 : decode cX7_triesFrees 13 = .ok (.iconst (1), 1) := by decide +kernel
theorem D_Search_triesFrees_14 : decode cX7_triesFrees 14 = .ok (.iadd, 1) := by decide +kernel
theorem D_Search_triesFrees_15 : decode cX7_triesFrees 15 = .ok (.putfield 55, 3) := by decide +kernel
theorem D_Search_triesFrees_18 : decode cX7_triesFrees 18 = .ok (.aload_n 0, 1) := by decide +kernel
theorem D_Search_triesFrees_19 : decode cX7_triesFrees 19 = .ok (.aload_n 1, 1) := by decide +kernel
theorem D_Search_triesFrees_20 : decode cX7_triesFrees 20 = .ok (.aload_n 2, 1) := by decide +kernel
theorem D_Search_triesFrees_21 : decode cX7_triesFrees 21 = .ok (.iconst (0), 1) := by decide +kernel
theorem D_Search_triesFrees_22 : decode cX7_triesFrees 22 = .ok (.aload_n 1, 1) := by decide +kernel
theorem D_Search_triesFrees_23 : decode cX7_triesFrees 23 = .ok (.getfield 72, 3) := by decide +kernel
theorem D_Search_triesFrees_26 : decode cX7_triesFrees 26 = .ok (.aload_n 1, 1) := by decide +kernel
theorem D_Search_triesFrees_27 : decode cX7_triesFrees 27 = .ok (.getfield 75, 3) := by decide +kernel
theorem D_Search_triesFrees_30 : decode cX7_triesFrees 30 = .ok (.invokevirtual 153, 3) := by decide +kernel
theorem D_Search_triesFrees_33 : decode cX7_triesFrees 33 = .ok (.ireturn, 1) := by decide +kernel
theorem D_Search_triesFrees_34 : decode cX7_triesFrees 34 = .ok (.iload_n 3, 1) := by decide +kernel
theorem D_Search_triesFrees_35 : decode cX7_triesFrees 35 = .ok (.aload_n 2, 1) := by decide +kernel
theorem D_Search_triesFrees_36 : decode cX7_triesFrees 36 = .ok (.getfield 157, 3) := by decide +kernel
theorem D_Search_triesFrees_39 : decode cX7_triesFrees 39 = .ok (.if_icmp .ne (14), 3) := by decide +kernel
theorem D_Search_triesFrees_42 : decode cX7_triesFrees 42 = .ok (.aload_n 0, 1) := by decide +kernel
theorem D_Search_triesFrees_43 : decode cX7_triesFrees 43 = .ok (.aload_n 1, 1) := by decide +kernel
theorem D_Search_triesFrees_44 : decode cX7_triesFrees 44 = .ok (.aload_n 2, 1) := by decide +kernel
theorem D_Search_triesFrees_45 : decode cX7_triesFrees 45 = .ok (.invokevirtual 160, 3) := by decide +kernel
theorem D_Search_triesFrees_48 : decode cX7_triesFrees 48 = .ok (.ifCond .ne (5), 3) := by decide +kernel
theorem D_Search_triesFrees_51 : decode cX7_triesFrees 51 = .ok (.iconst (0), 1) := by decide +kernel
theorem D_Search_triesFrees_52 : decode cX7_triesFrees 52 = .ok (.ireturn, 1) := by decide +kernel
theorem D_Search_triesFrees_53 : decode cX7_triesFrees 53 = .ok (.aload_n 2, 1) := by decide +kernel
theorem D_Search_triesFrees_54 : decode cX7_triesFrees 54 = .ok (.getfield 164, 3) := by decide +kernel
theorem D_Search_triesFrees_57 : decode cX7_triesFrees 57 = .ok (.iload_n 3, 1) := by decide +kernel
theorem D_Search_triesFrees_58 : decode cX7_triesFrees 58 = .ok (.iaload, 1) := by decide +kernel
theorem D_Search_triesFrees_59 : decode cX7_triesFrees 59 = .ok (.istore 4, 2) := by decide +kernel
theorem D_Search_triesFrees_61 : decode cX7_triesFrees 61 = .ok (.aload_n 0, 1) := by decide +kernel
theorem D_Search_triesFrees_62 : decode cX7_triesFrees 62 = .ok (.getfield 21, 3) := by decide +kernel
theorem D_Search_triesFrees_65 : decode cX7_triesFrees 65 = .ok (.getfield 88, 3) := by decide +kernel
theorem D_Search_triesFrees_68 : decode cX7_triesFrees 68 = .ok (.iload 4, 2) := by decide +kernel
theorem D_Search_triesFrees_70 : decode cX7_triesFrees 70 = .ok (.aload_n 0, 1) := by decide +kernel
theorem D_Search_triesFrees_71 : decode cX7_triesFrees 71 = .ok (.getfield 21, 3) := by decide +kernel
theorem D_Search_triesFrees_74 : decode cX7_triesFrees 74 = .ok (.getfield 168, 3) := by decide +kernel
theorem D_Search_triesFrees_77 : decode cX7_triesFrees 77 = .ok (.invokevirtual 171, 3) := by decide +kernel
theorem D_Search_triesFrees_80 : decode cX7_triesFrees 80 = .ok (.istore 5, 2) := by decide +kernel
theorem D_Search_triesFrees_82 : decode cX7_triesFrees 82 = .ok (.iconst (0), 1) := by decide +kernel
theorem D_Search_triesFrees_83 : decode cX7_triesFrees 83 = .ok (.istore 6, 2) := by decide +kernel
theorem D_Search_triesFrees_85 : decode cX7_triesFrees 85 = .ok (.iload 6, 2) := by decide +kernel
theorem D_Search_triesFrees_87 : decode cX7_triesFrees 87 = .ok (.iload 5, 2) := by decide +kernel
theorem D_Search_triesFrees_89 : decode cX7_triesFrees 89 = .ok (.if_icmp .ge (71), 3) := by decide +kernel
theorem D_Search_triesFrees_92 : decode cX7_triesFrees 92 = .ok (.aload_n 0, 1) := by decide +kernel
theorem D_Search_triesFrees_93 : decode cX7_triesFrees 93 = .ok (.getfield 39, 3) := by decide +kernel
theorem D_Search_triesFrees_96 : decode cX7_triesFrees 96 = .ok (.ifCond .ne (64), 3) := by decide +kernel
theorem D_Search_triesFrees_99 : decode cX7_triesFrees 99 = .ok (.aload_n 1, 1) := by decide +kernel
theorem D_Search_triesFrees_100 : decode cX7_triesFrees 100 = .ok (.getfield 176, 3) := by decide +kernel
theorem D_Search_triesFrees_103 : decode cX7_triesFrees 103 = .ok (.iload_n 3, 1) := by decide +kernel
theorem D_Search_triesFrees_104 : decode cX7_triesFrees 104 = .ok (.aload_n 0, 1) := by decide +kernel
theorem D_Search_triesFrees_105 : decode cX7_triesFrees 105 = .ok (.getfield 21, 3) := by decide +kernel
theorem D_Search_triesFrees_108 : decode cX7_triesFrees 108 = .ok (.getfield 88, 3) := by decide +kernel
theorem D_Search_triesFrees_111 : decode cX7_triesFrees 111 = .ok (.iload 4, 2) := by decide +kernel
theorem D_Search_triesFrees_113 : decode cX7_triesFrees 113 = .ok (.iload 6, 2) := by decide +kernel
theorem D_Search_triesFrees_115 : decode cX7_triesFrees 115 = .ok (.invokevirtual 179, 3) := by decide +kernel
theorem D_Search_triesFrees_118 : decode cX7_triesFrees 118 = .ok (.i2l, 1) := by decide +kernel
theorem D_Search_triesFrees_119 : decode cX7_triesFrees 119 = .ok (.lastore, 1) := by decide +kernel
theorem D_Search_triesFrees_120 : decode cX7_triesFrees 120 = .ok (.aload_n 0, 1) := by decide +kernel
theorem D_Search_triesFrees_121 : decode cX7_triesFrees 121 = .ok (.getfield 25, 3) := by decide +kernel
theorem D_Search_triesFrees_124 : decode cX7_triesFrees 124 = .ok (.aload_n 1, 1) := by decide +kernel
theorem D_Search_triesFrees_125 : decode cX7_triesFrees 125 = .ok (.getfield 65, 3) := by decide +kernel
theorem D_Search_triesFrees_128 : decode cX7_triesFrees 128 = .ok (.aaload, 1) := by decide +kernel
theorem D_Search_triesFrees_129 : decode cX7_triesFrees 129 = .ok (.iload 4, 2) := by decide +kernel
theorem D_Search_triesFrees_131 : decode cX7_triesFrees 131 = .ok (.aload_n 1, 1) := by decide +kernel
theorem D_Search_triesFrees_132 : decode cX7_triesFrees 132 = .ok (.getfield 176, 3) := by decide +kernel
theorem D_Search_triesFrees_135 : decode cX7_triesFrees 135 = .ok (.iload_n 3, 1) := by decide +kernel
theorem D_Search_triesFrees_136 : decode cX7_triesFrees 136 = .ok (.laload, 1) := by decide +kernel
theorem D_Search_triesFrees_137 : decode cX7_triesFrees 137 = .ok (.invokevirtual 182, 3) := by decide +kernel
theorem D_Search_triesFrees_140 : decode cX7_triesFrees 140 = .ok (.aload_n 0, 1) := by decide +kernel
theorem D_Search_triesFrees_141 : decode cX7_triesFrees 141 = .ok (.aload_n 1, 1) := by decide +kernel
theorem D_Search_triesFrees_142 : decode cX7_triesFrees 142 = .ok (.aload_n 2, 1) := by decide +kernel
theorem D_Search_triesFrees_143 : decode cX7_triesFrees 143 = .ok (.iload_n 3, 1) := by decide +kernel
theorem D_Search_triesFrees_144 : decode cX7_triesFrees 144 = .ok (.iconst (1), 1) := by decide +kernel
theorem D_Search_triesFrees_145 : decode cX7_triesFrees 145 = .ok (.iadd, 1) := by decide +kernel
theorem D_Search_triesFrees_146 : decode cX7_triesFrees 146 = .ok (.invokevirtual 146, 3) := by decide +kernel
theorem D_Search_triesFrees_149 : decode cX7_triesFrees 149 = .ok (.ifCond .eq (5), 3) := by decide +kernel
theorem D_Search_triesFrees_152 : decode cX7_triesFrees 152 = .ok (.iconst (1), 1) := by decide +kernel
theorem D_Search_triesFrees_153 : decode cX7_triesFrees 153 = .ok (.ireturn, 1) := by decide +kernel
theorem D_Search_triesFrees_154 : decode cX7_triesFrees 154 = .ok (.iinc 6 (1), 3) := by decide +kernel
theorem D_Search_triesFrees_157 : decode cX7_triesFrees 157 = .ok (.goto (-72), 3) := by decide +kernel
theorem D_Search_triesFrees_160 : decode cX7_triesFrees 160 = .ok (.iconst (0), 1) := by decide +kernel
theorem D_Search_triesFrees_161 : decode cX7_triesFrees 161 = .ok (.ireturn, 1) := by decide +kernel
def K_Search_triesFrees (n : Nat) : SC := (cX7_triesFrees, "TwoLevels$Search", 7, 4 + n + 1, false, [3, 4, 8, 43, 44, 45, 46, 47, 48, 49, 51], NoQ)
def b_Search_triesFrees (R : Nat → MD Int32) : MD Int32 := mth zz 7 (sq (sIf (eh2 c_ge (lI 3) (eh1 (gI 1 6) (lR 2))) (sq (sh2 (pI false 8 10) (lR 0) (eh2 iaddF (eh1 (gI 4 0) (lR 1)) (eC (nI 1))))
 (rtn (kV 8 (R 3) (lR 0) [vR (lR 1), vR (lR 2), vI (eC (nI 0)), vI (eh1 (gI 4 4) (lR 1)), vI (eh1 (gI 4 5) (lR 1))]))) sk)
 (sq (sIf (cAnd (eh2 c_eq (lI 3) (eh1 (gI 1 8) (lR 2))) (cNot (eh1 z_ne (kV 8 d_Search_opens (lR 0) [vR (lR 1), vR (lR 2)])))) (rtn (eC (nI 0))) sk)
 (sq (sI1 4 (eh2 (aI .int) (eh1 (gR 1 5) (lR 2)) (lI 3)))
 (sq (sI1 5 (kV 11 d_Upper_hasMany (eh1 (gR 10 0) (eh1 (gR 8 0) (lR 0))) [vI (lI 4), vI (eh1 (gI 10 3) (eh1 (gR 8 0) (lR 0)))]))
 (sq (sq (sI1 6 (eC (nI 0)))
 (loop (cAnd (eh2 c_lt (lI 6) (lI 5)) (cNot (eh1 z_ne (eh1 (gI 8 4) (lR 0)))))
 (sq (sh3 (stJ [49]) (eh1 (gR 4 10) (lR 1)) (lI 3) (eh1 i2lF (kV 11 d_Upper_hasWord (eh1 (gR 10 0) (eh1 (gR 8 0) (lR 0))) [vI (lI 4), vI (lI 6)])))
 (sq (sE (kV 3 d_Fit_put (eh2 (aR (.object "TwoLevels$Fit")) (eh1 (gR 8 3) (lR 0)) (eh1 (gI 4 2) (lR 1))) [vI (lI 4), vJ (eh2 aJ (eh1 (gR 4 10) (lR 1)) (lI 3))]))
 (sIf (eh1 z_ne (kV 8 (R 2) (lR 0) [vR (lR 1), vR (lR 2), vI (eh2 iaddF (lI 3) (eC (nI 1)))])) (rtn (eC (nI 1))) sk)))
 (sInc 6 (nI 1))))
 (rtn (eC (nI 0))))))))
theorem s_Search_triesFrees (n : Nat) (R : Nat → MD Int32) (h2 : MJ (4 + n) [3, 4, 8, 43, 44, 45, 46, 47, 48, 49, 51] yX7_triesFrees (some .boolean) eI (R 2)) (h3 : MJ (4 + n) [3, 4, 8, 43, 44, 45, 46, 47, 48, 49, 51] yX7_triesMembers (some .boolean) eI (R 3)) : MJ (4 + n + 1) [3, 4, 8, 43, 44, 45, 46, 47, 48, 49, 51] yX7_triesFrees (some .boolean) eI (b_Search_triesFrees R) := MJ_of (K := K_Search_triesFrees n) (ri := .ireturn) (n1 := 0) (n2 := 0) (n3 := 0)
 (SJ_sq (p0 := 0) (p1 := 34) (nN := 0) (nB := 0) (nC := 0) (SJ_if (p0 := 0) (pT := 8) (pF := 34) (nN := 34) (nB := 0) (nC := 0) (CJ_ge' (off := 29) (tgt := 34) (p0 := 0) (p1 := 1) (p2 := 5) (EJ_iload_n (j := 3) (i := 3) (pc := 0) D_Search_triesFrees_0 rfl) (EJ_getI (t := 1) (c := 0) (kf := 6) (r := (RX0, TX0, 10)) (p0 := 1) (p1 := 2) (EJ_aload_n (j := 2) (i := 2) (pc := 1) D_Search_triesFrees_1 rfl) D_Search_triesFrees_2 ⟨rfl, rfl, by decide, q_432⟩ (fun _ _ => rfl)) D_Search_triesFrees_5 rfl) (SJ_sq (p0 := 8) (p1 := 18) (nN := 34) (nB := 0) (nC := 0) (SJ_putI (z := false) (t := 8) (c := 7) (kf := 10) (r := (RX7, TX7, 11)) (p0 := 8) (p1 := 9) (p2 := 15) (EJ_aload_n (j := 0) (i := 0) (pc := 8) D_Search_triesFrees_8 rfl) (EJ_iadd (p0 := 9) (p1 := 13) (p2 := 14) (EJ_getI (t := 4) (c := 3) (kf := 0) (r := (RX3, TX3, 11)) (p0 := 9) (p1 := 10) (EJ_aload_n (j := 1) (i := 1) (pc := 9) D_Search_triesFrees_9 rfl) D_Search_triesFrees_10 ⟨rfl, rfl, by decide, q_792⟩ (fun _ _ => rfl)) (EJ_iconst (n := 1) (v := (nI 1)) (pc := 13) D_Search_triesFrees_13 (by decide +kernel)) D_Search_triesFrees_14) D_Search_triesFrees_15 ⟨rfl, rfl, by decide, q_242⟩ (Or.inl rfl) (fun _ _ => ⟨rfl, rfl⟩) (fun _ _ => rfl) (show (8 : Nat) ∈ ([3, 4, 8, 43, 44, 45, 46, 47, 48, 49, 51] : List Nat) from by decide))
 (SJ_ret (p0 := 18) (p1 := 33) (EJ_callV (t := 8) (c := 7) (r := (RX7, TX7, 11)) (p0 := 18) (p1 := 19) (p2 := 30) (EJ_aload_n (j := 0) (i := 0) (pc := 18) D_Search_triesFrees_18 rfl) (AJ_R (p0 := 19) (p1 := 20) (p2 := 30) (EJ_aload_n (j := 1) (i := 1) (pc := 19) D_Search_triesFrees_19 rfl) (AJ_R (p0 := 20) (p1 := 21) (p2 := 30) (EJ_aload_n (j := 2) (i := 2) (pc := 20) D_Search_triesFrees_20 rfl) (AJ_I (p0 := 21) (p1 := 22) (p2 := 30) (EJ_iconst (n := 0) (v := (nI 0)) (pc := 21) D_Search_triesFrees_21 (by decide +kernel)) (AJ_I (p0 := 22) (p1 := 26) (p2 := 30) (EJ_getI (t := 4) (c := 3) (kf := 4) (r := (RX3, TX3, 11)) (p0 := 22) (p1 := 23) (EJ_aload_n (j := 1) (i := 1) (pc := 22) D_Search_triesFrees_22 rfl) D_Search_triesFrees_23 ⟨rfl, rfl, by decide, q_799⟩ (fun _ _ => rfl)) (AJ_I (p0 := 26) (p1 := 30) (p2 := 30) (EJ_getI (t := 4) (c := 3) (kf := 5) (r := (RX3, TX3, 11)) (p0 := 26) (p1 := 27) (EJ_aload_n (j := 1) (i := 1) (pc := 26) D_Search_triesFrees_26 rfl) D_Search_triesFrees_27 ⟨rfl, rfl, by decide, q_801⟩ (fun _ _ => rfl)) AJ_nil))))) h3 E1_I D_Search_triesFrees_30 rfl rfl rfl q_839 q_840 q_28 q_96 ⟨by decide +kernel, by decide +kernel, by decide +kernel⟩ (by decide) (Nat.le_refl _) (show ∀ x_ ∈ ([3, 4, 8, 43, 44, 45, 46, 47, 48, 49, 51] : List Nat), x_ ∈ ([3, 4, 8, 43, 44, 45, 46, 47, 48, 49, 51] : List Nat) from by decide)) D_Search_triesFrees_33)) SJ_sk)
 (SJ_sq (p0 := 34) (p1 := 53) (nN := 0) (nB := 0) (nC := 0) (SJ_if (p0 := 34) (pT := 51) (pF := 53) (nN := 53) (nB := 0) (nC := 0) (CJ_and (p0 := 34) (pM := 42) (pT := 51) (pF := 53) (CJ_eq' (off := 14) (tgt := 53) (p0 := 34) (p1 := 35) (p2 := 39) (EJ_iload_n (j := 3) (i := 3) (pc := 34) D_Search_triesFrees_34 rfl) (EJ_getI (t := 1) (c := 0) (kf := 8) (r := (RX0, TX0, 10)) (p0 := 35) (p1 := 36) (EJ_aload_n (j := 2) (i := 2) (pc := 35) D_Search_triesFrees_35 rfl) D_Search_triesFrees_36 ⟨rfl, rfl, by decide, q_436⟩ (fun _ _ => rfl)) D_Search_triesFrees_39 rfl) (CJ_not (p0 := 42) (pT := 51) (pF := 53) (CZ_ne (off := 5) (tgt := 53) (p0 := 42) (p1 := 48) (EJ_callV (t := 8) (c := 7) (r := (RX7, TX7, 11)) (p0 := 42) (p1 := 43) (p2 := 45) (EJ_aload_n (j := 0) (i := 0) (pc := 42) D_Search_triesFrees_42 rfl) (AJ_R (p0 := 43) (p1 := 44) (p2 := 45) (EJ_aload_n (j := 1) (i := 1) (pc := 43) D_Search_triesFrees_43 rfl) (AJ_R (p0 := 44) (p1 := 45) (p2 := 45) (EJ_aload_n (j := 2) (i := 2) (pc := 44) D_Search_triesFrees_44 rfl) AJ_nil)) m_Search_opens E1_I D_Search_triesFrees_45 rfl rfl rfl q_852 q_853 q_29 q_96 ⟨by decide +kernel, by decide +kernel, by decide +kernel⟩ (by decide) (show 2 + 1 ≤ 4 + n + 1 from by omega) (fun _ h => absurd h List.not_mem_nil)) D_Search_triesFrees_48 rfl))) (SJ_ret (p0 := 51) (p1 := 52) (EJ_iconst (n := 0) (v := (nI 0)) (pc := 51) D_Search_triesFrees_51 (by decide +kernel)) D_Search_triesFrees_52) SJ_sk)
 (SJ_sq (p0 := 53) (p1 := 61) (nN := 0) (nB := 0) (nC := 0) (SJ_istore (i := 4) (p0 := 53) (p1 := 59) (EJ_iald (p0 := 53) (p1 := 57) (p2 := 58) (EJ_getR (t := 1) (c := 0) (kf := 5) (r := (RX0, TX0, 10)) (p0 := 53) (p1 := 54) (EJ_aload_n (j := 2) (i := 2) (pc := 53) D_Search_triesFrees_53 rfl) D_Search_triesFrees_54 ⟨rfl, rfl, by decide, q_430⟩ (fun _ _ => rfl)) (EJ_iload_n (j := 3) (i := 3) (pc := 57) D_Search_triesFrees_57 rfl) D_Search_triesFrees_58) D_Search_triesFrees_59)
 (SJ_sq (p0 := 61) (p1 := 82) (nN := 0) (nB := 0) (nC := 0) (SJ_istore (i := 5) (p0 := 61) (p1 := 80) (EJ_callV (t := 11) (c := 10) (r := (RX10, TX10, 7)) (p0 := 61) (p1 := 68) (p2 := 77) (EJ_getR (t := 10) (c := 9) (kf := 0) (r := (RX9, TX9, 4)) (p0 := 61) (p1 := 65) (EJ_getR (t := 8) (c := 7) (kf := 0) (r := (RX7, TX7, 11)) (p0 := 61) (p1 := 62) (EJ_aload_n (j := 0) (i := 0) (pc := 61) D_Search_triesFrees_61 rfl) D_Search_triesFrees_62 ⟨rfl, rfl, by decide, q_228⟩ (fun _ _ => rfl)) D_Search_triesFrees_65 ⟨rfl, rfl, by decide, q_175⟩ (fun _ _ => rfl)) (AJ_I (p0 := 68) (p1 := 70) (p2 := 77) (EJ_iload (i := 4) (pc := 68) D_Search_triesFrees_68) (AJ_I (p0 := 70) (p1 := 77) (p2 := 77) (EJ_getI (t := 10) (c := 9) (kf := 3) (r := (RX9, TX9, 4)) (p0 := 70) (p1 := 74) (EJ_getR (t := 8) (c := 7) (kf := 0) (r := (RX7, TX7, 11)) (p0 := 70) (p1 := 71) (EJ_aload_n (j := 0) (i := 0) (pc := 70) D_Search_triesFrees_70 rfl) D_Search_triesFrees_71 ⟨rfl, rfl, by decide, q_228⟩ (fun _ _ => rfl)) D_Search_triesFrees_74 ⟨rfl, rfl, by decide, q_183⟩ (fun _ _ => rfl)) AJ_nil)) m_Upper_hasMany E1_I D_Search_triesFrees_77 rfl rfl rfl q_855 q_629 q_630 q_93 ⟨by decide +kernel, by decide +kernel, by decide +kernel⟩ (by decide) (show 1 + 1 ≤ 4 + n + 1 from by omega) (fun _ h => absurd h List.not_mem_nil)) D_Search_triesFrees_80)
 (SJ_sq (p0 := 82) (p1 := 160) (nN := 0) (nB := 0) (nC := 0) (SJ_sq (p0 := 82) (p1 := 85) (nN := 160) (nB := 0) (nC := 0) (SJ_istore (i := 6) (p0 := 82) (p1 := 83) (EJ_iconst (n := 0) (v := (nI 0)) (pc := 82) D_Search_triesFrees_82 (by decide +kernel)) D_Search_triesFrees_83)
 (SJ_loop (p0 := 85) (pB := 99) (pS := 154) (pE := 160) (CJ_and (p0 := 85) (pM := 92) (pT := 99) (pF := 160) (CJ_lt' (off := 71) (tgt := 160) (p0 := 85) (p1 := 87) (p2 := 89) (EJ_iload (i := 6) (pc := 85) D_Search_triesFrees_85) (EJ_iload (i := 5) (pc := 87) D_Search_triesFrees_87) D_Search_triesFrees_89 rfl) (CJ_not (p0 := 92) (pT := 99) (pF := 160) (CZ_ne (off := 64) (tgt := 160) (p0 := 92) (p1 := 96) (EJ_getI (t := 8) (c := 7) (kf := 4) (r := (RX7, TX7, 11)) (p0 := 92) (p1 := 93) (EJ_aload_n (j := 0) (i := 0) (pc := 92) D_Search_triesFrees_92 rfl) D_Search_triesFrees_93 ⟨rfl, rfl, by decide, q_232⟩ (fun _ _ => rfl)) D_Search_triesFrees_96 rfl)))
 (SJ_sq (p0 := 99) (p1 := 120) (nN := 154) (nB := 160) (nC := 154) (SJ_last (ws := [49]) (p0 := 99) (p1 := 103) (p2 := 104) (p3 := 119) (EJ_getR (t := 4) (c := 3) (kf := 10) (r := (RX3, TX3, 11)) (p0 := 99) (p1 := 100) (EJ_aload_n (j := 1) (i := 1) (pc := 99) D_Search_triesFrees_99 rfl) D_Search_triesFrees_100 ⟨rfl, rfl, by decide, q_812⟩ (fun _ _ => rfl)) (EJ_iload_n (j := 3) (i := 3) (pc := 103) D_Search_triesFrees_103 rfl) (EJ_i2l (p0 := 104) (p1 := 118) (EJ_callV (t := 11) (c := 10) (r := (RX10, TX10, 7)) (p0 := 104) (p1 := 111) (p2 := 115) (EJ_getR (t := 10) (c := 9) (kf := 0) (r := (RX9, TX9, 4)) (p0 := 104) (p1 := 108) (EJ_getR (t := 8) (c := 7) (kf := 0) (r := (RX7, TX7, 11)) (p0 := 104) (p1 := 105) (EJ_aload_n (j := 0) (i := 0) (pc := 104) D_Search_triesFrees_104 rfl) D_Search_triesFrees_105 ⟨rfl, rfl, by decide, q_228⟩ (fun _ _ => rfl)) D_Search_triesFrees_108 ⟨rfl, rfl, by decide, q_175⟩ (fun _ _ => rfl)) (AJ_I (p0 := 111) (p1 := 113) (p2 := 115) (EJ_iload (i := 4) (pc := 111) D_Search_triesFrees_111) (AJ_I (p0 := 113) (p1 := 115) (p2 := 115) (EJ_iload (i := 6) (pc := 113) D_Search_triesFrees_113) AJ_nil)) m_Upper_hasWord E1_I D_Search_triesFrees_115 rfl rfl rfl q_856 q_650 q_651 q_93 ⟨by decide +kernel, by decide +kernel, by decide +kernel⟩ (by decide) (show 1 + 1 ≤ 4 + n + 1 from by omega) (fun _ h => absurd h List.not_mem_nil)) D_Search_triesFrees_118) D_Search_triesFrees_119 (show ∀ x_ ∈ ([49] : List Nat), x_ ∈ ([3, 4, 8, 43, 44, 45, 46, 47, 48, 49, 51] : List Nat) from by decide))
 (SJ_sq (p0 := 120) (p1 := 140) (nN := 154) (nB := 160) (nC := 154) (SJ_void (p0 := 120) (p1 := 140) (EJ_callV (t := 3) (c := 2) (r := (RX2, TX2, 12)) (p0 := 120) (p1 := 129) (p2 := 137) (EJ_aald (p0 := 120) (p1 := 124) (p2 := 128) (EJ_getR (t := 8) (c := 7) (kf := 3) (r := (RX7, TX7, 11)) (p0 := 120) (p1 := 121) (EJ_aload_n (j := 0) (i := 0) (pc := 120) D_Search_triesFrees_120 rfl) D_Search_triesFrees_121 ⟨rfl, rfl, by decide, q_231⟩ (fun _ _ => rfl)) (EJ_getI (t := 4) (c := 3) (kf := 2) (r := (RX3, TX3, 11)) (p0 := 124) (p1 := 125) (EJ_aload_n (j := 1) (i := 1) (pc := 124) D_Search_triesFrees_124 rfl) D_Search_triesFrees_125 ⟨rfl, rfl, by decide, q_795⟩ (fun _ _ => rfl)) D_Search_triesFrees_128 (Or.inl ⟨_, rfl⟩)) (AJ_I (p0 := 129) (p1 := 131) (p2 := 137) (EJ_iload (i := 4) (pc := 129) D_Search_triesFrees_129) (AJ_J (p0 := 131) (p1 := 137) (p2 := 137) (EJ_lald (p0 := 131) (p1 := 135) (p2 := 136) (EJ_getR (t := 4) (c := 3) (kf := 10) (r := (RX3, TX3, 11)) (p0 := 131) (p1 := 132) (EJ_aload_n (j := 1) (i := 1) (pc := 131) D_Search_triesFrees_131 rfl) D_Search_triesFrees_132 ⟨rfl, rfl, by decide, q_812⟩ (fun _ _ => rfl)) (EJ_iload_n (j := 3) (i := 3) (pc := 135) D_Search_triesFrees_135 rfl) D_Search_triesFrees_136) AJ_nil)) m_Fit_put E1_U D_Search_triesFrees_137 rfl rfl rfl q_857 q_741 q_742 q_95 ⟨by decide +kernel, by decide +kernel, by decide +kernel⟩ (by decide) (show 2 + 1 ≤ 4 + n + 1 from by omega) (show ∀ x_ ∈ ([47, 48] : List Nat), x_ ∈ ([3, 4, 8, 43, 44, 45, 46, 47, 48, 49, 51] : List Nat) from by decide)))
 (SJ_if (p0 := 140) (pT := 152) (pF := 154) (nN := 154) (nB := 160) (nC := 154) (CZ_ne' (off := 5) (tgt := 154) (p0 := 140) (p1 := 149) (EJ_callV (t := 8) (c := 7) (r := (RX7, TX7, 11)) (p0 := 140) (p1 := 141) (p2 := 146) (EJ_aload_n (j := 0) (i := 0) (pc := 140) D_Search_triesFrees_140 rfl) (AJ_R (p0 := 141) (p1 := 142) (p2 := 146) (EJ_aload_n (j := 1) (i := 1) (pc := 141) D_Search_triesFrees_141 rfl) (AJ_R (p0 := 142) (p1 := 143) (p2 := 146) (EJ_aload_n (j := 2) (i := 2) (pc := 142) D_Search_triesFrees_142 rfl) (AJ_I (p0 := 143) (p1 := 146) (p2 := 146) (EJ_iadd (p0 := 143) (p1 := 144) (p2 := 145) (EJ_iload_n (j := 3) (i := 3) (pc := 143) D_Search_triesFrees_143 rfl) (EJ_iconst (n := 1) (v := (nI 1)) (pc := 144) D_Search_triesFrees_144 (by decide +kernel)) D_Search_triesFrees_145) AJ_nil))) h2 E1_I D_Search_triesFrees_146 rfl rfl rfl q_836 q_837 q_27 q_96 ⟨by decide +kernel, by decide +kernel, by decide +kernel⟩ (by decide) (Nat.le_refl _) (show ∀ x_ ∈ ([3, 4, 8, 43, 44, 45, 46, 47, 48, 49, 51] : List Nat), x_ ∈ ([3, 4, 8, 43, 44, 45, 46, 47, 48, 49, 51] : List Nat) from by decide)) D_Search_triesFrees_149 rfl) (SJ_ret (p0 := 152) (p1 := 153) (EJ_iconst (n := 1) (v := (nI 1)) (pc := 152) D_Search_triesFrees_152 (by decide +kernel)) D_Search_triesFrees_153) SJ_sk)))
 (SJ_post (SJ_iinc (i := 6) (n := 1) (v := (nI 1)) (pc := 154) D_Search_triesFrees_154 (by decide +kernel)) (Lead.goto (K := (K_Search_triesFrees n)) (pc := 157) (tgt := 85) D_Search_triesFrees_157 rfl))))
 (SJ_ret (p0 := 160) (p1 := 161) (EJ_iconst (n := 0) (v := (nI 0)) (pc := 160) D_Search_triesFrees_160 (by decide +kernel)) D_Search_triesFrees_161))))))
 RTm_bool q_838 (by decide +kernel) rfl (fun h => by cases h) (show 7 ≤ 40 from by decide) (fun _ => trivial)
theorem D_Search_triesMembers_0 : decode cX7_triesMembers 0 = .ok (.iload_n 3, 1) := by decide +kernel
theorem D_Search_triesMembers_1 : decode cX7_triesMembers 1 = .ok (.aload_n 2, 1) := by decide +kernel
theorem D_Search_triesMembers_2 : decode cX7_triesMembers 2 = .ok (.getfield 201, 3) := by decide +kernel
theorem D_Search_triesMembers_5 : decode cX7_triesMembers 5 = .ok (.if_icmp .lt (14), 3) := by decide +kernel
theorem D_Search_triesMembers_8 : decode cX7_triesMembers 8 = .ok (.iload 5, 2) := by decide +kernel
theorem D_Search_triesMembers_10 : decode cX7_triesMembers 10 = .ok (.ifCond .ne (7), 3) := by decide +kernel
theorem D_Search_triesMembers_13 : decode cX7_triesMembers 13 = .ok (.iconst (1), 1) := by decide +kernel
theorem D_Search_triesMembers_14 : decode cX7_triesMembers 14 = .ok (.goto (4), 3) := by decide +kernel
theorem D_Search_triesMembers_17 : decode cX7_triesMembers 17 = .ok (.iconst (0), 1) := by decide +kernel
theorem D_Search_triesMembers_18 : decode cX7_triesMembers 18 = .ok (.ireturn, 1) := by decide +kernel
theorem D_Search_triesMembers_19 : decode cX7_triesMembers 19 = .ok (.aload_n 2, 1) := by decide +kernel
theorem D_Search_triesMembers_20 : decode cX7_triesMembers 20 = .ok (.iload_n 3, 1) := by decide +kernel
theorem D_Search_triesMembers_21 : decode cX7_triesMembers 21 = .ok (.invokevirtual 194, 3) := by decide +kernel
theorem D_Search_triesMembers_24 : decode cX7_triesMembers 24 = .ok (.istore 6, 2) := by decide +kernel
theorem D_Search_triesMembers_26 : decode cX7_triesMembers 26 = .ok (.iload 6, 2) := by decide +kernel
theorem D_Search_triesMembers_28 : decode cX7_triesMembers 28 = .ok (.ifCond .eq (10), 3) := by decide +kernel
theorem D_Search_triesMembers_31 : decode cX7_triesMembers 31 = .ok (.iload 5, 2) := by decide +kernel
theorem D_Search_triesMembers_33 : decode cX7_triesMembers 33 = .ok (.ifCond .ne (5), 3) := by decide +kernel
theorem D_Search_triesMembers_36 : decode cX7_triesMembers 36 = .ok (.iconst (0), 1) := by decide +kernel
theorem D_Search_triesMembers_37 : decode cX7_triesMembers 37 = .ok (.ireturn, 1) := by decide +kernel
theorem D_Search_triesMembers_38 : decode cX7_triesMembers 38 = .ok (.aload_n 0, 1) := by decide +kernel
theorem D_Search_triesMembers_39 : decode cX7_triesMembers 39 = .ok (.getfield 25, 3) := by decide +kernel
theorem D_Search_triesMembers_42 : decode cX7_triesMembers 42 = .ok (.aload_n 1, 1) := by decide +kernel
theorem D_Search_triesMembers_43 : decode cX7_triesMembers 43 = .ok (.getfield 65, 3) := by decide +kernel
theorem D_Search_triesMembers_46 : decode cX7_triesMembers 46 = .ok (.aaload, 1) := by decide +kernel
theorem D_Search_triesMembers_47 : decode cX7_triesMembers 47 = .ok (.aload_n 2, 1) := by decide +kernel
theorem D_Search_triesMembers_48 : decode cX7_triesMembers 48 = .ok (.getfield 186, 3) := by decide +kernel
theorem D_Search_triesMembers_51 : decode cX7_triesMembers 51 = .ok (.iload_n 3, 1) := by decide +kernel
theorem D_Search_triesMembers_52 : decode cX7_triesMembers 52 = .ok (.aaload, 1) := by decide +kernel
theorem D_Search_triesMembers_53 : decode cX7_triesMembers 53 = .ok (.invokevirtual 190, 3) := by decide +kernel
theorem D_Search_triesMembers_56 : decode cX7_triesMembers 56 = .ok (.lstore 7, 2) := by decide +kernel
theorem D_Search_triesMembers_58 : decode cX7_triesMembers 58 = .ok (.lload 7, 2) := by decide +kernel
theorem D_Search_triesMembers_60 : decode cX7_triesMembers 60 = .ok (.ldc2_w 199, 3) := by decide +kernel
theorem D_Search_triesMembers_63 : decode cX7_triesMembers 63 = .ok (.lcmp, 1) := by decide +kernel
theorem D_Search_triesMembers_64 : decode cX7_triesMembers 64 = .ok (.ifCond .ne (5), 3) := by decide +kernel
theorem D_Search_triesMembers_67 : decode cX7_triesMembers 67 = .ok (.iconst (0), 1) := by decide +kernel
theorem D_Search_triesMembers_68 : decode cX7_triesMembers 68 = .ok (.ireturn, 1) := by decide +kernel
theorem D_Search_triesMembers_69 : decode cX7_triesMembers 69 = .ok (.iload 6, 2) := by decide +kernel
theorem D_Search_triesMembers_71 : decode cX7_triesMembers 71 = .ok (.ifCond .eq (42), 3) := by decide +kernel
theorem D_Search_triesMembers_74 : decode cX7_triesMembers 74 = .ok (.aload_n 0, 1) := by decide +kernel
theorem D_Search_triesMembers_75 : decode cX7_triesMembers 75 = .ok (.getfield 9, 3) := by decide +kernel
theorem D_Search_triesMembers_78 : decode cX7_triesMembers 78 = .ok (.iload 4, 2) := by decide +kernel
theorem D_Search_triesMembers_80 : decode cX7_triesMembers 80 = .ok (.laload, 1) := by decide +kernel
theorem D_Search_triesMembers_81 : decode cX7_triesMembers 81 = .ok (.lload 7, 2) := by decide +kernel
theorem D_Search_triesMembers_83 : decode cX7_triesMembers 83 = .ok (.lcmp, 1) := by decide +kernel
theorem D_Search_triesMembers_84 : decode cX7_triesMembers 84 = .ok (.ifCond .ne (27), 3) := by decide +kernel
theorem D_Search_triesMembers_87 : decode cX7_triesMembers 87 = .ok (.aload_n 0, 1) := by decide +kernel
theorem D_Search_triesMembers_88 : decode cX7_triesMembers 88 = .ok (.aload_n 1, 1) := by decide +kernel
theorem D_Search_triesMembers_89 : decode cX7_triesMembers 89 = .ok (.aload_n 2, 1) := by decide +kernel
theorem D_Search_triesMembers_90 : decode cX7_triesMembers 90 = .ok (.iload_n 3, 1) := by decide +kernel
theorem D_Search_triesMembers_91 : decode cX7_triesMembers 91 = .ok (.iconst (1), 1) := by decide +kernel
theorem D_Search_triesMembers_92 : decode cX7_triesMembers 92 = .ok (.iadd, 1) := by decide +kernel
theorem D_Search_triesMembers_93 : decode cX7_triesMembers 93 = .ok (.iload 4, 2) := by decide +kernel
theorem D_Search_triesMembers_95 : decode cX7_triesMembers 95 = .ok (.iconst (1), 1) := by decide +kernel
theorem D_Search_triesMembers_96 : decode cX7_triesMembers 96 = .ok (.iadd, 1) := by decide +kernel
theorem D_Search_triesMembers_97 : decode cX7_triesMembers 97 = .ok (.iload 5, 2) := by decide +kernel
theorem D_Search_triesMembers_99 : decode cX7_triesMembers 99 = .ok (.iconst (1), 1) := by decide +kernel
theorem D_Search_triesMembers_100 : decode cX7_triesMembers 100 = .ok (.isub, 1) := by decide +kernel
theorem D_Search_triesMembers_101 : decode cX7_triesMembers 101 = .ok (.invokevirtual 153, 3) := by decide +kernel
theorem D_Search_triesMembers_104 : decode cX7_triesMembers 104 = .ok (.ifCond .eq (7), 3) := by decide +kernel
theorem D_Search_triesMembers_107 : decode cX7_triesMembers 107 = .ok (.iconst (1), 1) := by decide +kernel
theorem D_Search_triesMembers_108 : decode cX7_triesMembers 108 = .ok (.goto (4), 3) := by decide +kernel
theorem D_Search_triesMembers_111 : decode cX7_triesMembers 111 = .ok (.iconst (0), 1) := by decide +kernel
theorem D_Search_triesMembers_112 : decode cX7_triesMembers 112 = .ok (.ireturn, 1) := by decide +kernel
theorem D_Search_triesMembers_113 : decode cX7_triesMembers 113 = .ok (.aload_n 0, 1) := by decide +kernel
theorem D_Search_triesMembers_114 : decode cX7_triesMembers 114 = .ok (.getfield 55, 3) := by decide +kernel
theorem D_Search_triesMembers_117 : decode cX7_triesMembers 117 = .ok (.istore 9, 2) := by decide +kernel
theorem D_Search_triesMembers_119 : decode cX7_triesMembers 119 = .ok (.iload_n 3, 1) := by decide +kernel
theorem D_Search_triesMembers_120 : decode cX7_triesMembers 120 = .ok (.aload_n 2, 1) := by decide +kernel
theorem D_Search_triesMembers_121 : decode cX7_triesMembers 121 = .ok (.getfield 201, 3) := by decide +kernel
theorem D_Search_triesMembers_124 : decode cX7_triesMembers 124 = .ok (.iconst (1), 1) := by decide +kernel
theorem D_Search_triesMembers_125 : decode cX7_triesMembers 125 = .ok (.isub, 1) := by decide +kernel
theorem D_Search_triesMembers_126 : decode cX7_triesMembers 126 = .ok (.if_icmp .ne (8), 3) := by decide +kernel
theorem D_Search_triesMembers_129 : decode cX7_triesMembers 129 = .ok (.iload 5, 2) := by decide +kernel
theorem D_Search_triesMembers_131 : decode cX7_triesMembers 131 = .ok (.goto (4), 3) := by decide +kernel
theorem D_Search_triesMembers_134 : decode cX7_triesMembers 134 = .ok (.iconst (0), 1) := by decide +kernel
theorem D_Search_triesMembers_135 : decode cX7_triesMembers 135 = .ok (.istore 10, 2) := by decide +kernel
theorem D_Search_triesMembers_137 : decode cX7_triesMembers 137 = .ok (.iload 10, 2) := by decide +kernel
theorem D_Search_triesMembers_139 : decode cX7_triesMembers 139 = .ok (.iload 5, 2) := by decide +kernel
theorem D_Search_triesMembers_141 : decode cX7_triesMembers 141 = .ok (.if_icmp .gt (69), 3) := by decide +kernel
theorem D_Search_triesMembers_144 : decode cX7_triesMembers 144 = .ok (.aload_n 0, 1) := by decide +kernel
theorem D_Search_triesMembers_145 : decode cX7_triesMembers 145 = .ok (.getfield 39, 3) := by decide +kernel
theorem D_Search_triesMembers_148 : decode cX7_triesMembers 148 = .ok (.ifCond .ne (62), 3) := by decide +kernel
theorem D_Search_triesMembers_151 : decode cX7_triesMembers 151 = .ok (.aload_n 0, 1) := by decide +kernel
theorem D_Search_triesMembers_152 : decode cX7_triesMembers 152 = .ok (.iload 9, 2) := by decide +kernel
theorem D_Search_triesMembers_154 : decode cX7_triesMembers 154 = .ok (.putfield 55, 3) := by decide +kernel
theorem D_Search_triesMembers_157 : decode cX7_triesMembers 157 = .ok (.aload_n 0, 1) := by decide +kernel
theorem D_Search_triesMembers_158 : decode cX7_triesMembers 158 = .ok (.aload_n 1, 1) := by decide +kernel
theorem D_Search_triesMembers_159 : decode cX7_triesMembers 159 = .ok (.getfield 65, 3) := by decide +kernel
theorem D_Search_triesMembers_162 : decode cX7_triesMembers 162 = .ok (.iconst (1), 1) := by decide +kernel
theorem D_Search_triesMembers_163 : decode cX7_triesMembers 163 = .ok (.iadd, 1) := by decide +kernel
theorem D_Search_triesMembers_164 : decode cX7_triesMembers 164 = .ok (.lload 7, 2) := by decide +kernel
theorem D_Search_triesMembers_166 : decode cX7_triesMembers 166 = .ok (.iload 4, 2) := by decide +kernel
theorem D_Search_triesMembers_168 : decode cX7_triesMembers 168 = .ok (.iload 10, 2) := by decide +kernel
theorem D_Search_triesMembers_170 : decode cX7_triesMembers 170 = .ok (.aload_n 1, 1) := by decide +kernel
theorem D_Search_triesMembers_171 : decode cX7_triesMembers 171 = .ok (.getfield 123, 3) := by decide +kernel
theorem D_Search_triesMembers_174 : decode cX7_triesMembers 174 = .ok (.invokevirtual 58, 3) := by decide +kernel
theorem D_Search_triesMembers_177 : decode cX7_triesMembers 177 = .ok (.ifCond .eq (27), 3) := by decide +kernel
theorem D_Search_triesMembers_180 : decode cX7_triesMembers 180 = .ok (.aload_n 0, 1) := by decide +kernel
theorem D_Search_triesMembers_181 : decode cX7_triesMembers 181 = .ok (.aload_n 1, 1) := by decide +kernel
theorem D_Search_triesMembers_182 : decode cX7_triesMembers 182 = .ok (.aload_n 2, 1) := by decide +kernel
theorem D_Search_triesMembers_183 : decode cX7_triesMembers 183 = .ok (.iload_n 3, 1) := by decide +kernel
theorem D_Search_triesMembers_184 : decode cX7_triesMembers 184 = .ok (.iconst (1), 1) := by decide +kernel
theorem D_Search_triesMembers_185 : decode cX7_triesMembers 185 = .ok (.iadd, 1) := by decide +kernel
theorem D_Search_triesMembers_186 : decode cX7_triesMembers 186 = .ok (.iload 4, 2) := by decide +kernel
theorem D_Search_triesMembers_188 : decode cX7_triesMembers 188 = .ok (.iload 10, 2) := by decide +kernel
theorem D_Search_triesMembers_190 : decode cX7_triesMembers 190 = .ok (.iadd, 1) := by decide +kernel
theorem D_Search_triesMembers_191 : decode cX7_triesMembers 191 = .ok (.iload 5, 2) := by decide +kernel
theorem D_Search_triesMembers_193 : decode cX7_triesMembers 193 = .ok (.iload 10, 2) := by decide +kernel
theorem D_Search_triesMembers_195 : decode cX7_triesMembers 195 = .ok (.isub, 1) := by decide +kernel
theorem D_Search_triesMembers_196 : decode cX7_triesMembers 196 = .ok (.invokevirtual 153, 3) := by decide +kernel
theorem D_Search_triesMembers_199 : decode cX7_triesMembers 199 = .ok (.ifCond .eq (5), 3) := by decide +kernel
theorem D_Search_triesMembers_202 : decode cX7_triesMembers 202 = .ok (.iconst (1), 1) := by decide +kernel
theorem D_Search_triesMembers_203 : decode cX7_triesMembers 203 = .ok (.ireturn, 1) := by decide +kernel
theorem D_Search_triesMembers_204 : decode cX7_triesMembers 204 = .ok (.iinc 10 (1), 3) := by decide +kernel
theorem D_Search_triesMembers_207 : decode cX7_triesMembers 207 = .ok (.goto (-70), 3) := by decide +kernel
theorem D_Search_triesMembers_210 : decode cX7_triesMembers 210 = .ok (.iconst (0), 1) := by decide +kernel
theorem D_Search_triesMembers_211 : decode cX7_triesMembers 211 = .ok (.ireturn, 1) := by decide +kernel
def K_Search_triesMembers (n : Nat) : SC := (cX7_triesMembers, "TwoLevels$Search", 11, 4 + n + 1, false, [3, 4, 8, 43, 44, 45, 46, 47, 48, 49, 51], NoQ)
def b_Search_triesMembers (R : Nat → MD Int32) : MD Int32 := mth zz 11 (sq (sIf (eh2 c_ge (lI 3) (eh1 (gI 1 2) (lR 2))) (rtn (eIf (eh1 z_eq (lI 5)) (eC (nI 1)) (eC (nI 0)))) sk)
 (sq (sI1 6 (kV 1 d_Choice_isToken (lR 2) [vI (lI 3)]))
 (sq (sIf (cAnd (eh1 z_ne (lI 6)) (eh1 z_eq (lI 5))) (rtn (eC (nI 0))) sk)
 (sq (sJ1 7 (kV 3 d_Fit_spell (eh2 (aR (.object "TwoLevels$Fit")) (eh1 (gR 8 3) (lR 0)) (eh1 (gI 4 2) (lR 1))) [vR (eh2 (aR (.array .int)) (eh1 (gR 1 1) (lR 2)) (lI 3))]))
 (sq (sIf (eh2 j_eq (lJ 7) (eC (-1))) (rtn (eC (nI 0))) sk)
 (sq (sIf (eh1 z_ne (lI 6)) (rtn (eIf (cAnd (eh2 j_eq (eh2 aJ (eh1 (gR 8 2) (lR 0)) (lI 4)) (lJ 7)) (eh1 z_ne (kV 8 (R 3) (lR 0) [vR (lR 1), vR (lR 2), vI (eh2 iaddF (lI 3) (eC (nI 1))), vI (eh2 iaddF (lI 4) (eC (nI 1))), vI (eh2 isubF (lI 5) (eC (nI 1)))]))) (eC (nI 1)) (eC (nI 0)))) sk)
 (sq (sI1 9 (eh1 (gI 8 10) (lR 0)))
 (sq (sq (sI1 10 (eIf (eh2 c_eq (lI 3) (eh2 isubF (eh1 (gI 1 2) (lR 2)) (eC (nI 1)))) (lI 5) (eC (nI 0))))
 (loop (cAnd (eh2 c_le (lI 10) (lI 5)) (cNot (eh1 z_ne (eh1 (gI 8 4) (lR 0)))))
 (sq (sh2 (pI false 8 10) (lR 0) (lI 9))
 (sIf (cAnd (eh1 z_ne (kV 8 (R 0) (lR 0) [vI (eh2 iaddF (eh1 (gI 4 2) (lR 1)) (eC (nI 1))), vJ (lJ 7), vI (lI 4), vI (lI 10), vI (eh1 (gI 4 0) (lR 1))])) (eh1 z_ne (kV 8 (R 3) (lR 0) [vR (lR 1), vR (lR 2), vI (eh2 iaddF (lI 3) (eC (nI 1))), vI (eh2 iaddF (lI 4) (lI 10)), vI (eh2 isubF (lI 5) (lI 10))]))) (rtn (eC (nI 1))) sk))
 (sInc 10 (nI 1))))
 (rtn (eC (nI 0)))))))))))
theorem s_Search_triesMembers (n : Nat) (R : Nat → MD Int32) (h0 : MJ (4 + n) [3, 4, 8, 43, 44, 45, 46, 47, 48, 49, 51] yX7_ask (some .boolean) eI (R 0)) (h3 : MJ (4 + n) [3, 4, 8, 43, 44, 45, 46, 47, 48, 49, 51] yX7_triesMembers (some .boolean) eI (R 3)) : MJ (4 + n + 1) [3, 4, 8, 43, 44, 45, 46, 47, 48, 49, 51] yX7_triesMembers (some .boolean) eI (b_Search_triesMembers R) := MJ_of (K := K_Search_triesMembers n) (ri := .ireturn) (n1 := 0) (n2 := 0) (n3 := 0)
 (SJ_sq (p0 := 0) (p1 := 19) (nN := 0) (nB := 0) (nC := 0) (SJ_if (p0 := 0) (pT := 8) (pF := 19) (nN := 19) (nB := 0) (nC := 0) (CJ_ge' (off := 14) (tgt := 19) (p0 := 0) (p1 := 1) (p2 := 5) (EJ_iload_n (j := 3) (i := 3) (pc := 0) D_Search_triesMembers_0 rfl) (EJ_getI (t := 1) (c := 0) (kf := 2) (r := (RX0, TX0, 10)) (p0 := 1) (p1 := 2) (EJ_aload_n (j := 2) (i := 2) (pc := 1) D_Search_triesMembers_1 rfl) D_Search_triesMembers_2 ⟨rfl, rfl, by decide, q_423⟩ (fun _ _ => rfl)) D_Search_triesMembers_5 rfl) (SJ_ret (p0 := 8) (p1 := 18) (EJ_if (p0 := 8) (pT := 13) (pF := 17) (pE := 14) (p1 := 18) (CZ_eq' (off := 7) (tgt := 17) (p0 := 8) (p1 := 10) (EJ_iload (i := 5) (pc := 8) D_Search_triesMembers_8) D_Search_triesMembers_10 rfl) (EJ_iconst (n := 1) (v := (nI 1)) (pc := 13) D_Search_triesMembers_13 (by decide +kernel)) (Lead.goto (K := (K_Search_triesMembers n)) (pc := 14) (tgt := 18) D_Search_triesMembers_14 rfl) (EJ_iconst (n := 0) (v := (nI 0)) (pc := 17) D_Search_triesMembers_17 (by decide +kernel))) D_Search_triesMembers_18) SJ_sk)
 (SJ_sq (p0 := 19) (p1 := 26) (nN := 0) (nB := 0) (nC := 0) (SJ_istore (i := 6) (p0 := 19) (p1 := 24) (EJ_callV (t := 1) (c := 0) (r := (RX0, TX0, 10)) (p0 := 19) (p1 := 20) (p2 := 21) (EJ_aload_n (j := 2) (i := 2) (pc := 19) D_Search_triesMembers_19 rfl) (AJ_I (p0 := 20) (p1 := 21) (p2 := 21) (EJ_iload_n (j := 3) (i := 3) (pc := 20) D_Search_triesMembers_20 rfl) AJ_nil) m_Choice_isToken E1_I D_Search_triesMembers_21 rfl rfl rfl q_842 q_843 q_844 q_103 ⟨by decide +kernel, by decide +kernel, by decide +kernel⟩ (by decide) (show 1 + 1 ≤ 4 + n + 1 from by omega) (fun _ h => absurd h List.not_mem_nil)) D_Search_triesMembers_24)
 (SJ_sq (p0 := 26) (p1 := 38) (nN := 0) (nB := 0) (nC := 0) (SJ_if (p0 := 26) (pT := 36) (pF := 38) (nN := 38) (nB := 0) (nC := 0) (CJ_and (p0 := 26) (pM := 31) (pT := 36) (pF := 38) (CZ_ne' (off := 10) (tgt := 38) (p0 := 26) (p1 := 28) (EJ_iload (i := 6) (pc := 26) D_Search_triesMembers_26) D_Search_triesMembers_28 rfl) (CZ_eq' (off := 5) (tgt := 38) (p0 := 31) (p1 := 33) (EJ_iload (i := 5) (pc := 31) D_Search_triesMembers_31) D_Search_triesMembers_33 rfl)) (SJ_ret (p0 := 36) (p1 := 37) (EJ_iconst (n := 0) (v := (nI 0)) (pc := 36) D_Search_triesMembers_36 (by decide +kernel)) D_Search_triesMembers_37) SJ_sk)
 (SJ_sq (p0 := 38) (p1 := 58) (nN := 0) (nB := 0) (nC := 0) (SJ_lstore (i := 7) (p0 := 38) (p1 := 56) (EJ_callV (t := 3) (c := 2) (r := (RX2, TX2, 12)) (p0 := 38) (p1 := 47) (p2 := 53) (EJ_aald (p0 := 38) (p1 := 42) (p2 := 46) (EJ_getR (t := 8) (c := 7) (kf := 3) (r := (RX7, TX7, 11)) (p0 := 38) (p1 := 39) (EJ_aload_n (j := 0) (i := 0) (pc := 38) D_Search_triesMembers_38 rfl) D_Search_triesMembers_39 ⟨rfl, rfl, by decide, q_231⟩ (fun _ _ => rfl)) (EJ_getI (t := 4) (c := 3) (kf := 2) (r := (RX3, TX3, 11)) (p0 := 42) (p1 := 43) (EJ_aload_n (j := 1) (i := 1) (pc := 42) D_Search_triesMembers_42 rfl) D_Search_triesMembers_43 ⟨rfl, rfl, by decide, q_795⟩ (fun _ _ => rfl)) D_Search_triesMembers_46 (Or.inl ⟨_, rfl⟩)) (AJ_R (p0 := 47) (p1 := 53) (p2 := 53) (EJ_aald (p0 := 47) (p1 := 51) (p2 := 52) (EJ_getR (t := 1) (c := 0) (kf := 1) (r := (RX0, TX0, 10)) (p0 := 47) (p1 := 48) (EJ_aload_n (j := 2) (i := 2) (pc := 47) D_Search_triesMembers_47 rfl) D_Search_triesMembers_48 ⟨rfl, rfl, by decide, q_421⟩ (fun _ _ => rfl)) (EJ_iload_n (j := 3) (i := 3) (pc := 51) D_Search_triesMembers_51 rfl) D_Search_triesMembers_52 (Or.inr ⟨_, rfl⟩)) AJ_nil) m_Fit_spell E1_J D_Search_triesMembers_53 rfl rfl rfl q_846 q_847 q_848 q_95 ⟨by decide +kernel, by decide +kernel, by decide +kernel⟩ (by decide) (show 1 + 1 ≤ 4 + n + 1 from by omega) (fun _ h => absurd h List.not_mem_nil)) D_Search_triesMembers_56)
 (SJ_sq (p0 := 58) (p1 := 69) (nN := 0) (nB := 0) (nC := 0) (SJ_if (p0 := 58) (pT := 67) (pF := 69) (nN := 69) (nB := 0) (nC := 0) (CL_eq' (off := 5) (tgt := 69) (p0 := 58) (p1 := 60) (p2 := 63) (EJ_lload (i := 7) (pc := 58) D_Search_triesMembers_58) (EJ_ldc2 (i := 199) (v := (-1)) (pc := 60) D_Search_triesMembers_60 q_851) D_Search_triesMembers_63 D_Search_triesMembers_64 rfl) (SJ_ret (p0 := 67) (p1 := 68) (EJ_iconst (n := 0) (v := (nI 0)) (pc := 67) D_Search_triesMembers_67 (by decide +kernel)) D_Search_triesMembers_68) SJ_sk)
 (SJ_sq (p0 := 69) (p1 := 113) (nN := 0) (nB := 0) (nC := 0) (SJ_if (p0 := 69) (pT := 74) (pF := 113) (nN := 113) (nB := 0) (nC := 0) (CZ_ne' (off := 42) (tgt := 113) (p0 := 69) (p1 := 71) (EJ_iload (i := 6) (pc := 69) D_Search_triesMembers_69) D_Search_triesMembers_71 rfl) (SJ_ret (p0 := 74) (p1 := 112) (EJ_if (p0 := 74) (pT := 107) (pF := 111) (pE := 108) (p1 := 112) (CJ_and (p0 := 74) (pM := 87) (pT := 107) (pF := 111) (CL_eq' (off := 27) (tgt := 111) (p0 := 74) (p1 := 81) (p2 := 83) (EJ_lald (p0 := 74) (p1 := 78) (p2 := 80) (EJ_getR (t := 8) (c := 7) (kf := 2) (r := (RX7, TX7, 11)) (p0 := 74) (p1 := 75) (EJ_aload_n (j := 0) (i := 0) (pc := 74) D_Search_triesMembers_74 rfl) D_Search_triesMembers_75 ⟨rfl, rfl, by decide, q_230⟩ (fun _ _ => rfl)) (EJ_iload (i := 4) (pc := 78) D_Search_triesMembers_78) D_Search_triesMembers_80) (EJ_lload (i := 7) (pc := 81) D_Search_triesMembers_81) D_Search_triesMembers_83 D_Search_triesMembers_84 rfl) (CZ_ne' (off := 7) (tgt := 111) (p0 := 87) (p1 := 104) (EJ_callV (t := 8) (c := 7) (r := (RX7, TX7, 11)) (p0 := 87) (p1 := 88) (p2 := 101) (EJ_aload_n (j := 0) (i := 0) (pc := 87) D_Search_triesMembers_87 rfl) (AJ_R (p0 := 88) (p1 := 89) (p2 := 101) (EJ_aload_n (j := 1) (i := 1) (pc := 88) D_Search_triesMembers_88 rfl) (AJ_R (p0 := 89) (p1 := 90) (p2 := 101) (EJ_aload_n (j := 2) (i := 2) (pc := 89) D_Search_triesMembers_89 rfl) (AJ_I (p0 := 90) (p1 := 93) (p2 := 101) (EJ_iadd (p0 := 90) (p1 := 91) (p2 := 92) (EJ_iload_n (j := 3) (i := 3) (pc := 90) D_Search_triesMembers_90 rfl) (EJ_iconst (n := 1) (v := (nI 1)) (pc := 91) D_Search_triesMembers_91 (by decide +kernel)) D_Search_triesMembers_92) (AJ_I (p0 := 93) (p1 := 97) (p2 := 101) (EJ_iadd (p0 := 93) (p1 := 95) (p2 := 96) (EJ_iload (i := 4) (pc := 93) D_Search_triesMembers_93) (EJ_iconst (n := 1) (v := (nI 1)) (pc := 95) D_Search_triesMembers_95 (by decide +kernel)) D_Search_triesMembers_96) (AJ_I (p0 := 97) (p1 := 101) (p2 := 101) (EJ_isub (p0 := 97) (p1 := 99) (p2 := 100) (EJ_iload (i := 5) (pc := 97) D_Search_triesMembers_97) (EJ_iconst (n := 1) (v := (nI 1)) (pc := 99) D_Search_triesMembers_99 (by decide +kernel)) D_Search_triesMembers_100) AJ_nil))))) h3 E1_I D_Search_triesMembers_101 rfl rfl rfl q_839 q_840 q_28 q_96 ⟨by decide +kernel, by decide +kernel, by decide +kernel⟩ (by decide) (Nat.le_refl _) (show ∀ x_ ∈ ([3, 4, 8, 43, 44, 45, 46, 47, 48, 49, 51] : List Nat), x_ ∈ ([3, 4, 8, 43, 44, 45, 46, 47, 48, 49, 51] : List Nat) from by decide)) D_Search_triesMembers_104 rfl)) (EJ_iconst (n := 1) (v := (nI 1)) (pc := 107) D_Search_triesMembers_107 (by decide +kernel)) (Lead.goto (K := (K_Search_triesMembers n)) (pc := 108) (tgt := 112) D_Search_triesMembers_108 rfl) (EJ_iconst (n := 0) (v := (nI 0)) (pc := 111) D_Search_triesMembers_111 (by decide +kernel))) D_Search_triesMembers_112) SJ_sk)
 (SJ_sq (p0 := 113) (p1 := 119) (nN := 0) (nB := 0) (nC := 0) (SJ_istore (i := 9) (p0 := 113) (p1 := 117) (EJ_getI (t := 8) (c := 7) (kf := 10) (r := (RX7, TX7, 11)) (p0 := 113) (p1 := 114) (EJ_aload_n (j := 0) (i := 0) (pc := 113) D_Search_triesMembers_113 rfl) D_Search_triesMembers_114 ⟨rfl, rfl, by decide, q_242⟩ (fun _ _ => rfl)) D_Search_triesMembers_117)
 (SJ_sq (p0 := 119) (p1 := 210) (nN := 0) (nB := 0) (nC := 0) (SJ_sq (p0 := 119) (p1 := 137) (nN := 210) (nB := 0) (nC := 0) (SJ_istore (i := 10) (p0 := 119) (p1 := 135) (EJ_if (p0 := 119) (pT := 129) (pF := 134) (pE := 131) (p1 := 135) (CJ_eq' (off := 8) (tgt := 134) (p0 := 119) (p1 := 120) (p2 := 126) (EJ_iload_n (j := 3) (i := 3) (pc := 119) D_Search_triesMembers_119 rfl) (EJ_isub (p0 := 120) (p1 := 124) (p2 := 125) (EJ_getI (t := 1) (c := 0) (kf := 2) (r := (RX0, TX0, 10)) (p0 := 120) (p1 := 121) (EJ_aload_n (j := 2) (i := 2) (pc := 120) D_Search_triesMembers_120 rfl) D_Search_triesMembers_121 ⟨rfl, rfl, by decide, q_423⟩ (fun _ _ => rfl)) (EJ_iconst (n := 1) (v := (nI 1)) (pc := 124) D_Search_triesMembers_124 (by decide +kernel)) D_Search_triesMembers_125) D_Search_triesMembers_126 rfl) (EJ_iload (i := 5) (pc := 129) D_Search_triesMembers_129) (Lead.goto (K := (K_Search_triesMembers n)) (pc := 131) (tgt := 135) D_Search_triesMembers_131 rfl) (EJ_iconst (n := 0) (v := (nI 0)) (pc := 134) D_Search_triesMembers_134 (by decide +kernel))) D_Search_triesMembers_135)
 (SJ_loop (p0 := 137) (pB := 151) (pS := 204) (pE := 210) (CJ_and (p0 := 137) (pM := 144) (pT := 151) (pF := 210) (CJ_le' (off := 69) (tgt := 210) (p0 := 137) (p1 := 139) (p2 := 141) (EJ_iload (i := 10) (pc := 137) D_Search_triesMembers_137) (EJ_iload (i := 5) (pc := 139) D_Search_triesMembers_139) D_Search_triesMembers_141 rfl) (CJ_not (p0 := 144) (pT := 151) (pF := 210) (CZ_ne (off := 62) (tgt := 210) (p0 := 144) (p1 := 148) (EJ_getI (t := 8) (c := 7) (kf := 4) (r := (RX7, TX7, 11)) (p0 := 144) (p1 := 145) (EJ_aload_n (j := 0) (i := 0) (pc := 144) D_Search_triesMembers_144 rfl) D_Search_triesMembers_145 ⟨rfl, rfl, by decide, q_232⟩ (fun _ _ => rfl)) D_Search_triesMembers_148 rfl)))
 (SJ_sq (p0 := 151) (p1 := 157) (nN := 204) (nB := 210) (nC := 204) (SJ_putI (z := false) (t := 8) (c := 7) (kf := 10) (r := (RX7, TX7, 11)) (p0 := 151) (p1 := 152) (p2 := 154) (EJ_aload_n (j := 0) (i := 0) (pc := 151) D_Search_triesMembers_151 rfl) (EJ_iload (i := 9) (pc := 152) D_Search_triesMembers_152) D_Search_triesMembers_154 ⟨rfl, rfl, by decide, q_242⟩ (Or.inl rfl) (fun _ _ => ⟨rfl, rfl⟩) (fun _ _ => rfl) (show (8 : Nat) ∈ ([3, 4, 8, 43, 44, 45, 46, 47, 48, 49, 51] : List Nat) from by decide))
 (SJ_if (p0 := 157) (pT := 202) (pF := 204) (nN := 204) (nB := 210) (nC := 204) (CJ_and (p0 := 157) (pM := 180) (pT := 202) (pF := 204) (CZ_ne' (off := 27) (tgt := 204) (p0 := 157) (p1 := 177) (EJ_callV (t := 8) (c := 7) (r := (RX7, TX7, 11)) (p0 := 157) (p1 := 158) (p2 := 174) (EJ_aload_n (j := 0) (i := 0) (pc := 157) D_Search_triesMembers_157 rfl) (AJ_I (p0 := 158) (p1 := 164) (p2 := 174) (EJ_iadd (p0 := 158) (p1 := 162) (p2 := 163) (EJ_getI (t := 4) (c := 3) (kf := 2) (r := (RX3, TX3, 11)) (p0 := 158) (p1 := 159) (EJ_aload_n (j := 1) (i := 1) (pc := 158) D_Search_triesMembers_158 rfl) D_Search_triesMembers_159 ⟨rfl, rfl, by decide, q_795⟩ (fun _ _ => rfl)) (EJ_iconst (n := 1) (v := (nI 1)) (pc := 162) D_Search_triesMembers_162 (by decide +kernel)) D_Search_triesMembers_163) (AJ_J (p0 := 164) (p1 := 166) (p2 := 174) (EJ_lload (i := 7) (pc := 164) D_Search_triesMembers_164) (AJ_I (p0 := 166) (p1 := 168) (p2 := 174) (EJ_iload (i := 4) (pc := 166) D_Search_triesMembers_166) (AJ_I (p0 := 168) (p1 := 170) (p2 := 174) (EJ_iload (i := 10) (pc := 168) D_Search_triesMembers_168) (AJ_I (p0 := 170) (p1 := 174) (p2 := 174) (EJ_getI (t := 4) (c := 3) (kf := 0) (r := (RX3, TX3, 11)) (p0 := 170) (p1 := 171) (EJ_aload_n (j := 1) (i := 1) (pc := 170) D_Search_triesMembers_170 rfl) D_Search_triesMembers_171 ⟨rfl, rfl, by decide, q_792⟩ (fun _ _ => rfl)) AJ_nil))))) h0 E1_I D_Search_triesMembers_174 rfl rfl rfl q_777 q_778 q_24 q_96 ⟨by decide +kernel, by decide +kernel, by decide +kernel⟩ (by decide) (Nat.le_refl _) (show ∀ x_ ∈ ([3, 4, 8, 43, 44, 45, 46, 47, 48, 49, 51] : List Nat), x_ ∈ ([3, 4, 8, 43, 44, 45, 46, 47, 48, 49, 51] : List Nat) from by decide)) D_Search_triesMembers_177 rfl) (CZ_ne' (off := 5) (tgt := 204) (p0 := 180) (p1 := 199) (EJ_callV (t := 8) (c := 7) (r := (RX7, TX7, 11)) (p0 := 180) (p1 := 181) (p2 := 196) (EJ_aload_n (j := 0) (i := 0) (pc := 180) D_Search_triesMembers_180 rfl) (AJ_R (p0 := 181) (p1 := 182) (p2 := 196) (EJ_aload_n (j := 1) (i := 1) (pc := 181) D_Search_triesMembers_181 rfl) (AJ_R (p0 := 182) (p1 := 183) (p2 := 196) (EJ_aload_n (j := 2) (i := 2) (pc := 182) D_Search_triesMembers_182 rfl) (AJ_I (p0 := 183) (p1 := 186) (p2 := 196) (EJ_iadd (p0 := 183) (p1 := 184) (p2 := 185) (EJ_iload_n (j := 3) (i := 3) (pc := 183) D_Search_triesMembers_183 rfl) (EJ_iconst (n := 1) (v := (nI 1)) (pc := 184) D_Search_triesMembers_184 (by decide +kernel)) D_Search_triesMembers_185) (AJ_I (p0 := 186) (p1 := 191) (p2 := 196) (EJ_iadd (p0 := 186) (p1 := 188) (p2 := 190) (EJ_iload (i := 4) (pc := 186) D_Search_triesMembers_186) (EJ_iload (i := 10) (pc := 188) D_Search_triesMembers_188) D_Search_triesMembers_190) (AJ_I (p0 := 191) (p1 := 196) (p2 := 196) (EJ_isub (p0 := 191) (p1 := 193) (p2 := 195) (EJ_iload (i := 5) (pc := 191) D_Search_triesMembers_191) (EJ_iload (i := 10) (pc := 193) D_Search_triesMembers_193) D_Search_triesMembers_195) AJ_nil))))) h3 E1_I D_Search_triesMembers_196 rfl rfl rfl q_839 q_840 q_28 q_96 ⟨by decide +kernel, by decide +kernel, by decide +kernel⟩ (by decide) (Nat.le_refl _) (show ∀ x_ ∈ ([3, 4, 8, 43, 44, 45, 46, 47, 48, 49, 51] : List Nat), x_ ∈ ([3, 4, 8, 43, 44, 45, 46, 47, 48, 49, 51] : List Nat) from by decide)) D_Search_triesMembers_199 rfl)) (SJ_ret (p0 := 202) (p1 := 203) (EJ_iconst (n := 1) (v := (nI 1)) (pc := 202) D_Search_triesMembers_202 (by decide +kernel)) D_Search_triesMembers_203) SJ_sk))
 (SJ_post (SJ_iinc (i := 10) (n := 1) (v := (nI 1)) (pc := 204) D_Search_triesMembers_204 (by decide +kernel)) (Lead.goto (K := (K_Search_triesMembers n)) (pc := 207) (tgt := 137) D_Search_triesMembers_207 rfl))))
 (SJ_ret (p0 := 210) (p1 := 211) (EJ_iconst (n := 0) (v := (nI 0)) (pc := 210) D_Search_triesMembers_210 (by decide +kernel)) D_Search_triesMembers_211)))))))))
 RTm_bool q_841 (by decide +kernel) rfl (fun h => by cases h) (show 11 ≤ 40 from by decide) (fun _ => trivial)
def R_Search_ask : Nat → Nat → MD Int32
  | 0 => fun _ _ _ => none
  | n + 1 => fun j => match j with | 0 => b_Search_ask (R_Search_ask n) | 1 => b_Search_triesChoices (R_Search_ask n) | 2 => b_Search_triesFrees (R_Search_ask n) | _ => b_Search_triesMembers (R_Search_ask n)
theorem g_Search_ask : ∀ n, MJ (4 + n) [3, 4, 8, 43, 44, 45, 46, 47, 48, 49, 51] yX7_ask (some .boolean) eI (R_Search_ask n 0) ∧ MJ (4 + n) [3, 4, 8, 43, 44, 45, 46, 47, 48, 49, 51] yX7_triesChoices (some .boolean) eI (R_Search_ask n 1) ∧ MJ (4 + n) [3, 4, 8, 43, 44, 45, 46, 47, 48, 49, 51] yX7_triesFrees (some .boolean) eI (R_Search_ask n 2) ∧ MJ (4 + n) [3, 4, 8, 43, 44, 45, 46, 47, 48, 49, 51] yX7_triesMembers (some .boolean) eI (R_Search_ask n 3) := by
  intro n
  induction n with
  | zero => exact ⟨MJ_none q_779 (by decide), MJ_none q_831 (by decide), MJ_none q_838 (by decide), MJ_none q_841 (by decide)⟩
  | succ n ih => exact ⟨s_Search_ask n (R_Search_ask n) ih.2.1, s_Search_triesChoices n (R_Search_ask n) ih.2.2.1, s_Search_triesFrees n (R_Search_ask n) ih.2.2.1 ih.2.2.2, s_Search_triesMembers n (R_Search_ask n) ih.1 ih.2.2.2⟩
def d_Search_ask : MD Int32 := R_Search_ask 200 0
theorem m_Search_ask : MJ 204 [3, 4, 8, 43, 44, 45, 46, 47, 48, 49, 51] yX7_ask (some .boolean) eI d_Search_ask := (g_Search_ask 200).1
def d_Search_triesChoices : MD Int32 := R_Search_ask 200 1
theorem m_Search_triesChoices : MJ 204 [3, 4, 8, 43, 44, 45, 46, 47, 48, 49, 51] yX7_triesChoices (some .boolean) eI d_Search_triesChoices := (g_Search_ask 200).2.1
def d_Search_triesFrees : MD Int32 := R_Search_ask 200 2
theorem m_Search_triesFrees : MJ 204 [3, 4, 8, 43, 44, 45, 46, 47, 48, 49, 51] yX7_triesFrees (some .boolean) eI d_Search_triesFrees := (g_Search_ask 200).2.2.1
def d_Search_triesMembers : MD Int32 := R_Search_ask 200 3
theorem m_Search_triesMembers : MJ 204 [3, 4, 8, 43, 44, 45, 46, 47, 48, 49, 51] yX7_triesMembers (some .boolean) eI d_Search_triesMembers := (g_Search_ask 200).2.2.2
