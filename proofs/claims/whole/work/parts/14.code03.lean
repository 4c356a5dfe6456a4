/-! the program: part 3 -/
theorem D_Fit_reach_0 : decode cX2_reach 0 = .ok (.aload_n 0, 1) := by decide +kernel
theorem D_Fit_reach_1 : decode cX2_reach 1 = .ok (.aload_n 1, 1) := by decide +kernel
theorem D_Fit_reach_2 : decode cX2_reach 2 = .ok (.invokevirtual 100, 3) := by decide +kernel
theorem D_Fit_reach_5 : decode cX2_reach 5 = .ok (.iload_n 2, 1) := by decide +kernel
theorem D_Fit_reach_6 : decode cX2_reach 6 = .ok (.ifCond .lt (7), 3) := by decide +kernel
theorem D_Fit_reach_9 : decode cX2_reach 9 = .ok (.iconst (1), 1) := by decide +kernel
theorem D_Fit_reach_10 : decode cX2_reach 10 = .ok (.goto (4), 3) := by decide +kernel
theorem D_Fit_reach_13 : decode cX2_reach 13 = .ok (.iconst (0), 1) := by decide +kernel
theorem D_Fit_reach_14 : decode cX2_reach 14 = .ok (.istore_n 3, 1) := by decide +kernel
theorem D_Fit_reach_15 : decode cX2_reach 15 = .ok (.iconst (0), 1) := by decide +kernel
theorem D_Fit_reach_16 : decode cX2_reach 16 = .ok (.istore 4, 2) := by decide +kernel
theorem D_Fit_reach_18 : decode cX2_reach 18 = .ok (.iload_n 3, 1) := by decide +kernel
theorem D_Fit_reach_19 : decode cX2_reach 19 = .ok (.ifCond .eq (27), 3) := by decide +kernel
theorem D_Fit_reach_22 : decode cX2_reach 22 = .ok (.iload 4, 2) := by decide +kernel
theorem D_Fit_reach_24 : decode cX2_reach 24 = .ok (.iload_n 2, 1) := by decide +kernel
theorem D_Fit_reach_25 : decode cX2_reach 25 = .ok (.if_icmp .gt (21), 3) := by decide +kernel
theorem D_Fit_reach_28 : decode cX2_reach 28 = .ok (.iload 4, 2) := by decide +kernel
theorem D_Fit_reach_30 : decode cX2_reach 30 = .ok (.ldc 69, 2) := by decide +kernel
theorem D_Fit_reach_32 : decode cX2_reach 32 = .ok (.if_icmp .ge (14), 3) := by decide +kernel
theorem D_Fit_reach_35 : decode cX2_reach 35 = .ok (.aload_n 0, 1) := by decide +kernel
theorem D_Fit_reach_36 : decode cX2_reach 36 = .ok (.invokevirtual 104, 3) := by decide +kernel
theorem D_Fit_reach_39 : decode cX2_reach 39 = .ok (.istore_n 3, 1) := by decide +kernel
theorem D_Fit_reach_40 : decode cX2_reach 40 = .ok (.iinc 4 (1), 3) := by decide +kernel
theorem D_Fit_reach_43 : decode cX2_reach 43 = .ok (.goto (-25), 3) := by decide +kernel
theorem D_Fit_reach_46 : decode cX2_reach 46 = .ok (.iload_n 3, 1) := by decide +kernel
theorem D_Fit_reach_47 : decode cX2_reach 47 = .ok (.ireturn, 1) := by decide +kernel
def K_Fit_reach : SC := (cX2_reach, "TwoLevels$Fit", 5, 5, false, [3, 43, 44, 45, 46, 47, 48], NoQ)
def d_Fit_reach : MD Int32 := mth zz 5 (sq (sE (kV 3 d_Fit_begin (lR 0) [vR (lR 1)]))
 (sq (sI1 3 (eIf (eh1 z_ge (lI 2)) (eC (nI 1)) (eC (nI 0))))
 (sq (sq (sI1 4 (eC (nI 0)))
 (loop (cAnd (cAnd (eh1 z_ne (lI 3)) (eh2 c_le (lI 4) (lI 2))) (eh2 c_lt (lI 4) (eC (nI 1000000))))
 (sI1 3 (kV 3 d_Fit_next (lR 0) []))
 (sInc 4 (nI 1))))
 (rtn (lI 3)))))
theorem m_Fit_reach : MJ 5 [3, 43, 44, 45, 46, 47, 48] yX2_reach (some .boolean) eI (d_Fit_reach) := MJ_of (K := K_Fit_reach) (ri := .ireturn) (n1 := 0) (n2 := 0) (n3 := 0)
 (SJ_sq (p0 := 0) (p1 := 5) (nN := 0) (nB := 0) (nC := 0) (SJ_void (p0 := 0) (p1 := 5) (EJ_callV (t := 3) (c := 2) (r := (RX2, TX2, 12)) (p0 := 0) (p1 := 1) (p2 := 2) (EJ_aload_n (j := 0) (i := 0) (pc := 0) D_Fit_reach_0 rfl) (AJ_R (p0 := 1) (p1 := 2) (p2 := 2) (EJ_aload_n (j := 1) (i := 1) (pc := 1) D_Fit_reach_1 rfl) AJ_nil) m_Fit_begin E1_U D_Fit_reach_2 rfl rfl rfl q_766 q_730 q_731 q_95 ⟨by decide +kernel, by decide +kernel, by decide +kernel⟩ (by decide) (show 4 + 1 ≤ 5 from by decide) (show ∀ x_ ∈ ([3, 43, 44, 46] : List Nat), x_ ∈ ([3, 43, 44, 45, 46, 47, 48] : List Nat) from by decide)))
 (SJ_sq (p0 := 5) (p1 := 15) (nN := 0) (nB := 0) (nC := 0) (SJ_istore_n (i := 3) (j := 3) (p0 := 5) (p1 := 14) (EJ_if (p0 := 5) (pT := 9) (pF := 13) (pE := 10) (p1 := 14) (CZ_ge' (off := 7) (tgt := 13) (p0 := 5) (p1 := 6) (EJ_iload_n (j := 2) (i := 2) (pc := 5) D_Fit_reach_5 rfl) D_Fit_reach_6 rfl) (EJ_iconst (n := 1) (v := (nI 1)) (pc := 9) D_Fit_reach_9 (by decide +kernel)) (Lead.goto (K := K_Fit_reach) (pc := 10) (tgt := 14) D_Fit_reach_10 rfl) (EJ_iconst (n := 0) (v := (nI 0)) (pc := 13) D_Fit_reach_13 (by decide +kernel))) D_Fit_reach_14 rfl)
 (SJ_sq (p0 := 15) (p1 := 46) (nN := 0) (nB := 0) (nC := 0) (SJ_sq (p0 := 15) (p1 := 18) (nN := 46) (nB := 0) (nC := 0) (SJ_istore (i := 4) (p0 := 15) (p1 := 16) (EJ_iconst (n := 0) (v := (nI 0)) (pc := 15) D_Fit_reach_15 (by decide +kernel)) D_Fit_reach_16)
 (SJ_loop (p0 := 18) (pB := 35) (pS := 40) (pE := 46) (CJ_and (p0 := 18) (pM := 28) (pT := 35) (pF := 46) (CJ_and (p0 := 18) (pM := 22) (pT := 28) (pF := 46) (CZ_ne' (off := 27) (tgt := 46) (p0 := 18) (p1 := 19) (EJ_iload_n (j := 3) (i := 3) (pc := 18) D_Fit_reach_18 rfl) D_Fit_reach_19 rfl) (CJ_le' (off := 21) (tgt := 46) (p0 := 22) (p1 := 24) (p2 := 25) (EJ_iload (i := 4) (pc := 22) D_Fit_reach_22) (EJ_iload_n (j := 2) (i := 2) (pc := 24) D_Fit_reach_24 rfl) D_Fit_reach_25 rfl)) (CJ_lt' (off := 14) (tgt := 46) (p0 := 28) (p1 := 30) (p2 := 32) (EJ_iload (i := 4) (pc := 28) D_Fit_reach_28) (EJ_ldc (i := 69) (v := (nI 1000000)) (pc := 30) D_Fit_reach_30 q_683) D_Fit_reach_32 rfl))
 (SJ_istore_n (i := 3) (j := 3) (p0 := 35) (p1 := 39) (EJ_callV (t := 3) (c := 2) (r := (RX2, TX2, 12)) (p0 := 35) (p1 := 36) (p2 := 36) (EJ_aload_n (j := 0) (i := 0) (pc := 35) D_Fit_reach_35 rfl) AJ_nil m_Fit_next E1_I D_Fit_reach_36 rfl rfl rfl q_767 q_735 q_736 q_95 ⟨by decide +kernel, by decide +kernel, by decide +kernel⟩ (by decide) (show 4 + 1 ≤ 5 from by decide) (show ∀ x_ ∈ ([3, 45, 46, 47, 48] : List Nat), x_ ∈ ([3, 43, 44, 45, 46, 47, 48] : List Nat) from by decide)) D_Fit_reach_39 rfl)
 (SJ_post (SJ_iinc (i := 4) (n := 1) (v := (nI 1)) (pc := 40) D_Fit_reach_40 (by decide +kernel)) (Lead.goto (K := K_Fit_reach) (pc := 43) (tgt := 18) D_Fit_reach_43 rfl))))
 (SJ_ret (p0 := 46) (p1 := 47) (EJ_iload_n (j := 3) (i := 3) (pc := 46) D_Fit_reach_46 rfl) D_Fit_reach_47))))
 RTm_bool q_765 (by decide +kernel) rfl (fun h => by cases h) (show 5 ≤ 40 from by decide) (fun _ => trivial)
theorem D_Fit_spell_0 : decode cX2_spell 0 = .ok (.lconst 0, 1) := by decide +kernel
theorem D_Fit_spell_1 : decode cX2_spell 1 = .ok (.lstore_n 3, 1) := by decide +kernel
theorem D_Fit_spell_2 : decode cX2_spell 2 = .ok (.iconst (0), 1) := by decide +kernel
theorem D_Fit_spell_3 : decode cX2_spell 3 = .ok (.istore 5, 2) := by decide +kernel
theorem D_Fit_spell_5 : decode cX2_spell 5 = .ok (.iconst (0), 1) := by decide +kernel
theorem D_Fit_spell_6 : decode cX2_spell 6 = .ok (.istore 6, 2) := by decide +kernel
theorem D_Fit_spell_8 : decode cX2_spell 8 = .ok (.iload 6, 2) := by decide +kernel
theorem D_Fit_spell_10 : decode cX2_spell 10 = .ok (.iload_n 2, 1) := by decide +kernel
theorem D_Fit_spell_11 : decode cX2_spell 11 = .ok (.if_icmp .ge (89), 3) := by decide +kernel
theorem D_Fit_spell_14 : decode cX2_spell 14 = .ok (.iload 6, 2) := by decide +kernel
theorem D_Fit_spell_16 : decode cX2_spell 16 = .ok (.aload_n 1, 1) := by decide +kernel
theorem D_Fit_spell_17 : decode cX2_spell 17 = .ok (.arraylength, 1) := by decide +kernel
theorem D_Fit_spell_18 : decode cX2_spell 18 = .ok (.if_icmp .ge (82), 3) := by decide +kernel
theorem D_Fit_spell_21 : decode cX2_spell 21 = .ok (.aload_n 1, 1) := by decide +kernel
theorem D_Fit_spell_22 : decode cX2_spell 22 = .ok (.iload 6, 2) := by decide +kernel
theorem D_Fit_spell_24 : decode cX2_spell 24 = .ok (.iaload, 1) := by decide +kernel
theorem D_Fit_spell_25 : decode cX2_spell 25 = .ok (.bipush (32), 2) := by decide +kernel
theorem D_Fit_spell_27 : decode cX2_spell 27 = .ok (.isub, 1) := by decide +kernel
theorem D_Fit_spell_28 : decode cX2_spell 28 = .ok (.istore 7, 2) := by decide +kernel
theorem D_Fit_spell_30 : decode cX2_spell 30 = .ok (.iload 7, 2) := by decide +kernel
theorem D_Fit_spell_32 : decode cX2_spell 32 = .ok (.ifCond .ge (7), 3) := by decide +kernel
theorem D_Fit_spell_35 : decode cX2_spell 35 = .ok (.iconst (1), 1) := by decide +kernel
theorem D_Fit_spell_36 : decode cX2_spell 36 = .ok (.goto (10), 3) := by decide +kernel
theorem D_Fit_spell_39 : decode cX2_spell 39 = .ok (.aload_n 0, 1) := by decide +kernel
theorem D_Fit_spell_40 : decode cX2_spell 40 = .ok (.getfield 34, 3) := by decide +kernel
theorem D_Fit_spell_43 : decode cX2_spell 43 = .ok (.iload 7, 2) := by decide +kernel
theorem D_Fit_spell_45 : decode cX2_spell 45 = .ok (.iaload, 1) := by decide +kernel
theorem D_Fit_spell_46 : decode cX2_spell 46 = .ok (.istore 8, 2) := by decide +kernel
theorem D_Fit_spell_48 : decode cX2_spell 48 = .ok (.iload 5, 2) := by decide +kernel
theorem D_Fit_spell_50 : decode cX2_spell 50 = .ok (.iload 8, 2) := by decide +kernel
theorem D_Fit_spell_52 : decode cX2_spell 52 = .ok (.iadd, 1) := by decide +kernel
theorem D_Fit_spell_53 : decode cX2_spell 53 = .ok (.istore 5, 2) := by decide +kernel
theorem D_Fit_spell_55 : decode cX2_spell 55 = .ok (.iload 5, 2) := by decide +kernel
theorem D_Fit_spell_57 : decode cX2_spell 57 = .ok (.bipush (10), 2) := by decide +kernel
theorem D_Fit_spell_59 : decode cX2_spell 59 = .ok (.if_icmp .le (7), 3) := by decide +kernel
theorem D_Fit_spell_62 : decode cX2_spell 62 = .ok (.ldc2_w 137, 3) := by decide +kernel
theorem D_Fit_spell_65 : decode cX2_spell 65 = .ok (.lreturn, 1) := by decide +kernel
theorem D_Fit_spell_66 : decode cX2_spell 66 = .ok (.lload_n 3, 1) := by decide +kernel
theorem D_Fit_spell_67 : decode cX2_spell 67 = .ok (.iconst (5), 1) := by decide +kernel
theorem D_Fit_spell_68 : decode cX2_spell 68 = .ok (.iload 8, 2) := by decide +kernel
theorem D_Fit_spell_70 : decode cX2_spell 70 = .ok (.imul, 1) := by decide +kernel
theorem D_Fit_spell_71 : decode cX2_spell 71 = .ok (.lshl, 1) := by decide +kernel
theorem D_Fit_spell_72 : decode cX2_spell 72 = .ok (.iload 7, 2) := by decide +kernel
theorem D_Fit_spell_74 : decode cX2_spell 74 = .ok (.ifCond .ge (11), 3) := by decide +kernel
theorem D_Fit_spell_77 : decode cX2_spell 77 = .ok (.aload_n 1, 1) := by decide +kernel
theorem D_Fit_spell_78 : decode cX2_spell 78 = .ok (.iload 6, 2) := by decide +kernel
theorem D_Fit_spell_80 : decode cX2_spell 80 = .ok (.iaload, 1) := by decide +kernel
theorem D_Fit_spell_81 : decode cX2_spell 81 = .ok (.i2l, 1) := by decide +kernel
theorem D_Fit_spell_82 : decode cX2_spell 82 = .ok (.goto (10), 3) := by decide +kernel
theorem D_Fit_spell_85 : decode cX2_spell 85 = .ok (.aload_n 0, 1) := by decide +kernel
theorem D_Fit_spell_86 : decode cX2_spell 86 = .ok (.getfield 30, 3) := by decide +kernel
theorem D_Fit_spell_89 : decode cX2_spell 89 = .ok (.iload 7, 2) := by decide +kernel
theorem D_Fit_spell_91 : decode cX2_spell 91 = .ok (.laload, 1) := by decide +kernel
theorem D_Fit_spell_92 : decode cX2_spell 92 = .ok (.lor, 1) := by decide +kernel
theorem D_Fit_spell_93 : decode cX2_spell 93 = .ok (.lstore_n 3, 1) := by decide +kernel
theorem D_Fit_spell_94 : decode cX2_spell 94 = .ok (.iinc 6 (1), 3) := by decide +kernel
theorem D_Fit_spell_97 : decode cX2_spell 97 = .ok (.goto (-89), 3) := by decide +kernel
theorem D_Fit_spell_100 : decode cX2_spell 100 = .ok (.lload_n 3, 1) := by decide +kernel
theorem D_Fit_spell_101 : decode cX2_spell 101 = .ok (.lreturn, 1) := by decide +kernel
def K_Fit_spell : SC := (cX2_spell, "TwoLevels$Fit", 9, 1, false, [], NoQ)
def d_Fit_spell : MD Int64 := mth tt 9 (sq (sJ1 3 (eC (lN 0)))
 (sq (sI1 5 (eC (nI 0)))
 (sq (sq (sI1 6 (eC (nI 0)))
 (loop (cAnd (eh2 c_lt (lI 6) (lI 2)) (eh2 c_lt (lI 6) (eh1 aL (lR 1))))
 (sq (sI1 7 (eh2 isubF (eh2 (aI .int) (lR 1) (lI 6)) (eC (nI 32))))
 (sq (sI1 8 (eIf (eh1 z_lt (lI 7)) (eC (nI 1)) (eh2 (aI .int) (eh1 (gR 3 11) (lR 0)) (lI 7))))
 (sq (sI1 5 (eh2 iaddF (lI 5) (lI 8)))
 (sq (sIf (eh2 c_gt (lI 5) (eC (nI 10))) (rtn (eC (-1))) sk)
 (sJ1 3 (eh2 lorF (eh2 lshlF (lJ 3) (eh2 imulF (eC (nI 5)) (lI 8))) (eIf (eh1 z_lt (lI 7)) (eh1 i2lF (eh2 (aI .int) (lR 1) (lI 6))) (eh2 aJ (eh1 (gR 3 10) (lR 0)) (lI 7)))))))))
 (sInc 6 (nI 1))))
 (rtn (lJ 3)))))
theorem m_Fit_spell : MJ 1 [] yX2_spell (some .long) eJ (d_Fit_spell) := MJ_of (K := K_Fit_spell) (ri := .lreturn) (n1 := 0) (n2 := 0) (n3 := 0)
 (SJ_sq (p0 := 0) (p1 := 2) (nN := 0) (nB := 0) (nC := 0) (SJ_lstore_n (i := 3) (j := 3) (p0 := 0) (p1 := 1) (EJ_lconst (n := 0) (v := (lN 0)) (pc := 0) D_Fit_spell_0 (by decide +kernel)) D_Fit_spell_1 rfl)
 (SJ_sq (p0 := 2) (p1 := 5) (nN := 0) (nB := 0) (nC := 0) (SJ_istore (i := 5) (p0 := 2) (p1 := 3) (EJ_iconst (n := 0) (v := (nI 0)) (pc := 2) D_Fit_spell_2 (by decide +kernel)) D_Fit_spell_3)
 (SJ_sq (p0 := 5) (p1 := 100) (nN := 0) (nB := 0) (nC := 0) (SJ_sq (p0 := 5) (p1 := 8) (nN := 100) (nB := 0) (nC := 0) (SJ_istore (i := 6) (p0 := 5) (p1 := 6) (EJ_iconst (n := 0) (v := (nI 0)) (pc := 5) D_Fit_spell_5 (by decide +kernel)) D_Fit_spell_6)
 (SJ_loop (p0 := 8) (pB := 21) (pS := 94) (pE := 100) (CJ_and (p0 := 8) (pM := 14) (pT := 21) (pF := 100) (CJ_lt' (off := 89) (tgt := 100) (p0 := 8) (p1 := 10) (p2 := 11) (EJ_iload (i := 6) (pc := 8) D_Fit_spell_8) (EJ_iload_n (j := 2) (i := 2) (pc := 10) D_Fit_spell_10 rfl) D_Fit_spell_11 rfl) (CJ_lt' (off := 82) (tgt := 100) (p0 := 14) (p1 := 16) (p2 := 18) (EJ_iload (i := 6) (pc := 14) D_Fit_spell_14) (EJ_alen (p0 := 16) (p1 := 17) (EJ_aload_n (j := 1) (i := 1) (pc := 16) D_Fit_spell_16 rfl) D_Fit_spell_17) D_Fit_spell_18 rfl))
 (SJ_sq (p0 := 21) (p1 := 30) (nN := 94) (nB := 100) (nC := 94) (SJ_istore (i := 7) (p0 := 21) (p1 := 28) (EJ_isub (p0 := 21) (p1 := 25) (p2 := 27) (EJ_iald (p0 := 21) (p1 := 22) (p2 := 24) (EJ_aload_n (j := 1) (i := 1) (pc := 21) D_Fit_spell_21 rfl) (EJ_iload (i := 6) (pc := 22) D_Fit_spell_22) D_Fit_spell_24) (EJ_bipush (n := 32) (v := (nI 32)) (pc := 25) D_Fit_spell_25 (by decide +kernel)) D_Fit_spell_27) D_Fit_spell_28)
 (SJ_sq (p0 := 30) (p1 := 48) (nN := 94) (nB := 100) (nC := 94) (SJ_istore (i := 8) (p0 := 30) (p1 := 46) (EJ_if (p0 := 30) (pT := 35) (pF := 39) (pE := 36) (p1 := 46) (CZ_lt' (off := 7) (tgt := 39) (p0 := 30) (p1 := 32) (EJ_iload (i := 7) (pc := 30) D_Fit_spell_30) D_Fit_spell_32 rfl) (EJ_iconst (n := 1) (v := (nI 1)) (pc := 35) D_Fit_spell_35 (by decide +kernel)) (Lead.goto (K := K_Fit_spell) (pc := 36) (tgt := 46) D_Fit_spell_36 rfl) (EJ_iald (p0 := 39) (p1 := 43) (p2 := 45) (EJ_getR (t := 3) (c := 2) (kf := 11) (r := (RX2, TX2, 12)) (p0 := 39) (p1 := 40) (EJ_aload_n (j := 0) (i := 0) (pc := 39) D_Fit_spell_39 rfl) D_Fit_spell_40 ⟨rfl, rfl, by decide, q_207⟩ (fun _ _ => rfl)) (EJ_iload (i := 7) (pc := 43) D_Fit_spell_43) D_Fit_spell_45)) D_Fit_spell_46)
 (SJ_sq (p0 := 48) (p1 := 55) (nN := 94) (nB := 100) (nC := 94) (SJ_istore (i := 5) (p0 := 48) (p1 := 53) (EJ_iadd (p0 := 48) (p1 := 50) (p2 := 52) (EJ_iload (i := 5) (pc := 48) D_Fit_spell_48) (EJ_iload (i := 8) (pc := 50) D_Fit_spell_50) D_Fit_spell_52) D_Fit_spell_53)
 (SJ_sq (p0 := 55) (p1 := 66) (nN := 94) (nB := 100) (nC := 94) (SJ_if (p0 := 55) (pT := 62) (pF := 66) (nN := 66) (nB := 100) (nC := 94) (CJ_gt' (off := 7) (tgt := 66) (p0 := 55) (p1 := 57) (p2 := 59) (EJ_iload (i := 5) (pc := 55) D_Fit_spell_55) (EJ_bipush (n := 10) (v := (nI 10)) (pc := 57) D_Fit_spell_57 (by decide +kernel)) D_Fit_spell_59 rfl) (SJ_ret (p0 := 62) (p1 := 65) (EJ_ldc2 (i := 137) (v := (-1)) (pc := 62) D_Fit_spell_62 q_854) D_Fit_spell_65) SJ_sk)
 (SJ_lstore_n (i := 3) (j := 3) (p0 := 66) (p1 := 93) (EJ_lor (p0 := 66) (p1 := 72) (p2 := 92) (EJ_lshl (p0 := 66) (p1 := 67) (p2 := 71) (EJ_lload_n (j := 3) (i := 3) (pc := 66) D_Fit_spell_66 rfl) (EJ_imul (p0 := 67) (p1 := 68) (p2 := 70) (EJ_iconst (n := 5) (v := (nI 5)) (pc := 67) D_Fit_spell_67 (by decide +kernel)) (EJ_iload (i := 8) (pc := 68) D_Fit_spell_68) D_Fit_spell_70) D_Fit_spell_71) (EJ_if (p0 := 72) (pT := 77) (pF := 85) (pE := 82) (p1 := 92) (CZ_lt' (off := 11) (tgt := 85) (p0 := 72) (p1 := 74) (EJ_iload (i := 7) (pc := 72) D_Fit_spell_72) D_Fit_spell_74 rfl) (EJ_i2l (p0 := 77) (p1 := 81) (EJ_iald (p0 := 77) (p1 := 78) (p2 := 80) (EJ_aload_n (j := 1) (i := 1) (pc := 77) D_Fit_spell_77 rfl) (EJ_iload (i := 6) (pc := 78) D_Fit_spell_78) D_Fit_spell_80) D_Fit_spell_81) (Lead.goto (K := K_Fit_spell) (pc := 82) (tgt := 92) D_Fit_spell_82 rfl) (EJ_lald (p0 := 85) (p1 := 89) (p2 := 91) (EJ_getR (t := 3) (c := 2) (kf := 10) (r := (RX2, TX2, 12)) (p0 := 85) (p1 := 86) (EJ_aload_n (j := 0) (i := 0) (pc := 85) D_Fit_spell_85 rfl) D_Fit_spell_86 ⟨rfl, rfl, by decide, q_205⟩ (fun _ _ => rfl)) (EJ_iload (i := 7) (pc := 89) D_Fit_spell_89) D_Fit_spell_91)) D_Fit_spell_92) D_Fit_spell_93 rfl)))))
 (SJ_post (SJ_iinc (i := 6) (n := 1) (v := (nI 1)) (pc := 94) D_Fit_spell_94 (by decide +kernel)) (Lead.goto (K := K_Fit_spell) (pc := 97) (tgt := 8) D_Fit_spell_97 rfl))))
 (SJ_ret (p0 := 100) (p1 := 101) (EJ_lload_n (j := 3) (i := 3) (pc := 100) D_Fit_spell_100 rfl) D_Fit_spell_101))))
 RTm_long q_853 (by decide +kernel) rfl (fun h => by cases h) (show 9 ≤ 40 from by decide) (fun _ => trivial)
theorem D_State_hasRule_0 : decode cX9_hasRule 0 = .ok (.iload_n 1, 1) := by decide +kernel
theorem D_State_hasRule_1 : decode cX9_hasRule 1 = .ok (.ifCond .lt (16), 3) := by decide +kernel
theorem D_State_hasRule_4 : decode cX9_hasRule 4 = .ok (.iload_n 1, 1) := by decide +kernel
theorem D_State_hasRule_5 : decode cX9_hasRule 5 = .ok (.aload_n 0, 1) := by decide +kernel
theorem D_State_hasRule_6 : decode cX9_hasRule 6 = .ok (.getfield 13, 3) := by decide +kernel
theorem D_State_hasRule_9 : decode cX9_hasRule 9 = .ok (.arraylength, 1) := by decide +kernel
theorem D_State_hasRule_10 : decode cX9_hasRule 10 = .ok (.if_icmp .ge (7), 3) := by decide +kernel
theorem D_State_hasRule_13 : decode cX9_hasRule 13 = .ok (.iconst (1), 1) := by decide +kernel
theorem D_State_hasRule_14 : decode cX9_hasRule 14 = .ok (.goto (4), 3) := by decide +kernel
theorem D_State_hasRule_17 : decode cX9_hasRule 17 = .ok (.iconst (0), 1) := by decide +kernel
theorem D_State_hasRule_18 : decode cX9_hasRule 18 = .ok (.ireturn, 1) := by decide +kernel
def K_State_hasRule : SC := (cX9_hasRule, "TwoLevels$State", 2, 1, false, [], NoQ)
def d_State_hasRule : MD Int32 := mth zz 2 (rtn (eIf (cAnd (eh1 z_ge (lI 1)) (eh2 c_lt (lI 1) (eh1 aL (eh1 (gR 10 1) (lR 0))))) (eC (nI 1)) (eC (nI 0))))
theorem m_State_hasRule : MJ 1 [] yX9_hasRule (some .boolean) eI (d_State_hasRule) := MJ_of (K := K_State_hasRule) (ri := .ireturn) (n1 := 0) (n2 := 0) (n3 := 0)
 (SJ_ret (p0 := 0) (p1 := 18) (EJ_if (p0 := 0) (pT := 13) (pF := 17) (pE := 14) (p1 := 18) (CJ_and (p0 := 0) (pM := 4) (pT := 13) (pF := 17) (CZ_ge' (off := 16) (tgt := 17) (p0 := 0) (p1 := 1) (EJ_iload_n (j := 1) (i := 1) (pc := 0) D_State_hasRule_0 rfl) D_State_hasRule_1 rfl) (CJ_lt' (off := 7) (tgt := 17) (p0 := 4) (p1 := 5) (p2 := 10) (EJ_iload_n (j := 1) (i := 1) (pc := 4) D_State_hasRule_4 rfl) (EJ_alen (p0 := 5) (p1 := 9) (EJ_getR (t := 10) (c := 9) (kf := 1) (r := (RX9, TX9, 4)) (p0 := 5) (p1 := 6) (EJ_aload_n (j := 0) (i := 0) (pc := 5) D_State_hasRule_5 rfl) D_State_hasRule_6 ⟨rfl, rfl, by decide, q_176⟩ (fun _ _ => rfl)) D_State_hasRule_9) D_State_hasRule_10 rfl)) (EJ_iconst (n := 1) (v := (nI 1)) (pc := 13) D_State_hasRule_13 (by decide +kernel)) (Lead.goto (K := K_State_hasRule) (pc := 14) (tgt := 18) D_State_hasRule_14 rfl) (EJ_iconst (n := 0) (v := (nI 0)) (pc := 17) D_State_hasRule_17 (by decide +kernel))) D_State_hasRule_18)
 RTm_bool q_559 (by decide +kernel) rfl (fun h => by cases h) (show 2 ≤ 40 from by decide) (fun _ => trivial)
theorem D_Rows_byteAt_0 : decode cX5_byteAt 0 = .ok (.lload_n 0, 1) := by decide +kernel
theorem D_Rows_byteAt_1 : decode cX5_byteAt 1 = .ok (.iload_n 2, 1) := by decide +kernel
theorem D_Rows_byteAt_2 : decode cX5_byteAt 2 = .ok (.iload_n 3, 1) := by decide +kernel
theorem D_Rows_byteAt_3 : decode cX5_byteAt 3 = .ok (.invokestatic 9, 3) := by decide +kernel
theorem D_Rows_byteAt_6 : decode cX5_byteAt 6 = .ok (.bipush (97), 2) := by decide +kernel
theorem D_Rows_byteAt_8 : decode cX5_byteAt 8 = .ok (.iadd, 1) := by decide +kernel
theorem D_Rows_byteAt_9 : decode cX5_byteAt 9 = .ok (.iconst (1), 1) := by decide +kernel
theorem D_Rows_byteAt_10 : decode cX5_byteAt 10 = .ok (.isub, 1) := by decide +kernel
theorem D_Rows_byteAt_11 : decode cX5_byteAt 11 = .ok (.ireturn, 1) := by decide +kernel
def K_Rows_byteAt : SC := (cX5_byteAt, "TwoLevels$Rows", 4, 2, false, [], NoQ)
def d_Rows_byteAt : MD Int32 := mth tt 4 (rtn (eh2 isubF (eh2 iaddF (kS d_Rows_numberAt [vJ (lJ 0), vI (lI 2), vI (lI 3)]) (eC (nI 97))) (eC (nI 1))))
theorem m_Rows_byteAt : MJ 2 [] yX5_byteAt (some .int) eI (d_Rows_byteAt) := MJ_of (K := K_Rows_byteAt) (ri := .ireturn) (n1 := 0) (n2 := 0) (n3 := 0)
 (SJ_ret (p0 := 0) (p1 := 11) (EJ_isub (p0 := 0) (p1 := 9) (p2 := 10) (EJ_iadd (p0 := 0) (p1 := 6) (p2 := 8) (EJ_callS (p0 := 0) (p1 := 3) (AJ_J (p0 := 0) (p1 := 1) (p2 := 3) (EJ_lload_n (j := 0) (i := 0) (pc := 0) D_Rows_byteAt_0 rfl) (AJ_I (p0 := 1) (p1 := 2) (p2 := 3) (EJ_iload_n (j := 2) (i := 2) (pc := 1) D_Rows_byteAt_1 rfl) (AJ_I (p0 := 2) (p1 := 3) (p2 := 3) (EJ_iload_n (j := 3) (i := 3) (pc := 2) D_Rows_byteAt_2 rfl) AJ_nil))) m_Rows_numberAt E1_I D_Rows_byteAt_3 q_617 q_618 q_104 ⟨by decide +kernel, by decide +kernel, by decide +kernel⟩ (by decide) (show 1 + 1 ≤ 2 from by decide) (fun _ h => absurd h List.not_mem_nil)) (EJ_bipush (n := 97) (v := (nI 97)) (pc := 6) D_Rows_byteAt_6 (by decide +kernel)) D_Rows_byteAt_8) (EJ_iconst (n := 1) (v := (nI 1)) (pc := 9) D_Rows_byteAt_9 (by decide +kernel)) D_Rows_byteAt_10) D_Rows_byteAt_11)
 RTm_int q_616 (by decide +kernel) rfl (fun h => by cases h) (show 4 ≤ 40 from by decide) (fun _ => trivial)
theorem D_TL_letterOr_0 : decode cX11_letterOr 0 = .ok (.lload_n 0, 1) := by decide +kernel
theorem D_TL_letterOr_1 : decode cX11_letterOr 1 = .ok (.invokestatic 175, 3) := by decide +kernel
theorem D_TL_letterOr_4 : decode cX11_letterOr 4 = .ok (.istore 4, 2) := by decide +kernel
theorem D_TL_letterOr_6 : decode cX11_letterOr 6 = .ok (.iload_n 2, 1) := by decide +kernel
theorem D_TL_letterOr_7 : decode cX11_letterOr 7 = .ok (.ifCond .lt (19), 3) := by decide +kernel
theorem D_TL_letterOr_10 : decode cX11_letterOr 10 = .ok (.iload_n 2, 1) := by decide +kernel
theorem D_TL_letterOr_11 : decode cX11_letterOr 11 = .ok (.iload 4, 2) := by decide +kernel
theorem D_TL_letterOr_13 : decode cX11_letterOr 13 = .ok (.if_icmp .ge (13), 3) := by decide +kernel
theorem D_TL_letterOr_16 : decode cX11_letterOr 16 = .ok (.lload_n 0, 1) := by decide +kernel
theorem D_TL_letterOr_17 : decode cX11_letterOr 17 = .ok (.iload 4, 2) := by decide +kernel
theorem D_TL_letterOr_19 : decode cX11_letterOr 19 = .ok (.iload_n 2, 1) := by decide +kernel
theorem D_TL_letterOr_20 : decode cX11_letterOr 20 = .ok (.invokestatic 179, 3) := by decide +kernel
theorem D_TL_letterOr_23 : decode cX11_letterOr 23 = .ok (.goto (4), 3) := by decide +kernel
theorem D_TL_letterOr_26 : decode cX11_letterOr 26 = .ok (.iload_n 3, 1) := by decide +kernel
theorem D_TL_letterOr_27 : decode cX11_letterOr 27 = .ok (.ireturn, 1) := by decide +kernel
def K_TL_letterOr : SC := (cX11_letterOr, "TwoLevels", 5, 3, false, [], NoQ)
def d_TL_letterOr : MD Int32 := mth tt 5 (sq (sI1 4 (kS d_Rows_size [vJ (lJ 0)]))
 (rtn (eIf (cAnd (eh1 z_ge (lI 2)) (eh2 c_lt (lI 2) (lI 4))) (kS d_Rows_byteAt [vJ (lJ 0), vI (lI 4), vI (lI 2)]) (lI 3))))
theorem m_TL_letterOr : MJ 3 [] yX11_letterOr (some .int) eI (d_TL_letterOr) := MJ_of (K := K_TL_letterOr) (ri := .ireturn) (n1 := 0) (n2 := 0) (n3 := 0)
 (SJ_sq (p0 := 0) (p1 := 6) (nN := 0) (nB := 0) (nC := 0) (SJ_istore (i := 4) (p0 := 0) (p1 := 4) (EJ_callS (p0 := 0) (p1 := 1) (AJ_J (p0 := 0) (p1 := 1) (p2 := 1) (EJ_lload_n (j := 0) (i := 0) (pc := 0) D_TL_letterOr_0 rfl) AJ_nil) m_Rows_size E1_I D_TL_letterOr_1 q_613 q_504 q_104 ⟨by decide +kernel, by decide +kernel, by decide +kernel⟩ (by decide) (show 1 + 1 ≤ 3 from by decide) (fun _ h => absurd h List.not_mem_nil)) D_TL_letterOr_4)
 (SJ_ret (p0 := 6) (p1 := 27) (EJ_if (p0 := 6) (pT := 16) (pF := 26) (pE := 23) (p1 := 27) (CJ_and (p0 := 6) (pM := 10) (pT := 16) (pF := 26) (CZ_ge' (off := 19) (tgt := 26) (p0 := 6) (p1 := 7) (EJ_iload_n (j := 2) (i := 2) (pc := 6) D_TL_letterOr_6 rfl) D_TL_letterOr_7 rfl) (CJ_lt' (off := 13) (tgt := 26) (p0 := 10) (p1 := 11) (p2 := 13) (EJ_iload_n (j := 2) (i := 2) (pc := 10) D_TL_letterOr_10 rfl) (EJ_iload (i := 4) (pc := 11) D_TL_letterOr_11) D_TL_letterOr_13 rfl)) (EJ_callS (p0 := 16) (p1 := 20) (AJ_J (p0 := 16) (p1 := 17) (p2 := 20) (EJ_lload_n (j := 0) (i := 0) (pc := 16) D_TL_letterOr_16 rfl) (AJ_I (p0 := 17) (p1 := 19) (p2 := 20) (EJ_iload (i := 4) (pc := 17) D_TL_letterOr_17) (AJ_I (p0 := 19) (p1 := 20) (p2 := 20) (EJ_iload_n (j := 2) (i := 2) (pc := 19) D_TL_letterOr_19 rfl) AJ_nil))) m_Rows_byteAt E1_I D_TL_letterOr_20 q_614 q_615 q_104 ⟨by decide +kernel, by decide +kernel, by decide +kernel⟩ (by decide) (show 2 + 1 ≤ 3 from by decide) (fun _ h => absurd h List.not_mem_nil)) (Lead.goto (K := K_TL_letterOr) (pc := 23) (tgt := 27) D_TL_letterOr_23 rfl) (EJ_iload_n (j := 3) (i := 3) (pc := 26) D_TL_letterOr_26 rfl)) D_TL_letterOr_27))
 RTm_int q_612 (by decide +kernel) rfl (fun h => by cases h) (show 5 ≤ 40 from by decide) (fun _ => trivial)
theorem D_TL_letterOrSize_0 : decode cX11_letterOrSize 0 = .ok (.iload_n 2, 1) := by decide +kernel
theorem D_TL_letterOrSize_1 : decode cX11_letterOrSize 1 = .ok (.iconst (-1), 1) := by decide +kernel
theorem D_TL_letterOrSize_2 : decode cX11_letterOrSize 2 = .ok (.if_icmp .ne (10), 3) := by decide +kernel
theorem D_TL_letterOrSize_5 : decode cX11_letterOrSize 5 = .ok (.lload_n 0, 1) := by decide +kernel
theorem D_TL_letterOrSize_6 : decode cX11_letterOrSize 6 = .ok (.invokestatic 175, 3) := by decide +kernel
theorem D_TL_letterOrSize_9 : decode cX11_letterOrSize 9 = .ok (.goto (9), 3) := by decide +kernel
theorem D_TL_letterOrSize_12 : decode cX11_letterOrSize 12 = .ok (.lload_n 0, 1) := by decide +kernel
theorem D_TL_letterOrSize_13 : decode cX11_letterOrSize 13 = .ok (.iload_n 2, 1) := by decide +kernel
theorem D_TL_letterOrSize_14 : decode cX11_letterOrSize 14 = .ok (.iload_n 3, 1) := by decide +kernel
theorem D_TL_letterOrSize_15 : decode cX11_letterOrSize 15 = .ok (.invokestatic 171, 3) := by decide +kernel
theorem D_TL_letterOrSize_18 : decode cX11_letterOrSize 18 = .ok (.ireturn, 1) := by decide +kernel
def K_TL_letterOrSize : SC := (cX11_letterOrSize, "TwoLevels", 4, 4, false, [], NoQ)
def d_TL_letterOrSize : MD Int32 := mth tt 4 (rtn (eIf (eh2 c_eq (lI 2) (eC (-1))) (kS d_Rows_size [vJ (lJ 0)]) (kS d_TL_letterOr [vJ (lJ 0), vI (lI 2), vI (lI 3)])))
theorem m_TL_letterOrSize : MJ 4 [] yX11_letterOrSize (some .int) eI (d_TL_letterOrSize) := MJ_of (K := K_TL_letterOrSize) (ri := .ireturn) (n1 := 0) (n2 := 0) (n3 := 0)
 (SJ_ret (p0 := 0) (p1 := 18) (EJ_if (p0 := 0) (pT := 5) (pF := 12) (pE := 9) (p1 := 18) (CJ_eq' (off := 10) (tgt := 12) (p0 := 0) (p1 := 1) (p2 := 2) (EJ_iload_n (j := 2) (i := 2) (pc := 0) D_TL_letterOrSize_0 rfl) (EJ_iconst (n := -1) (v := (-1)) (pc := 1) D_TL_letterOrSize_1 (by decide +kernel)) D_TL_letterOrSize_2 rfl) (EJ_callS (p0 := 5) (p1 := 6) (AJ_J (p0 := 5) (p1 := 6) (p2 := 6) (EJ_lload_n (j := 0) (i := 0) (pc := 5) D_TL_letterOrSize_5 rfl) AJ_nil) m_Rows_size E1_I D_TL_letterOrSize_6 q_613 q_504 q_104 ⟨by decide +kernel, by decide +kernel, by decide +kernel⟩ (by decide) (show 1 + 1 ≤ 4 from by decide) (fun _ h => absurd h List.not_mem_nil)) (Lead.goto (K := K_TL_letterOrSize) (pc := 9) (tgt := 18) D_TL_letterOrSize_9 rfl) (EJ_callS (p0 := 12) (p1 := 15) (AJ_J (p0 := 12) (p1 := 13) (p2 := 15) (EJ_lload_n (j := 0) (i := 0) (pc := 12) D_TL_letterOrSize_12 rfl) (AJ_I (p0 := 13) (p1 := 14) (p2 := 15) (EJ_iload_n (j := 2) (i := 2) (pc := 13) D_TL_letterOrSize_13 rfl) (AJ_I (p0 := 14) (p1 := 15) (p2 := 15) (EJ_iload_n (j := 3) (i := 3) (pc := 14) D_TL_letterOrSize_14 rfl) AJ_nil))) m_TL_letterOr E1_I D_TL_letterOrSize_15 q_610 q_611 q_91 ⟨by decide +kernel, by decide +kernel, by decide +kernel⟩ (by decide) (show 3 + 1 ≤ 4 from by decide) (fun _ h => absurd h List.not_mem_nil))) D_TL_letterOrSize_18)
 RTm_int q_659 (by decide +kernel) rfl (fun h => by cases h) (show 4 ≤ 40 from by decide) (fun _ => trivial)
theorem D_Upper_slotOf_0 : decode cX10_slotOf 0 = .ok (.iload_n 1, 1) := by decide +kernel
theorem D_Upper_slotOf_1 : decode cX10_slotOf 1 = .ok (.bipush (65), 2) := by decide +kernel
theorem D_Upper_slotOf_3 : decode cX10_slotOf 3 = .ok (.if_icmp .lt (23), 3) := by decide +kernel
theorem D_Upper_slotOf_6 : decode cX10_slotOf 6 = .ok (.iload_n 1, 1) := by decide +kernel
theorem D_Upper_slotOf_7 : decode cX10_slotOf 7 = .ok (.bipush (90), 2) := by decide +kernel
theorem D_Upper_slotOf_9 : decode cX10_slotOf 9 = .ok (.if_icmp .gt (17), 3) := by decide +kernel
theorem D_Upper_slotOf_12 : decode cX10_slotOf 12 = .ok (.aload_n 0, 1) := by decide +kernel
theorem D_Upper_slotOf_13 : decode cX10_slotOf 13 = .ok (.getfield 11, 3) := by decide +kernel
theorem D_Upper_slotOf_16 : decode cX10_slotOf 16 = .ok (.iload_n 1, 1) := by decide +kernel
theorem D_Upper_slotOf_17 : decode cX10_slotOf 17 = .ok (.bipush (65), 2) := by decide +kernel
theorem D_Upper_slotOf_19 : decode cX10_slotOf 19 = .ok (.isub, 1) := by decide +kernel
theorem D_Upper_slotOf_20 : decode cX10_slotOf 20 = .ok (.iaload, 1) := by decide +kernel
theorem D_Upper_slotOf_21 : decode cX10_slotOf 21 = .ok (.iconst (1), 1) := by decide +kernel
theorem D_Upper_slotOf_22 : decode cX10_slotOf 22 = .ok (.isub, 1) := by decide +kernel
theorem D_Upper_slotOf_23 : decode cX10_slotOf 23 = .ok (.goto (4), 3) := by decide +kernel
theorem D_Upper_slotOf_26 : decode cX10_slotOf 26 = .ok (.iconst (-1), 1) := by decide +kernel
theorem D_Upper_slotOf_27 : decode cX10_slotOf 27 = .ok (.ireturn, 1) := by decide +kernel
def K_Upper_slotOf : SC := (cX10_slotOf, "TwoLevels$Upper", 2, 1, false, [], NoQ)
def d_Upper_slotOf : MD Int32 := mth tt 2 (rtn (eIf (cAnd (eh2 c_ge (lI 1) (eC (nI 65))) (eh2 c_le (lI 1) (eC (nI 90)))) (eh2 isubF (eh2 (aI .int) (eh1 (gR 11 0) (lR 0)) (eh2 isubF (lI 1) (eC (nI 65)))) (eC (nI 1))) (eC (-1))))
theorem m_Upper_slotOf : MJ 1 [] yX10_slotOf (some .int) eI (d_Upper_slotOf) := MJ_of (K := K_Upper_slotOf) (ri := .ireturn) (n1 := 0) (n2 := 0) (n3 := 0)
 (SJ_ret (p0 := 0) (p1 := 27) (EJ_if (p0 := 0) (pT := 12) (pF := 26) (pE := 23) (p1 := 27) (CJ_and (p0 := 0) (pM := 6) (pT := 12) (pF := 26) (CJ_ge' (off := 23) (tgt := 26) (p0 := 0) (p1 := 1) (p2 := 3) (EJ_iload_n (j := 1) (i := 1) (pc := 0) D_Upper_slotOf_0 rfl) (EJ_bipush (n := 65) (v := (nI 65)) (pc := 1) D_Upper_slotOf_1 (by decide +kernel)) D_Upper_slotOf_3 rfl) (CJ_le' (off := 17) (tgt := 26) (p0 := 6) (p1 := 7) (p2 := 9) (EJ_iload_n (j := 1) (i := 1) (pc := 6) D_Upper_slotOf_6 rfl) (EJ_bipush (n := 90) (v := (nI 90)) (pc := 7) D_Upper_slotOf_7 (by decide +kernel)) D_Upper_slotOf_9 rfl)) (EJ_isub (p0 := 12) (p1 := 21) (p2 := 22) (EJ_iald (p0 := 12) (p1 := 16) (p2 := 20) (EJ_getR (t := 11) (c := 10) (kf := 0) (r := (RX10, TX10, 7)) (p0 := 12) (p1 := 13) (EJ_aload_n (j := 0) (i := 0) (pc := 12) D_Upper_slotOf_12 rfl) D_Upper_slotOf_13 ⟨rfl, rfl, by decide, q_129⟩ (fun _ _ => rfl)) (EJ_isub (p0 := 16) (p1 := 17) (p2 := 19) (EJ_iload_n (j := 1) (i := 1) (pc := 16) D_Upper_slotOf_16 rfl) (EJ_bipush (n := 65) (v := (nI 65)) (pc := 17) D_Upper_slotOf_17 (by decide +kernel)) D_Upper_slotOf_19) D_Upper_slotOf_20) (EJ_iconst (n := 1) (v := (nI 1)) (pc := 21) D_Upper_slotOf_21 (by decide +kernel)) D_Upper_slotOf_22) (Lead.goto (K := K_Upper_slotOf) (pc := 23) (tgt := 27) D_Upper_slotOf_23 rfl) (EJ_iconst (n := -1) (v := (-1)) (pc := 26) D_Upper_slotOf_26 (by decide +kernel))) D_Upper_slotOf_27)
 RTm_int q_627 (by decide +kernel) rfl (fun h => by cases h) (show 2 ≤ 40 from by decide) (fun _ => trivial)
theorem D_TL_assigned_0 : decode cX11_assigned 0 = .ok (.aload_n 0, 1) := by decide +kernel
theorem D_TL_assigned_1 : decode cX11_assigned 1 = .ok (.getfield 30, 3) := by decide +kernel
theorem D_TL_assigned_4 : decode cX11_assigned 4 = .ok (.iload_n 1, 1) := by decide +kernel
theorem D_TL_assigned_5 : decode cX11_assigned 5 = .ok (.invokevirtual 150, 3) := by decide +kernel
theorem D_TL_assigned_8 : decode cX11_assigned 8 = .ok (.ifCond .eq (13), 3) := by decide +kernel
theorem D_TL_assigned_11 : decode cX11_assigned 11 = .ok (.iload_n 2, 1) := by decide +kernel
theorem D_TL_assigned_12 : decode cX11_assigned 12 = .ok (.ifCond .lt (9), 3) := by decide +kernel
theorem D_TL_assigned_15 : decode cX11_assigned 15 = .ok (.iload 4, 2) := by decide +kernel
theorem D_TL_assigned_17 : decode cX11_assigned 17 = .ok (.iconst (-1), 1) := by decide +kernel
theorem D_TL_assigned_18 : decode cX11_assigned 18 = .ok (.if_icmp .ge (5), 3) := by decide +kernel
theorem D_TL_assigned_21 : decode cX11_assigned 21 = .ok (.iconst (-1), 1) := by decide +kernel
theorem D_TL_assigned_22 : decode cX11_assigned 22 = .ok (.ireturn, 1) := by decide +kernel
theorem D_TL_assigned_23 : decode cX11_assigned 23 = .ok (.aload_n 0, 1) := by decide +kernel
theorem D_TL_assigned_24 : decode cX11_assigned 24 = .ok (.getfield 30, 3) := by decide +kernel
theorem D_TL_assigned_27 : decode cX11_assigned 27 = .ok (.getfield 53, 3) := by decide +kernel
theorem D_TL_assigned_30 : decode cX11_assigned 30 = .ok (.iload_n 3, 1) := by decide +kernel
theorem D_TL_assigned_31 : decode cX11_assigned 31 = .ok (.invokevirtual 182, 3) := by decide +kernel
theorem D_TL_assigned_34 : decode cX11_assigned 34 = .ok (.istore 5, 2) := by decide +kernel
theorem D_TL_assigned_36 : decode cX11_assigned 36 = .ok (.iload 5, 2) := by decide +kernel
theorem D_TL_assigned_38 : decode cX11_assigned 38 = .ok (.iconst (-1), 1) := by decide +kernel
theorem D_TL_assigned_39 : decode cX11_assigned 39 = .ok (.if_icmp .eq (23), 3) := by decide +kernel
theorem D_TL_assigned_42 : decode cX11_assigned 42 = .ok (.aload_n 0, 1) := by decide +kernel
theorem D_TL_assigned_43 : decode cX11_assigned 43 = .ok (.getfield 30, 3) := by decide +kernel
theorem D_TL_assigned_46 : decode cX11_assigned 46 = .ok (.getfield 118, 3) := by decide +kernel
theorem D_TL_assigned_49 : decode cX11_assigned 49 = .ok (.iload_n 1, 1) := by decide +kernel
theorem D_TL_assigned_50 : decode cX11_assigned 50 = .ok (.aaload, 1) := by decide +kernel
theorem D_TL_assigned_51 : decode cX11_assigned 51 = .ok (.getfield 221, 3) := by decide +kernel
theorem D_TL_assigned_54 : decode cX11_assigned 54 = .ok (.iload 5, 2) := by decide +kernel
theorem D_TL_assigned_56 : decode cX11_assigned 56 = .ok (.ishr, 1) := by decide +kernel
theorem D_TL_assigned_57 : decode cX11_assigned 57 = .ok (.iconst (1), 1) := by decide +kernel
theorem D_TL_assigned_58 : decode cX11_assigned 58 = .ok (.iand, 1) := by decide +kernel
theorem D_TL_assigned_59 : decode cX11_assigned 59 = .ok (.ifCond .ne (5), 3) := by decide +kernel
theorem D_TL_assigned_62 : decode cX11_assigned 62 = .ok (.iconst (-1), 1) := by decide +kernel
theorem D_TL_assigned_63 : decode cX11_assigned 63 = .ok (.ireturn, 1) := by decide +kernel
theorem D_TL_assigned_64 : decode cX11_assigned 64 = .ok (.aload_n 0, 1) := by decide +kernel
theorem D_TL_assigned_65 : decode cX11_assigned 65 = .ok (.getfield 60, 3) := by decide +kernel
theorem D_TL_assigned_68 : decode cX11_assigned 68 = .ok (.aload_n 0, 1) := by decide +kernel
theorem D_TL_assigned_69 : decode cX11_assigned 69 = .ok (.getfield 30, 3) := by decide +kernel
theorem D_TL_assigned_72 : decode cX11_assigned 72 = .ok (.getfield 53, 3) := by decide +kernel
theorem D_TL_assigned_75 : decode cX11_assigned 75 = .ok (.aload_n 0, 1) := by decide +kernel
theorem D_TL_assigned_76 : decode cX11_assigned 76 = .ok (.getfield 108, 3) := by decide +kernel
theorem D_TL_assigned_79 : decode cX11_assigned 79 = .ok (.invokevirtual 208, 3) := by decide +kernel
theorem D_TL_assigned_82 : decode cX11_assigned 82 = .ok (.aload_n 0, 1) := by decide +kernel
theorem D_TL_assigned_83 : decode cX11_assigned 83 = .ok (.getfield 60, 3) := by decide +kernel
theorem D_TL_assigned_86 : decode cX11_assigned 86 = .ok (.aload_n 0, 1) := by decide +kernel
theorem D_TL_assigned_87 : decode cX11_assigned 87 = .ok (.getfield 30, 3) := by decide +kernel
theorem D_TL_assigned_90 : decode cX11_assigned 90 = .ok (.getfield 118, 3) := by decide +kernel
theorem D_TL_assigned_93 : decode cX11_assigned 93 = .ok (.iload_n 1, 1) := by decide +kernel
theorem D_TL_assigned_94 : decode cX11_assigned 94 = .ok (.aaload, 1) := by decide +kernel
theorem D_TL_assigned_95 : decode cX11_assigned 95 = .ok (.iload_n 2, 1) := by decide +kernel
theorem D_TL_assigned_96 : decode cX11_assigned 96 = .ok (.invokevirtual 260, 3) := by decide +kernel
theorem D_TL_assigned_99 : decode cX11_assigned 99 = .ok (.ifCond .ne (6), 3) := by decide +kernel
theorem D_TL_assigned_102 : decode cX11_assigned 102 = .ok (.bipush (-2), 2) := by decide +kernel
theorem D_TL_assigned_104 : decode cX11_assigned 104 = .ok (.ireturn, 1) := by decide +kernel
theorem D_TL_assigned_105 : decode cX11_assigned 105 = .ok (.aload_n 0, 1) := by decide +kernel
theorem D_TL_assigned_106 : decode cX11_assigned 106 = .ok (.getfield 60, 3) := by decide +kernel
theorem D_TL_assigned_109 : decode cX11_assigned 109 = .ok (.getfield 264, 3) := by decide +kernel
theorem D_TL_assigned_112 : decode cX11_assigned 112 = .ok (.iload 5, 2) := by decide +kernel
theorem D_TL_assigned_114 : decode cX11_assigned 114 = .ok (.laload, 1) := by decide +kernel
theorem D_TL_assigned_115 : decode cX11_assigned 115 = .ok (.iload 4, 2) := by decide +kernel
theorem D_TL_assigned_117 : decode cX11_assigned 117 = .ok (.bipush (-2), 2) := by decide +kernel
theorem D_TL_assigned_119 : decode cX11_assigned 119 = .ok (.invokestatic 202, 3) := by decide +kernel
theorem D_TL_assigned_122 : decode cX11_assigned 122 = .ok (.ireturn, 1) := by decide +kernel
def K_TL_assigned : SC := (cX11_assigned, "TwoLevels", 6, 6, false, [3, 43, 44, 45, 46, 47, 48], NoQ)
def d_TL_assigned : MD Int32 := mth tt 6 (sq (sIf (cOr (cOr (cNot (eh1 z_ne (kV 10 d_State_hasRule (eh1 (gR 12 3) (lR 0)) [vI (lI 1)]))) (eh1 z_lt (lI 2))) (eh2 c_lt (lI 4) (eC (-1)))) (rtn (eC (-1))) sk)
 (sq (sI1 5 (kV 11 d_Upper_slotOf (eh1 (gR 10 0) (eh1 (gR 12 3) (lR 0))) [vI (lI 3)]))
 (sq (sIf (cOr (eh2 c_eq (lI 5) (eC (-1))) (eh1 z_eq (eh2 iandF (eh2 ishrF (eh1 (gI 7 1) (eh2 (aR (.object "TwoLevels$Rule")) (eh1 (gR 10 1) (eh1 (gR 12 3) (lR 0))) (lI 1))) (lI 5)) (eC (nI 1))))) (rtn (eC (-1))) sk)
 (sq (sE (kV 3 d_Fit_load (eh1 (gR 12 10) (lR 0)) [vR (eh1 (gR 10 0) (eh1 (gR 12 3) (lR 0))), vJ (eh1 (gJ 12 4) (lR 0))]))
 (sq (sIf (cNot (eh1 z_ne (kV 3 d_Fit_reach (eh1 (gR 12 10) (lR 0)) [vR (eh2 (aR (.object "TwoLevels$Rule")) (eh1 (gR 10 1) (eh1 (gR 12 3) (lR 0))) (lI 1)), vI (lI 2)]))) (rtn (eC (-2))) sk)
 (rtn (kS d_TL_letterOrSize [vJ (eh2 aJ (eh1 (gR 3 10) (eh1 (gR 12 10) (lR 0))) (lI 5)), vI (lI 4), vI (eC (-2))])))))))
theorem m_TL_assigned : MJ 6 [3, 43, 44, 45, 46, 47, 48] yX11_assigned (some .int) eI (d_TL_assigned) := MJ_of (K := K_TL_assigned) (ri := .ireturn) (n1 := 0) (n2 := 0) (n3 := 0)
 (SJ_sq (p0 := 0) (p1 := 23) (nN := 0) (nB := 0) (nC := 0) (SJ_if (p0 := 0) (pT := 21) (pF := 23) (nN := 23) (nB := 0) (nC := 0) (CJ_or (p0 := 0) (pM := 15) (pT := 21) (pF := 23) (CJ_or (p0 := 0) (pM := 11) (pT := 21) (pF := 15) (CJ_not (p0 := 0) (pT := 21) (pF := 11) (CZ_ne' (off := 13) (tgt := 21) (p0 := 0) (p1 := 8) (EJ_callV (t := 10) (c := 9) (r := (RX9, TX9, 4)) (p0 := 0) (p1 := 4) (p2 := 5) (EJ_getR (t := 12) (c := 11) (kf := 3) (r := (RX11, TX11, 16)) (p0 := 0) (p1 := 1) (EJ_aload_n (j := 0) (i := 0) (pc := 0) D_TL_assigned_0 rfl) D_TL_assigned_1 ⟨rfl, rfl, by decide, q_258⟩ (fun _ _ => rfl)) (AJ_I (p0 := 4) (p1 := 5) (p2 := 5) (EJ_iload_n (j := 1) (i := 1) (pc := 4) D_TL_assigned_4 rfl) AJ_nil) m_State_hasRule E1_I D_TL_assigned_5 rfl rfl rfl q_556 q_557 q_558 q_94 ⟨by decide +kernel, by decide +kernel, by decide +kernel⟩ (by decide) (show 1 + 1 ≤ 6 from by decide) (fun _ h => absurd h List.not_mem_nil)) D_TL_assigned_8 rfl)) (CZ_lt (off := 9) (tgt := 21) (p0 := 11) (p1 := 12) (EJ_iload_n (j := 2) (i := 2) (pc := 11) D_TL_assigned_11 rfl) D_TL_assigned_12 rfl)) (CJ_lt' (off := 5) (tgt := 23) (p0 := 15) (p1 := 17) (p2 := 18) (EJ_iload (i := 4) (pc := 15) D_TL_assigned_15) (EJ_iconst (n := -1) (v := (-1)) (pc := 17) D_TL_assigned_17 (by decide +kernel)) D_TL_assigned_18 rfl)) (SJ_ret (p0 := 21) (p1 := 22) (EJ_iconst (n := -1) (v := (-1)) (pc := 21) D_TL_assigned_21 (by decide +kernel)) D_TL_assigned_22) SJ_sk)
 (SJ_sq (p0 := 23) (p1 := 36) (nN := 0) (nB := 0) (nC := 0) (SJ_istore (i := 5) (p0 := 23) (p1 := 34) (EJ_callV (t := 11) (c := 10) (r := (RX10, TX10, 7)) (p0 := 23) (p1 := 30) (p2 := 31) (EJ_getR (t := 10) (c := 9) (kf := 0) (r := (RX9, TX9, 4)) (p0 := 23) (p1 := 27) (EJ_getR (t := 12) (c := 11) (kf := 3) (r := (RX11, TX11, 16)) (p0 := 23) (p1 := 24) (EJ_aload_n (j := 0) (i := 0) (pc := 23) D_TL_assigned_23 rfl) D_TL_assigned_24 ⟨rfl, rfl, by decide, q_258⟩ (fun _ _ => rfl)) D_TL_assigned_27 ⟨rfl, rfl, by decide, q_174⟩ (fun _ _ => rfl)) (AJ_I (p0 := 30) (p1 := 31) (p2 := 31) (EJ_iload_n (j := 3) (i := 3) (pc := 30) D_TL_assigned_30 rfl) AJ_nil) m_Upper_slotOf E1_I D_TL_assigned_31 rfl rfl rfl q_624 q_625 q_626 q_93 ⟨by decide +kernel, by decide +kernel, by decide +kernel⟩ (by decide) (show 1 + 1 ≤ 6 from by decide) (fun _ h => absurd h List.not_mem_nil)) D_TL_assigned_34)
 (SJ_sq (p0 := 36) (p1 := 64) (nN := 0) (nB := 0) (nC := 0) (SJ_if (p0 := 36) (pT := 62) (pF := 64) (nN := 64) (nB := 0) (nC := 0) (CJ_or (p0 := 36) (pM := 42) (pT := 62) (pF := 64) (CJ_eq (off := 23) (tgt := 62) (p0 := 36) (p1 := 38) (p2 := 39) (EJ_iload (i := 5) (pc := 36) D_TL_assigned_36) (EJ_iconst (n := -1) (v := (-1)) (pc := 38) D_TL_assigned_38 (by decide +kernel)) D_TL_assigned_39 rfl) (CZ_eq' (off := 5) (tgt := 64) (p0 := 42) (p1 := 59) (EJ_iand (p0 := 42) (p1 := 57) (p2 := 58) (EJ_ishr (p0 := 42) (p1 := 54) (p2 := 56) (EJ_getI (t := 7) (c := 6) (kf := 1) (r := (RX6, TX6, 5)) (p0 := 42) (p1 := 51) (EJ_aald (p0 := 42) (p1 := 49) (p2 := 50) (EJ_getR (t := 10) (c := 9) (kf := 1) (r := (RX9, TX9, 4)) (p0 := 42) (p1 := 46) (EJ_getR (t := 12) (c := 11) (kf := 3) (r := (RX11, TX11, 16)) (p0 := 42) (p1 := 43) (EJ_aload_n (j := 0) (i := 0) (pc := 42) D_TL_assigned_42 rfl) D_TL_assigned_43 ⟨rfl, rfl, by decide, q_258⟩ (fun _ _ => rfl)) D_TL_assigned_46 ⟨rfl, rfl, by decide, q_177⟩ (fun _ _ => rfl)) (EJ_iload_n (j := 1) (i := 1) (pc := 49) D_TL_assigned_49 rfl) D_TL_assigned_50 (Or.inl ⟨_, rfl⟩)) D_TL_assigned_51 ⟨rfl, rfl, by decide, q_394⟩ (fun _ _ => rfl)) (EJ_iload (i := 5) (pc := 54) D_TL_assigned_54) D_TL_assigned_56) (EJ_iconst (n := 1) (v := (nI 1)) (pc := 57) D_TL_assigned_57 (by decide +kernel)) D_TL_assigned_58) D_TL_assigned_59 rfl)) (SJ_ret (p0 := 62) (p1 := 63) (EJ_iconst (n := -1) (v := (-1)) (pc := 62) D_TL_assigned_62 (by decide +kernel)) D_TL_assigned_63) SJ_sk)
 (SJ_sq (p0 := 64) (p1 := 82) (nN := 0) (nB := 0) (nC := 0) (SJ_void (p0 := 64) (p1 := 82) (EJ_callV (t := 3) (c := 2) (r := (RX2, TX2, 12)) (p0 := 64) (p1 := 68) (p2 := 79) (EJ_getR (t := 12) (c := 11) (kf := 10) (r := (RX11, TX11, 16)) (p0 := 64) (p1 := 65) (EJ_aload_n (j := 0) (i := 0) (pc := 64) D_TL_assigned_64 rfl) D_TL_assigned_65 ⟨rfl, rfl, by decide, q_265⟩ (fun _ _ => rfl)) (AJ_R (p0 := 68) (p1 := 75) (p2 := 79) (EJ_getR (t := 10) (c := 9) (kf := 0) (r := (RX9, TX9, 4)) (p0 := 68) (p1 := 72) (EJ_getR (t := 12) (c := 11) (kf := 3) (r := (RX11, TX11, 16)) (p0 := 68) (p1 := 69) (EJ_aload_n (j := 0) (i := 0) (pc := 68) D_TL_assigned_68 rfl) D_TL_assigned_69 ⟨rfl, rfl, by decide, q_258⟩ (fun _ _ => rfl)) D_TL_assigned_72 ⟨rfl, rfl, by decide, q_174⟩ (fun _ _ => rfl)) (AJ_J (p0 := 75) (p1 := 79) (p2 := 79) (EJ_getJ (t := 12) (c := 11) (kf := 4) (r := (RX11, TX11, 16)) (p0 := 75) (p1 := 76) (EJ_aload_n (j := 0) (i := 0) (pc := 75) D_TL_assigned_75 rfl) D_TL_assigned_76 ⟨rfl, rfl, by decide, q_259⟩ (fun _ _ => rfl)) AJ_nil)) m_Fit_load E1_U D_TL_assigned_79 rfl rfl rfl q_667 q_668 q_669 q_95 ⟨by decide +kernel, by decide +kernel, by decide +kernel⟩ (by decide) (show 2 + 1 ≤ 6 from by decide) (show ∀ x_ ∈ ([3, 43, 44, 46] : List Nat), x_ ∈ ([3, 43, 44, 45, 46, 47, 48] : List Nat) from by decide)))
 (SJ_sq (p0 := 82) (p1 := 105) (nN := 0) (nB := 0) (nC := 0) (SJ_if (p0 := 82) (pT := 102) (pF := 105) (nN := 105) (nB := 0) (nC := 0) (CJ_not (p0 := 82) (pT := 102) (pF := 105) (CZ_ne (off := 6) (tgt := 105) (p0 := 82) (p1 := 99) (EJ_callV (t := 3) (c := 2) (r := (RX2, TX2, 12)) (p0 := 82) (p1 := 86) (p2 := 96) (EJ_getR (t := 12) (c := 11) (kf := 10) (r := (RX11, TX11, 16)) (p0 := 82) (p1 := 83) (EJ_aload_n (j := 0) (i := 0) (pc := 82) D_TL_assigned_82 rfl) D_TL_assigned_83 ⟨rfl, rfl, by decide, q_265⟩ (fun _ _ => rfl)) (AJ_R (p0 := 86) (p1 := 95) (p2 := 96) (EJ_aald (p0 := 86) (p1 := 93) (p2 := 94) (EJ_getR (t := 10) (c := 9) (kf := 1) (r := (RX9, TX9, 4)) (p0 := 86) (p1 := 90) (EJ_getR (t := 12) (c := 11) (kf := 3) (r := (RX11, TX11, 16)) (p0 := 86) (p1 := 87) (EJ_aload_n (j := 0) (i := 0) (pc := 86) D_TL_assigned_86 rfl) D_TL_assigned_87 ⟨rfl, rfl, by decide, q_258⟩ (fun _ _ => rfl)) D_TL_assigned_90 ⟨rfl, rfl, by decide, q_177⟩ (fun _ _ => rfl)) (EJ_iload_n (j := 1) (i := 1) (pc := 93) D_TL_assigned_93 rfl) D_TL_assigned_94 (Or.inl ⟨_, rfl⟩)) (AJ_I (p0 := 95) (p1 := 96) (p2 := 96) (EJ_iload_n (j := 2) (i := 2) (pc := 95) D_TL_assigned_95 rfl) AJ_nil)) m_Fit_reach E1_I D_TL_assigned_96 rfl rfl rfl q_762 q_763 q_764 q_95 ⟨by decide +kernel, by decide +kernel, by decide +kernel⟩ (by decide) (show 5 + 1 ≤ 6 from by decide) (show ∀ x_ ∈ ([3, 43, 44, 45, 46, 47, 48] : List Nat), x_ ∈ ([3, 43, 44, 45, 46, 47, 48] : List Nat) from by decide)) D_TL_assigned_99 rfl)) (SJ_ret (p0 := 102) (p1 := 104) (EJ_bipush (n := -2) (v := (-2)) (pc := 102) D_TL_assigned_102 (by decide +kernel)) D_TL_assigned_104) SJ_sk)
 (SJ_ret (p0 := 105) (p1 := 122) (EJ_callS (p0 := 105) (p1 := 119) (AJ_J (p0 := 105) (p1 := 115) (p2 := 119) (EJ_lald (p0 := 105) (p1 := 112) (p2 := 114) (EJ_getR (t := 3) (c := 2) (kf := 10) (r := (RX2, TX2, 12)) (p0 := 105) (p1 := 109) (EJ_getR (t := 12) (c := 11) (kf := 10) (r := (RX11, TX11, 16)) (p0 := 105) (p1 := 106) (EJ_aload_n (j := 0) (i := 0) (pc := 105) D_TL_assigned_105 rfl) D_TL_assigned_106 ⟨rfl, rfl, by decide, q_265⟩ (fun _ _ => rfl)) D_TL_assigned_109 ⟨rfl, rfl, by decide, q_206⟩ (fun _ _ => rfl)) (EJ_iload (i := 5) (pc := 112) D_TL_assigned_112) D_TL_assigned_114) (AJ_I (p0 := 115) (p1 := 117) (p2 := 119) (EJ_iload (i := 4) (pc := 115) D_TL_assigned_115) (AJ_I (p0 := 117) (p1 := 119) (p2 := 119) (EJ_bipush (n := -2) (v := (-2)) (pc := 117) D_TL_assigned_117 (by decide +kernel)) AJ_nil))) m_TL_letterOrSize E1_I D_TL_assigned_119 q_657 q_658 q_91 ⟨by decide +kernel, by decide +kernel, by decide +kernel⟩ (by decide) (show 4 + 1 ≤ 6 from by decide) (fun _ h => absurd h List.not_mem_nil)) D_TL_assigned_122))))))
 RTm_int q_761 (by decide +kernel) rfl (fun h => by cases h) (show 6 ≤ 40 from by decide) (fun _ => trivial)
theorem D_TL_forget_0 : decode cX11_forget 0 = .ok (.aload_n 0, 1) := by decide +kernel
theorem D_TL_forget_1 : decode cX11_forget 1 = .ok (.bipush (-4), 2) := by decide +kernel
theorem D_TL_forget_3 : decode cX11_forget 3 = .ok (.putfield 64, 3) := by decide +kernel
theorem D_TL_forget_6 : decode cX11_forget 6 = .ok (.aload_n 0, 1) := by decide +kernel
theorem D_TL_forget_7 : decode cX11_forget 7 = .ok (.bipush (-4), 2) := by decide +kernel
theorem D_TL_forget_9 : decode cX11_forget 9 = .ok (.putfield 68, 3) := by decide +kernel
theorem D_TL_forget_12 : decode cX11_forget 12 = .ok (.aload_n 0, 1) := by decide +kernel
theorem D_TL_forget_13 : decode cX11_forget 13 = .ok (.bipush (-4), 2) := by decide +kernel
theorem D_TL_forget_15 : decode cX11_forget 15 = .ok (.putfield 71, 3) := by decide +kernel
theorem D_TL_forget_18 : decode cX11_forget 18 = .ok (.return_, 1) := by decide +kernel
def K_TL_forget : SC := (cX11_forget, "TwoLevels", 1, 1, false, [12], NoQ)
def d_TL_forget : MD Unit := mth tt 1 (sq (sh2 (pI false 12 13) (lR 0) (eC (-4)))
 (sq (sh2 (pI false 12 14) (lR 0) (eC (-4)))
 (sq (sh2 (pI false 12 15) (lR 0) (eC (-4)))
 rtnU)))
theorem m_TL_forget : MJ 1 [12] yX11_forget none eU (d_TL_forget) := MJ_of (K := K_TL_forget) (ri := .return_) (n1 := 0) (n2 := 0) (n3 := 0)
 (SJ_sq (p0 := 0) (p1 := 6) (nN := 0) (nB := 0) (nC := 0) (SJ_putI (z := false) (t := 12) (c := 11) (kf := 13) (r := (RX11, TX11, 16)) (p0 := 0) (p1 := 1) (p2 := 3) (EJ_aload_n (j := 0) (i := 0) (pc := 0) D_TL_forget_0 rfl) (EJ_bipush (n := -4) (v := (-4)) (pc := 1) D_TL_forget_1 (by decide +kernel)) D_TL_forget_3 ⟨rfl, rfl, by decide, q_268⟩ (Or.inl rfl) (fun _ _ => ⟨rfl, rfl⟩) (fun _ _ => rfl) (show (12 : Nat) ∈ ([12] : List Nat) from by decide))
 (SJ_sq (p0 := 6) (p1 := 12) (nN := 0) (nB := 0) (nC := 0) (SJ_putI (z := false) (t := 12) (c := 11) (kf := 14) (r := (RX11, TX11, 16)) (p0 := 6) (p1 := 7) (p2 := 9) (EJ_aload_n (j := 0) (i := 0) (pc := 6) D_TL_forget_6 rfl) (EJ_bipush (n := -4) (v := (-4)) (pc := 7) D_TL_forget_7 (by decide +kernel)) D_TL_forget_9 ⟨rfl, rfl, by decide, q_269⟩ (Or.inl rfl) (fun _ _ => ⟨rfl, rfl⟩) (fun _ _ => rfl) (show (12 : Nat) ∈ ([12] : List Nat) from by decide))
 (SJ_sq (p0 := 12) (p1 := 18) (nN := 0) (nB := 0) (nC := 0) (SJ_putI (z := false) (t := 12) (c := 11) (kf := 15) (r := (RX11, TX11, 16)) (p0 := 12) (p1 := 13) (p2 := 15) (EJ_aload_n (j := 0) (i := 0) (pc := 12) D_TL_forget_12 rfl) (EJ_bipush (n := -4) (v := (-4)) (pc := 13) D_TL_forget_13 (by decide +kernel)) D_TL_forget_15 ⟨rfl, rfl, by decide, q_270⟩ (Or.inl rfl) (fun _ _ => ⟨rfl, rfl⟩) (fun _ _ => rfl) (show (12 : Nat) ∈ ([12] : List Nat) from by decide))
 (SJ_retU (pc := 18) D_TL_forget_18))))
 RTm_void q_517 (by decide +kernel) rfl (fun h => by cases h) (show 1 ≤ 40 from by decide) (fun _ => trivial)
theorem D_TL_back_0 : decode cX11_back 0 = .ok (.iload_n 1, 1) := by decide +kernel
theorem D_TL_back_1 : decode cX11_back 1 = .ok (.ifCond .lt (8), 3) := by decide +kernel
theorem D_TL_back_4 : decode cX11_back 4 = .ok (.iload_n 1, 1) := by decide +kernel
theorem D_TL_back_5 : decode cX11_back 5 = .ok (.iconst (2), 1) := by decide +kernel
theorem D_TL_back_6 : decode cX11_back 6 = .ok (.if_icmp .lt (5), 3) := by decide +kernel
theorem D_TL_back_9 : decode cX11_back 9 = .ok (.iconst (-1), 1) := by decide +kernel
theorem D_TL_back_10 : decode cX11_back 10 = .ok (.ireturn, 1) := by decide +kernel
theorem D_TL_back_11 : decode cX11_back 11 = .ok (.aload_n 0, 1) := by decide +kernel
theorem D_TL_back_12 : decode cX11_back 12 = .ok (.getfield 47, 3) := by decide +kernel
theorem D_TL_back_15 : decode cX11_back 15 = .ok (.iload_n 1, 1) := by decide +kernel
theorem D_TL_back_16 : decode cX11_back 16 = .ok (.aaload, 1) := by decide +kernel
theorem D_TL_back_17 : decode cX11_back 17 = .ok (.astore_n 2, 1) := by decide +kernel
theorem D_TL_back_18 : decode cX11_back 18 = .ok (.aload_n 2, 1) := by decide +kernel
theorem D_TL_back_19 : decode cX11_back 19 = .ok (.ifnonnull (6), 3) := by decide +kernel
theorem D_TL_back_22 : decode cX11_back 22 = .ok (.bipush (-2), 2) := by decide +kernel
theorem D_TL_back_24 : decode cX11_back 24 = .ok (.ireturn, 1) := by decide +kernel
theorem D_TL_back_25 : decode cX11_back 25 = .ok (.aload_n 0, 1) := by decide +kernel
theorem D_TL_back_26 : decode cX11_back 26 = .ok (.aload_n 2, 1) := by decide +kernel
theorem D_TL_back_27 : decode cX11_back 27 = .ok (.getfield 164, 3) := by decide +kernel
theorem D_TL_back_30 : decode cX11_back 30 = .ok (.putfield 30, 3) := by decide +kernel
theorem D_TL_back_33 : decode cX11_back 33 = .ok (.aload_n 0, 1) := by decide +kernel
theorem D_TL_back_34 : decode cX11_back 34 = .ok (.aload_n 2, 1) := by decide +kernel
theorem D_TL_back_35 : decode cX11_back 35 = .ok (.getfield 165, 3) := by decide +kernel
theorem D_TL_back_38 : decode cX11_back 38 = .ok (.putfield 108, 3) := by decide +kernel
theorem D_TL_back_41 : decode cX11_back 41 = .ok (.aload_n 0, 1) := by decide +kernel
theorem D_TL_back_42 : decode cX11_back 42 = .ok (.aload_n 2, 1) := by decide +kernel
theorem D_TL_back_43 : decode cX11_back 43 = .ok (.getfield 168, 3) := by decide +kernel
theorem D_TL_back_46 : decode cX11_back 46 = .ok (.putfield 34, 3) := by decide +kernel
theorem D_TL_back_49 : decode cX11_back 49 = .ok (.aload_n 0, 1) := by decide +kernel
theorem D_TL_back_50 : decode cX11_back 50 = .ok (.iconst (0), 1) := by decide +kernel
theorem D_TL_back_51 : decode cX11_back 51 = .ok (.putfield 112, 3) := by decide +kernel
theorem D_TL_back_54 : decode cX11_back 54 = .ok (.aload_n 0, 1) := by decide +kernel
theorem D_TL_back_55 : decode cX11_back 55 = .ok (.invokevirtual 115, 3) := by decide +kernel
theorem D_TL_back_58 : decode cX11_back 58 = .ok (.aload_n 0, 1) := by decide +kernel
theorem D_TL_back_59 : decode cX11_back 59 = .ok (.getfield 30, 3) := by decide +kernel
theorem D_TL_back_62 : decode cX11_back 62 = .ok (.getfield 118, 3) := by decide +kernel
theorem D_TL_back_65 : decode cX11_back 65 = .ok (.arraylength, 1) := by decide +kernel
theorem D_TL_back_66 : decode cX11_back 66 = .ok (.ireturn, 1) := by decide +kernel
def K_TL_back : SC := (cX11_back, "TwoLevels", 3, 2, false, [12], NoQ)
def d_TL_back : MD Int32 := mth tt 3 (sq (sIf (cOr (eh1 z_lt (lI 1)) (eh2 c_ge (lI 1) (eC (nI 2)))) (rtn (eC (-1))) sk)
 (sq (sR1 2 (eh2 (aR (.object "TwoLevels$Shelf")) (eh1 (gR 12 9) (lR 0)) (lI 1)))
 (sq (sIf (eh1 n_nul (lR 2)) (rtn (eC (-2))) sk)
 (sq (sh2 (pR 12 3) (lR 0) (eh1 (gR 9 0) (lR 2)))
 (sq (sh2 (pJ 12 4) (lR 0) (eh1 (gJ 9 1) (lR 2)))
 (sq (sh2 (pR 12 5) (lR 0) (eh1 (gR 9 2) (lR 2)))
 (sq (sh2 (pI false 12 8) (lR 0) (eC (nI 0)))
 (sq (sE (kV 12 d_TL_forget (lR 0) []))
 (rtn (eh1 aL (eh1 (gR 10 1) (eh1 (gR 12 3) (lR 0)))))))))))))
theorem m_TL_back : MJ 2 [12] yX11_back (some .int) eI (d_TL_back) := MJ_of (K := K_TL_back) (ri := .ireturn) (n1 := 0) (n2 := 0) (n3 := 0)
 (SJ_sq (p0 := 0) (p1 := 11) (nN := 0) (nB := 0) (nC := 0) (SJ_if (p0 := 0) (pT := 9) (pF := 11) (nN := 11) (nB := 0) (nC := 0) (CJ_or (p0 := 0) (pM := 4) (pT := 9) (pF := 11) (CZ_lt (off := 8) (tgt := 9) (p0 := 0) (p1 := 1) (EJ_iload_n (j := 1) (i := 1) (pc := 0) D_TL_back_0 rfl) D_TL_back_1 rfl) (CJ_ge' (off := 5) (tgt := 11) (p0 := 4) (p1 := 5) (p2 := 6) (EJ_iload_n (j := 1) (i := 1) (pc := 4) D_TL_back_4 rfl) (EJ_iconst (n := 2) (v := (nI 2)) (pc := 5) D_TL_back_5 (by decide +kernel)) D_TL_back_6 rfl)) (SJ_ret (p0 := 9) (p1 := 10) (EJ_iconst (n := -1) (v := (-1)) (pc := 9) D_TL_back_9 (by decide +kernel)) D_TL_back_10) SJ_sk)
 (SJ_sq (p0 := 11) (p1 := 18) (nN := 0) (nB := 0) (nC := 0) (SJ_astore_n (i := 2) (j := 2) (p0 := 11) (p1 := 17) (EJ_aald (p0 := 11) (p1 := 15) (p2 := 16) (EJ_getR (t := 12) (c := 11) (kf := 9) (r := (RX11, TX11, 16)) (p0 := 11) (p1 := 12) (EJ_aload_n (j := 0) (i := 0) (pc := 11) D_TL_back_11 rfl) D_TL_back_12 ⟨rfl, rfl, by decide, q_264⟩ (fun _ _ => rfl)) (EJ_iload_n (j := 1) (i := 1) (pc := 15) D_TL_back_15 rfl) D_TL_back_16 (Or.inl ⟨_, rfl⟩)) D_TL_back_17 rfl)
 (SJ_sq (p0 := 18) (p1 := 25) (nN := 0) (nB := 0) (nC := 0) (SJ_if (p0 := 18) (pT := 22) (pF := 25) (nN := 25) (nB := 0) (nC := 0) (CN_nul' (off := 6) (tgt := 25) (p0 := 18) (p1 := 19) (EJ_aload_n (j := 2) (i := 2) (pc := 18) D_TL_back_18 rfl) D_TL_back_19 rfl) (SJ_ret (p0 := 22) (p1 := 24) (EJ_bipush (n := -2) (v := (-2)) (pc := 22) D_TL_back_22 (by decide +kernel)) D_TL_back_24) SJ_sk)
 (SJ_sq (p0 := 25) (p1 := 33) (nN := 0) (nB := 0) (nC := 0) (SJ_putR (t := 12) (c := 11) (kf := 3) (r := (RX11, TX11, 16)) (p0 := 25) (p1 := 26) (p2 := 30) (EJ_aload_n (j := 0) (i := 0) (pc := 25) D_TL_back_25 rfl) (EJ_getR (t := 9) (c := 8) (kf := 0) (r := (RX8, TX8, 3)) (p0 := 26) (p1 := 27) (EJ_aload_n (j := 2) (i := 2) (pc := 26) D_TL_back_26 rfl) D_TL_back_27 ⟨rfl, rfl, by decide, q_594⟩ (fun _ _ => rfl)) D_TL_back_30 ⟨rfl, rfl, by decide, q_258⟩ (Or.inl rfl) (Or.inl ⟨_, rfl⟩) (fun _ _ => rfl) (show (12 : Nat) ∈ ([12] : List Nat) from by decide))
 (SJ_sq (p0 := 33) (p1 := 41) (nN := 0) (nB := 0) (nC := 0) (SJ_putJ (t := 12) (c := 11) (kf := 4) (r := (RX11, TX11, 16)) (p0 := 33) (p1 := 34) (p2 := 38) (EJ_aload_n (j := 0) (i := 0) (pc := 33) D_TL_back_33 rfl) (EJ_getJ (t := 9) (c := 8) (kf := 1) (r := (RX8, TX8, 3)) (p0 := 34) (p1 := 35) (EJ_aload_n (j := 2) (i := 2) (pc := 34) D_TL_back_34 rfl) D_TL_back_35 ⟨rfl, rfl, by decide, q_596⟩ (fun _ _ => rfl)) D_TL_back_38 ⟨rfl, rfl, by decide, q_259⟩ (Or.inl rfl) rfl (fun _ _ => rfl) (show (12 : Nat) ∈ ([12] : List Nat) from by decide))
 (SJ_sq (p0 := 41) (p1 := 49) (nN := 0) (nB := 0) (nC := 0) (SJ_putR (t := 12) (c := 11) (kf := 5) (r := (RX11, TX11, 16)) (p0 := 41) (p1 := 42) (p2 := 46) (EJ_aload_n (j := 0) (i := 0) (pc := 41) D_TL_back_41 rfl) (EJ_getR (t := 9) (c := 8) (kf := 2) (r := (RX8, TX8, 3)) (p0 := 42) (p1 := 43) (EJ_aload_n (j := 2) (i := 2) (pc := 42) D_TL_back_42 rfl) D_TL_back_43 ⟨rfl, rfl, by decide, q_598⟩ (fun _ _ => rfl)) D_TL_back_46 ⟨rfl, rfl, by decide, q_260⟩ (Or.inl rfl) (Or.inr ⟨_, rfl⟩) (fun _ _ => rfl) (show (12 : Nat) ∈ ([12] : List Nat) from by decide))
 (SJ_sq (p0 := 49) (p1 := 54) (nN := 0) (nB := 0) (nC := 0) (SJ_putI (z := false) (t := 12) (c := 11) (kf := 8) (r := (RX11, TX11, 16)) (p0 := 49) (p1 := 50) (p2 := 51) (EJ_aload_n (j := 0) (i := 0) (pc := 49) D_TL_back_49 rfl) (EJ_iconst (n := 0) (v := (nI 0)) (pc := 50) D_TL_back_50 (by decide +kernel)) D_TL_back_51 ⟨rfl, rfl, by decide, q_263⟩ (Or.inl rfl) (fun _ _ => ⟨rfl, rfl⟩) (fun _ _ => rfl) (show (12 : Nat) ∈ ([12] : List Nat) from by decide))
 (SJ_sq (p0 := 54) (p1 := 58) (nN := 0) (nB := 0) (nC := 0) (SJ_void (p0 := 54) (p1 := 58) (EJ_callV (t := 12) (c := 11) (r := (RX11, TX11, 16)) (p0 := 54) (p1 := 55) (p2 := 55) (EJ_aload_n (j := 0) (i := 0) (pc := 54) D_TL_back_54 rfl) AJ_nil m_TL_forget E1_U D_TL_back_55 rfl rfl rfl q_515 q_516 q_14 q_91 ⟨by decide +kernel, by decide +kernel, by decide +kernel⟩ (by decide) (show 1 + 1 ≤ 2 from by decide) (show ∀ x_ ∈ ([12] : List Nat), x_ ∈ ([12] : List Nat) from by decide)))
 (SJ_ret (p0 := 58) (p1 := 66) (EJ_alen (p0 := 58) (p1 := 65) (EJ_getR (t := 10) (c := 9) (kf := 1) (r := (RX9, TX9, 4)) (p0 := 58) (p1 := 62) (EJ_getR (t := 12) (c := 11) (kf := 3) (r := (RX11, TX11, 16)) (p0 := 58) (p1 := 59) (EJ_aload_n (j := 0) (i := 0) (pc := 58) D_TL_back_58 rfl) D_TL_back_59 ⟨rfl, rfl, by decide, q_258⟩ (fun _ _ => rfl)) D_TL_back_62 ⟨rfl, rfl, by decide, q_177⟩ (fun _ _ => rfl)) D_TL_back_65) D_TL_back_66)))))))))
 RTm_int q_605 (by decide +kernel) rfl (fun h => by cases h) (show 3 ≤ 40 from by decide) (fun _ => trivial)
theorem D_TL_blind_0 : decode cX11_blind 0 = .ok (.aload_n 0, 1) := by decide +kernel
theorem D_TL_blind_1 : decode cX11_blind 1 = .ok (.getfield 60, 3) := by decide +kernel
theorem D_TL_blind_4 : decode cX11_blind 4 = .ok (.aload_n 0, 1) := by decide +kernel
theorem D_TL_blind_5 : decode cX11_blind 5 = .ok (.getfield 30, 3) := by decide +kernel
theorem D_TL_blind_8 : decode cX11_blind 8 = .ok (.getfield 53, 3) := by decide +kernel
theorem D_TL_blind_11 : decode cX11_blind 11 = .ok (.aload_n 0, 1) := by decide +kernel
theorem D_TL_blind_12 : decode cX11_blind 12 = .ok (.getfield 108, 3) := by decide +kernel
theorem D_TL_blind_15 : decode cX11_blind 15 = .ok (.invokevirtual 208, 3) := by decide +kernel
theorem D_TL_blind_18 : decode cX11_blind 18 = .ok (.iconst (0), 1) := by decide +kernel
theorem D_TL_blind_19 : decode cX11_blind 19 = .ok (.istore_n 1, 1) := by decide +kernel
theorem D_TL_blind_20 : decode cX11_blind 20 = .ok (.iconst (0), 1) := by decide +kernel
theorem D_TL_blind_21 : decode cX11_blind 21 = .ok (.istore_n 2, 1) := by decide +kernel
theorem D_TL_blind_22 : decode cX11_blind 22 = .ok (.iload_n 2, 1) := by decide +kernel
theorem D_TL_blind_23 : decode cX11_blind 23 = .ok (.aload_n 0, 1) := by decide +kernel
theorem D_TL_blind_24 : decode cX11_blind 24 = .ok (.getfield 30, 3) := by decide +kernel
theorem D_TL_blind_27 : decode cX11_blind 27 = .ok (.getfield 118, 3) := by decide +kernel
theorem D_TL_blind_30 : decode cX11_blind 30 = .ok (.arraylength, 1) := by decide +kernel
theorem D_TL_blind_31 : decode cX11_blind 31 = .ok (.if_icmp .ge (35), 3) := by decide +kernel
theorem D_TL_blind_34 : decode cX11_blind 34 = .ok (.aload_n 0, 1) := by decide +kernel
theorem D_TL_blind_35 : decode cX11_blind 35 = .ok (.getfield 60, 3) := by decide +kernel
theorem D_TL_blind_38 : decode cX11_blind 38 = .ok (.aload_n 0, 1) := by decide +kernel
theorem D_TL_blind_39 : decode cX11_blind 39 = .ok (.getfield 30, 3) := by decide +kernel
theorem D_TL_blind_42 : decode cX11_blind 42 = .ok (.getfield 118, 3) := by decide +kernel
theorem D_TL_blind_45 : decode cX11_blind 45 = .ok (.iload_n 2, 1) := by decide +kernel
theorem D_TL_blind_46 : decode cX11_blind 46 = .ok (.aaload, 1) := by decide +kernel
theorem D_TL_blind_47 : decode cX11_blind 47 = .ok (.iconst (0), 1) := by decide +kernel
theorem D_TL_blind_48 : decode cX11_blind 48 = .ok (.invokevirtual 260, 3) := by decide +kernel
theorem D_TL_blind_51 : decode cX11_blind 51 = .ok (.ifCond .eq (9), 3) := by decide +kernel
theorem D_TL_blind_54 : decode cX11_blind 54 = .ok (.iload_n 1, 1) := by decide +kernel
theorem D_TL_blind_55 : decode cX11_blind 55 = .ok (.iconst (1), 1) := by decide +kernel
theorem D_TL_blind_56 : decode cX11_blind 56 = .ok (.iload_n 2, 1) := by decide +kernel
theorem D_TL_blind_57 : decode cX11_blind 57 = .ok (.ishl, 1) := by decide +kernel
theorem D_TL_blind_58 : decode cX11_blind 58 = .ok (.ior, 1) := by decide +kernel
theorem D_TL_blind_59 : decode cX11_blind 59 = .ok (.istore_n 1, 1) := by decide +kernel
theorem D_TL_blind_60 : decode cX11_blind 60 = .ok (.iinc 2 (1), 3) := by decide +kernel
theorem D_TL_blind_63 : decode cX11_blind 63 = .ok (.goto (-41), 3) := by decide +kernel
theorem D_TL_blind_66 : decode cX11_blind 66 = .ok (.iload_n 1, 1) := by decide +kernel
theorem D_TL_blind_67 : decode cX11_blind 67 = .ok (.ireturn, 1) := by decide +kernel
def K_TL_blind : SC := (cX11_blind, "TwoLevels", 3, 6, false, [3, 43, 44, 45, 46, 47, 48], NoQ)
def d_TL_blind : MD Int32 := mth tt 3 (sq (sE (kV 3 d_Fit_load (eh1 (gR 12 10) (lR 0)) [vR (eh1 (gR 10 0) (eh1 (gR 12 3) (lR 0))), vJ (eh1 (gJ 12 4) (lR 0))]))
 (sq (sI1 1 (eC (nI 0)))
 (sq (sq (sI1 2 (eC (nI 0)))
 (loop (eh2 c_lt (lI 2) (eh1 aL (eh1 (gR 10 1) (eh1 (gR 12 3) (lR 0)))))
 (sIf (eh1 z_ne (kV 3 d_Fit_reach (eh1 (gR 12 10) (lR 0)) [vR (eh2 (aR (.object "TwoLevels$Rule")) (eh1 (gR 10 1) (eh1 (gR 12 3) (lR 0))) (lI 2)), vI (eC (nI 0))])) (sI1 1 (eh2 iorF (lI 1) (eh2 ishlF (eC (nI 1)) (lI 2)))) sk)
 (sInc 2 (nI 1))))
 (rtn (lI 1)))))
theorem m_TL_blind : MJ 6 [3, 43, 44, 45, 46, 47, 48] yX11_blind (some .int) eI (d_TL_blind) := MJ_of (K := K_TL_blind) (ri := .ireturn) (n1 := 0) (n2 := 0) (n3 := 0)
 (SJ_sq (p0 := 0) (p1 := 18) (nN := 0) (nB := 0) (nC := 0) (SJ_void (p0 := 0) (p1 := 18) (EJ_callV (t := 3) (c := 2) (r := (RX2, TX2, 12)) (p0 := 0) (p1 := 4) (p2 := 15) (EJ_getR (t := 12) (c := 11) (kf := 10) (r := (RX11, TX11, 16)) (p0 := 0) (p1 := 1) (EJ_aload_n (j := 0) (i := 0) (pc := 0) D_TL_blind_0 rfl) D_TL_blind_1 ⟨rfl, rfl, by decide, q_265⟩ (fun _ _ => rfl)) (AJ_R (p0 := 4) (p1 := 11) (p2 := 15) (EJ_getR (t := 10) (c := 9) (kf := 0) (r := (RX9, TX9, 4)) (p0 := 4) (p1 := 8) (EJ_getR (t := 12) (c := 11) (kf := 3) (r := (RX11, TX11, 16)) (p0 := 4) (p1 := 5) (EJ_aload_n (j := 0) (i := 0) (pc := 4) D_TL_blind_4 rfl) D_TL_blind_5 ⟨rfl, rfl, by decide, q_258⟩ (fun _ _ => rfl)) D_TL_blind_8 ⟨rfl, rfl, by decide, q_174⟩ (fun _ _ => rfl)) (AJ_J (p0 := 11) (p1 := 15) (p2 := 15) (EJ_getJ (t := 12) (c := 11) (kf := 4) (r := (RX11, TX11, 16)) (p0 := 11) (p1 := 12) (EJ_aload_n (j := 0) (i := 0) (pc := 11) D_TL_blind_11 rfl) D_TL_blind_12 ⟨rfl, rfl, by decide, q_259⟩ (fun _ _ => rfl)) AJ_nil)) m_Fit_load E1_U D_TL_blind_15 rfl rfl rfl q_667 q_668 q_669 q_95 ⟨by decide +kernel, by decide +kernel, by decide +kernel⟩ (by decide) (show 2 + 1 ≤ 6 from by decide) (show ∀ x_ ∈ ([3, 43, 44, 46] : List Nat), x_ ∈ ([3, 43, 44, 45, 46, 47, 48] : List Nat) from by decide)))
 (SJ_sq (p0 := 18) (p1 := 20) (nN := 0) (nB := 0) (nC := 0) (SJ_istore_n (i := 1) (j := 1) (p0 := 18) (p1 := 19) (EJ_iconst (n := 0) (v := (nI 0)) (pc := 18) D_TL_blind_18 (by decide +kernel)) D_TL_blind_19 rfl)
 (SJ_sq (p0 := 20) (p1 := 66) (nN := 0) (nB := 0) (nC := 0) (SJ_sq (p0 := 20) (p1 := 22) (nN := 66) (nB := 0) (nC := 0) (SJ_istore_n (i := 2) (j := 2) (p0 := 20) (p1 := 21) (EJ_iconst (n := 0) (v := (nI 0)) (pc := 20) D_TL_blind_20 (by decide +kernel)) D_TL_blind_21 rfl)
 (SJ_loop (p0 := 22) (pB := 34) (pS := 60) (pE := 66) (CJ_lt' (off := 35) (tgt := 66) (p0 := 22) (p1 := 23) (p2 := 31) (EJ_iload_n (j := 2) (i := 2) (pc := 22) D_TL_blind_22 rfl) (EJ_alen (p0 := 23) (p1 := 30) (EJ_getR (t := 10) (c := 9) (kf := 1) (r := (RX9, TX9, 4)) (p0 := 23) (p1 := 27) (EJ_getR (t := 12) (c := 11) (kf := 3) (r := (RX11, TX11, 16)) (p0 := 23) (p1 := 24) (EJ_aload_n (j := 0) (i := 0) (pc := 23) D_TL_blind_23 rfl) D_TL_blind_24 ⟨rfl, rfl, by decide, q_258⟩ (fun _ _ => rfl)) D_TL_blind_27 ⟨rfl, rfl, by decide, q_177⟩ (fun _ _ => rfl)) D_TL_blind_30) D_TL_blind_31 rfl)
 (SJ_if (p0 := 34) (pT := 54) (pF := 60) (nN := 60) (nB := 66) (nC := 60) (CZ_ne' (off := 9) (tgt := 60) (p0 := 34) (p1 := 51) (EJ_callV (t := 3) (c := 2) (r := (RX2, TX2, 12)) (p0 := 34) (p1 := 38) (p2 := 48) (EJ_getR (t := 12) (c := 11) (kf := 10) (r := (RX11, TX11, 16)) (p0 := 34) (p1 := 35) (EJ_aload_n (j := 0) (i := 0) (pc := 34) D_TL_blind_34 rfl) D_TL_blind_35 ⟨rfl, rfl, by decide, q_265⟩ (fun _ _ => rfl)) (AJ_R (p0 := 38) (p1 := 47) (p2 := 48) (EJ_aald (p0 := 38) (p1 := 45) (p2 := 46) (EJ_getR (t := 10) (c := 9) (kf := 1) (r := (RX9, TX9, 4)) (p0 := 38) (p1 := 42) (EJ_getR (t := 12) (c := 11) (kf := 3) (r := (RX11, TX11, 16)) (p0 := 38) (p1 := 39) (EJ_aload_n (j := 0) (i := 0) (pc := 38) D_TL_blind_38 rfl) D_TL_blind_39 ⟨rfl, rfl, by decide, q_258⟩ (fun _ _ => rfl)) D_TL_blind_42 ⟨rfl, rfl, by decide, q_177⟩ (fun _ _ => rfl)) (EJ_iload_n (j := 2) (i := 2) (pc := 45) D_TL_blind_45 rfl) D_TL_blind_46 (Or.inl ⟨_, rfl⟩)) (AJ_I (p0 := 47) (p1 := 48) (p2 := 48) (EJ_iconst (n := 0) (v := (nI 0)) (pc := 47) D_TL_blind_47 (by decide +kernel)) AJ_nil)) m_Fit_reach E1_I D_TL_blind_48 rfl rfl rfl q_762 q_763 q_764 q_95 ⟨by decide +kernel, by decide +kernel, by decide +kernel⟩ (by decide) (show 5 + 1 ≤ 6 from by decide) (show ∀ x_ ∈ ([3, 43, 44, 45, 46, 47, 48] : List Nat), x_ ∈ ([3, 43, 44, 45, 46, 47, 48] : List Nat) from by decide)) D_TL_blind_51 rfl) (SJ_istore_n (i := 1) (j := 1) (p0 := 54) (p1 := 59) (EJ_ior (p0 := 54) (p1 := 55) (p2 := 58) (EJ_iload_n (j := 1) (i := 1) (pc := 54) D_TL_blind_54 rfl) (EJ_ishl (p0 := 55) (p1 := 56) (p2 := 57) (EJ_iconst (n := 1) (v := (nI 1)) (pc := 55) D_TL_blind_55 (by decide +kernel)) (EJ_iload_n (j := 2) (i := 2) (pc := 56) D_TL_blind_56 rfl) D_TL_blind_57) D_TL_blind_58) D_TL_blind_59 rfl) SJ_sk)
 (SJ_post (SJ_iinc (i := 2) (n := 1) (v := (nI 1)) (pc := 60) D_TL_blind_60 (by decide +kernel)) (Lead.goto (K := K_TL_blind) (pc := 63) (tgt := 22) D_TL_blind_63 rfl))))
 (SJ_ret (p0 := 66) (p1 := 67) (EJ_iload_n (j := 1) (i := 1) (pc := 66) D_TL_blind_66 rfl) D_TL_blind_67))))
 RTm_int q_771 (by decide +kernel) rfl (fun h => by cases h) (show 3 ≤ 40 from by decide) (fun _ => trivial)
theorem D_Search_behind_0 : decode cX7_behind 0 = .ok (.aload_n 1, 1) := by decide +kernel
theorem D_Search_behind_1 : decode cX7_behind 1 = .ok (.getfield 123, 3) := by decide +kernel
theorem D_Search_behind_4 : decode cX7_behind 4 = .ok (.iconst (1), 1) := by decide +kernel
theorem D_Search_behind_5 : decode cX7_behind 5 = .ok (.iadd, 1) := by decide +kernel
theorem D_Search_behind_6 : decode cX7_behind 6 = .ok (.istore_n 2, 1) := by decide +kernel
theorem D_Search_behind_7 : decode cX7_behind 7 = .ok (.iload_n 2, 1) := by decide +kernel
theorem D_Search_behind_8 : decode cX7_behind 8 = .ok (.aload_n 0, 1) := by decide +kernel
theorem D_Search_behind_9 : decode cX7_behind 9 = .ok (.getfield 55, 3) := by decide +kernel
theorem D_Search_behind_12 : decode cX7_behind 12 = .ok (.if_icmp .ge (25), 3) := by decide +kernel
theorem D_Search_behind_15 : decode cX7_behind 15 = .ok (.aload_n 0, 1) := by decide +kernel
theorem D_Search_behind_16 : decode cX7_behind 16 = .ok (.getfield 17, 3) := by decide +kernel
theorem D_Search_behind_19 : decode cX7_behind 19 = .ok (.iload_n 2, 1) := by decide +kernel
theorem D_Search_behind_20 : decode cX7_behind 20 = .ok (.aaload, 1) := by decide +kernel
theorem D_Search_behind_21 : decode cX7_behind 21 = .ok (.getfield 65, 3) := by decide +kernel
theorem D_Search_behind_24 : decode cX7_behind 24 = .ok (.aload_n 1, 1) := by decide +kernel
theorem D_Search_behind_25 : decode cX7_behind 25 = .ok (.getfield 65, 3) := by decide +kernel
theorem D_Search_behind_28 : decode cX7_behind 28 = .ok (.if_icmp .le (9), 3) := by decide +kernel
theorem D_Search_behind_31 : decode cX7_behind 31 = .ok (.iinc 2 (1), 3) := by decide +kernel
theorem D_Search_behind_34 : decode cX7_behind 34 = .ok (.goto (-27), 3) := by decide +kernel
theorem D_Search_behind_37 : decode cX7_behind 37 = .ok (.iload_n 2, 1) := by decide +kernel
theorem D_Search_behind_38 : decode cX7_behind 38 = .ok (.ireturn, 1) := by decide +kernel
def K_Search_behind : SC := (cX7_behind, "TwoLevels$Search", 3, 1, false, [], NoQ)
def d_Search_behind : MD Int32 := mth tt 3 (sq (sI1 2 (eh2 iaddF (eh1 (gI 4 0) (lR 1)) (eC (nI 1))))
 (sq (loop (cAnd (eh2 c_lt (lI 2) (eh1 (gI 8 10) (lR 0))) (eh2 c_gt (eh1 (gI 4 2) (eh2 (aR (.object "TwoLevels$Node")) (eh1 (gR 8 9) (lR 0)) (lI 2))) (eh1 (gI 4 2) (lR 1))))
 (sInc 2 (nI 1))
 sk)
 (rtn (lI 2))))
theorem m_Search_behind : MJ 1 [] yX7_behind (some .int) eI (d_Search_behind) := MJ_of (K := K_Search_behind) (ri := .ireturn) (n1 := 0) (n2 := 0) (n3 := 0)
 (SJ_sq (p0 := 0) (p1 := 7) (nN := 0) (nB := 0) (nC := 0) (SJ_istore_n (i := 2) (j := 2) (p0 := 0) (p1 := 6) (EJ_iadd (p0 := 0) (p1 := 4) (p2 := 5) (EJ_getI (t := 4) (c := 3) (kf := 0) (r := (RX3, TX3, 11)) (p0 := 0) (p1 := 1) (EJ_aload_n (j := 1) (i := 1) (pc := 0) D_Search_behind_0 rfl) D_Search_behind_1 ⟨rfl, rfl, by decide, q_796⟩ (fun _ _ => rfl)) (EJ_iconst (n := 1) (v := (nI 1)) (pc := 4) D_Search_behind_4 (by decide +kernel)) D_Search_behind_5) D_Search_behind_6 rfl)
 (SJ_sq (p0 := 7) (p1 := 37) (nN := 0) (nB := 0) (nC := 0) (SJ_loop (p0 := 7) (pB := 31) (pS := 7) (pE := 37) (CJ_and (p0 := 7) (pM := 15) (pT := 31) (pF := 37) (CJ_lt' (off := 25) (tgt := 37) (p0 := 7) (p1 := 8) (p2 := 12) (EJ_iload_n (j := 2) (i := 2) (pc := 7) D_Search_behind_7 rfl) (EJ_getI (t := 8) (c := 7) (kf := 10) (r := (RX7, TX7, 11)) (p0 := 8) (p1 := 9) (EJ_aload_n (j := 0) (i := 0) (pc := 8) D_Search_behind_8 rfl) D_Search_behind_9 ⟨rfl, rfl, by decide, q_242⟩ (fun _ _ => rfl)) D_Search_behind_12 rfl) (CJ_gt' (off := 9) (tgt := 37) (p0 := 15) (p1 := 24) (p2 := 28) (EJ_getI (t := 4) (c := 3) (kf := 2) (r := (RX3, TX3, 11)) (p0 := 15) (p1 := 21) (EJ_aald (p0 := 15) (p1 := 19) (p2 := 20) (EJ_getR (t := 8) (c := 7) (kf := 9) (r := (RX7, TX7, 11)) (p0 := 15) (p1 := 16) (EJ_aload_n (j := 0) (i := 0) (pc := 15) D_Search_behind_15 rfl) D_Search_behind_16 ⟨rfl, rfl, by decide, q_241⟩ (fun _ _ => rfl)) (EJ_iload_n (j := 2) (i := 2) (pc := 19) D_Search_behind_19 rfl) D_Search_behind_20 (Or.inl ⟨_, rfl⟩)) D_Search_behind_21 ⟨rfl, rfl, by decide, q_799⟩ (fun _ _ => rfl)) (EJ_getI (t := 4) (c := 3) (kf := 2) (r := (RX3, TX3, 11)) (p0 := 24) (p1 := 25) (EJ_aload_n (j := 1) (i := 1) (pc := 24) D_Search_behind_24 rfl) D_Search_behind_25 ⟨rfl, rfl, by decide, q_799⟩ (fun _ _ => rfl)) D_Search_behind_28 rfl))
 (SJ_post (SJ_iinc (i := 2) (n := 1) (v := (nI 1)) (pc := 31) D_Search_behind_31 (by decide +kernel)) (Lead.goto (K := K_Search_behind) (pc := 34) (tgt := 7) D_Search_behind_34 rfl))
 SJ_sk)
 (SJ_ret (p0 := 37) (p1 := 38) (EJ_iload_n (j := 2) (i := 2) (pc := 37) D_Search_behind_37 rfl) D_Search_behind_38)))
 RTm_int q_925 (by decide +kernel) rfl (fun h => by cases h) (show 3 ≤ 40 from by decide) (fun _ => trivial)
theorem D_Search_nodeOrNull_0 : decode cX7_nodeOrNull 0 = .ok (.iload_n 1, 1) := by decide +kernel
theorem D_Search_nodeOrNull_1 : decode cX7_nodeOrNull 1 = .ok (.ifCond .lt (20), 3) := by decide +kernel
theorem D_Search_nodeOrNull_4 : decode cX7_nodeOrNull 4 = .ok (.iload_n 1, 1) := by decide +kernel
theorem D_Search_nodeOrNull_5 : decode cX7_nodeOrNull 5 = .ok (.aload_n 0, 1) := by decide +kernel
theorem D_Search_nodeOrNull_6 : decode cX7_nodeOrNull 6 = .ok (.getfield 55, 3) := by decide +kernel
theorem D_Search_nodeOrNull_9 : decode cX7_nodeOrNull 9 = .ok (.if_icmp .ge (12), 3) := by decide +kernel
theorem D_Search_nodeOrNull_12 : decode cX7_nodeOrNull 12 = .ok (.aload_n 0, 1) := by decide +kernel
theorem D_Search_nodeOrNull_13 : decode cX7_nodeOrNull 13 = .ok (.getfield 17, 3) := by decide +kernel
theorem D_Search_nodeOrNull_16 : decode cX7_nodeOrNull 16 = .ok (.iload_n 1, 1) := by decide +kernel
theorem D_Search_nodeOrNull_17 : decode cX7_nodeOrNull 17 = .ok (.aaload, 1) := by decide +kernel
theorem D_Search_nodeOrNull_18 : decode cX7_nodeOrNull 18 = .ok (.goto (4), 3) := by decide +kernel
theorem D_Search_nodeOrNull_21 : decode cX7_nodeOrNull 21 = .ok (.aconst_null, 1) := by decide +kernel
theorem D_Search_nodeOrNull_22 : decode cX7_nodeOrNull 22 = .ok (.areturn, 1) := by decide +kernel
def K_Search_nodeOrNull : SC := (cX7_nodeOrNull, "TwoLevels$Search", 2, 1, false, [], NoQ)
def d_Search_nodeOrNull : MD (Option Nat) := mth tt 2 (rtn (eIf (cAnd (eh1 z_ge (lI 1)) (eh2 c_lt (lI 1) (eh1 (gI 8 10) (lR 0)))) (eh2 (aR (.object "TwoLevels$Node")) (eh1 (gR 8 9) (lR 0)) (lI 1)) (eC none)))
theorem m_Search_nodeOrNull : MJ 1 [] yX7_nodeOrNull (some (.object "TwoLevels$Node")) eR (d_Search_nodeOrNull) := MJ_of (K := K_Search_nodeOrNull) (ri := .areturn) (n1 := 0) (n2 := 0) (n3 := 0)
 (SJ_ret (p0 := 0) (p1 := 22) (EJ_if (p0 := 0) (pT := 12) (pF := 21) (pE := 18) (p1 := 22) (CJ_and (p0 := 0) (pM := 4) (pT := 12) (pF := 21) (CZ_ge' (off := 20) (tgt := 21) (p0 := 0) (p1 := 1) (EJ_iload_n (j := 1) (i := 1) (pc := 0) D_Search_nodeOrNull_0 rfl) D_Search_nodeOrNull_1 rfl) (CJ_lt' (off := 12) (tgt := 21) (p0 := 4) (p1 := 5) (p2 := 9) (EJ_iload_n (j := 1) (i := 1) (pc := 4) D_Search_nodeOrNull_4 rfl) (EJ_getI (t := 8) (c := 7) (kf := 10) (r := (RX7, TX7, 11)) (p0 := 5) (p1 := 6) (EJ_aload_n (j := 0) (i := 0) (pc := 5) D_Search_nodeOrNull_5 rfl) D_Search_nodeOrNull_6 ⟨rfl, rfl, by decide, q_242⟩ (fun _ _ => rfl)) D_Search_nodeOrNull_9 rfl)) (EJ_aald (p0 := 12) (p1 := 16) (p2 := 17) (EJ_getR (t := 8) (c := 7) (kf := 9) (r := (RX7, TX7, 11)) (p0 := 12) (p1 := 13) (EJ_aload_n (j := 0) (i := 0) (pc := 12) D_Search_nodeOrNull_12 rfl) D_Search_nodeOrNull_13 ⟨rfl, rfl, by decide, q_241⟩ (fun _ _ => rfl)) (EJ_iload_n (j := 1) (i := 1) (pc := 16) D_Search_nodeOrNull_16 rfl) D_Search_nodeOrNull_17 (Or.inl ⟨_, rfl⟩)) (Lead.goto (K := K_Search_nodeOrNull) (pc := 18) (tgt := 22) D_Search_nodeOrNull_18 rfl) (EJ_null (pc := 21) D_Search_nodeOrNull_21)) D_Search_nodeOrNull_22)
 (RTm_ref (Or.inl ⟨_, rfl⟩)) q_887 (by decide +kernel) rfl (fun h => by cases h) (show 2 ≤ 40 from by decide) (fun _ => trivial)
theorem D_Search_hasItsMembers_0 : decode cX7_hasItsMembers 0 = .ok (.aload_n 1, 1) := by decide +kernel
theorem D_Search_hasItsMembers_1 : decode cX7_hasItsMembers 1 = .ok (.getfield 72, 3) := by decide +kernel
theorem D_Search_hasItsMembers_4 : decode cX7_hasItsMembers 4 = .ok (.istore_n 2, 1) := by decide +kernel
theorem D_Search_hasItsMembers_5 : decode cX7_hasItsMembers 5 = .ok (.aload_n 1, 1) := by decide +kernel
theorem D_Search_hasItsMembers_6 : decode cX7_hasItsMembers 6 = .ok (.getfield 123, 3) := by decide +kernel
theorem D_Search_hasItsMembers_9 : decode cX7_hasItsMembers 9 = .ok (.iconst (1), 1) := by decide +kernel
theorem D_Search_hasItsMembers_10 : decode cX7_hasItsMembers 10 = .ok (.iadd, 1) := by decide +kernel
theorem D_Search_hasItsMembers_11 : decode cX7_hasItsMembers 11 = .ok (.istore_n 3, 1) := by decide +kernel
theorem D_Search_hasItsMembers_12 : decode cX7_hasItsMembers 12 = .ok (.iconst (0), 1) := by decide +kernel
theorem D_Search_hasItsMembers_13 : decode cX7_hasItsMembers 13 = .ok (.istore 4, 2) := by decide +kernel
theorem D_Search_hasItsMembers_15 : decode cX7_hasItsMembers 15 = .ok (.iload 4, 2) := by decide +kernel
theorem D_Search_hasItsMembers_17 : decode cX7_hasItsMembers 17 = .ok (.aload_n 1, 1) := by decide +kernel
theorem D_Search_hasItsMembers_18 : decode cX7_hasItsMembers 18 = .ok (.getfield 136, 3) := by decide +kernel
theorem D_Search_hasItsMembers_21 : decode cX7_hasItsMembers 21 = .ok (.getfield 210, 3) := by decide +kernel
theorem D_Search_hasItsMembers_24 : decode cX7_hasItsMembers 24 = .ok (.if_icmp .ge (134), 3) := by decide +kernel
theorem D_Search_hasItsMembers_27 : decode cX7_hasItsMembers 27 = .ok (.aload_n 0, 1) := by decide +kernel
theorem D_Search_hasItsMembers_28 : decode cX7_hasItsMembers 28 = .ok (.getfield 25, 3) := by decide +kernel
theorem D_Search_hasItsMembers_31 : decode cX7_hasItsMembers 31 = .ok (.iconst (0), 1) := by decide +kernel
theorem D_Search_hasItsMembers_32 : decode cX7_hasItsMembers 32 = .ok (.aaload, 1) := by decide +kernel
theorem D_Search_hasItsMembers_33 : decode cX7_hasItsMembers 33 = .ok (.aload_n 1, 1) := by decide +kernel
theorem D_Search_hasItsMembers_34 : decode cX7_hasItsMembers 34 = .ok (.getfield 136, 3) := by decide +kernel
theorem D_Search_hasItsMembers_37 : decode cX7_hasItsMembers 37 = .ok (.getfield 188, 3) := by decide +kernel
theorem D_Search_hasItsMembers_40 : decode cX7_hasItsMembers 40 = .ok (.iload 4, 2) := by decide +kernel
theorem D_Search_hasItsMembers_42 : decode cX7_hasItsMembers 42 = .ok (.aaload, 1) := by decide +kernel
theorem D_Search_hasItsMembers_43 : decode cX7_hasItsMembers 43 = .ok (.bipush (6), 2) := by decide +kernel
theorem D_Search_hasItsMembers_45 : decode cX7_hasItsMembers 45 = .ok (.invokevirtual 192, 3) := by decide +kernel
theorem D_Search_hasItsMembers_48 : decode cX7_hasItsMembers 48 = .ok (.lstore 5, 2) := by decide +kernel
theorem D_Search_hasItsMembers_50 : decode cX7_hasItsMembers 50 = .ok (.aload_n 1, 1) := by decide +kernel
theorem D_Search_hasItsMembers_51 : decode cX7_hasItsMembers 51 = .ok (.getfield 136, 3) := by decide +kernel
theorem D_Search_hasItsMembers_54 : decode cX7_hasItsMembers 54 = .ok (.iload 4, 2) := by decide +kernel
theorem D_Search_hasItsMembers_56 : decode cX7_hasItsMembers 56 = .ok (.invokevirtual 211, 3) := by decide +kernel
theorem D_Search_hasItsMembers_59 : decode cX7_hasItsMembers 59 = .ok (.ifCond .eq (32), 3) := by decide +kernel
theorem D_Search_hasItsMembers_62 : decode cX7_hasItsMembers 62 = .ok (.iload_n 2, 1) := by decide +kernel
theorem D_Search_hasItsMembers_63 : decode cX7_hasItsMembers 63 = .ok (.aload_n 0, 1) := by decide +kernel
theorem D_Search_hasItsMembers_64 : decode cX7_hasItsMembers 64 = .ok (.getfield 9, 3) := by decide +kernel
theorem D_Search_hasItsMembers_67 : decode cX7_hasItsMembers 67 = .ok (.arraylength, 1) := by decide +kernel
theorem D_Search_hasItsMembers_68 : decode cX7_hasItsMembers 68 = .ok (.if_icmp .ge (15), 3) := by decide +kernel
theorem D_Search_hasItsMembers_71 : decode cX7_hasItsMembers 71 = .ok (.aload_n 0, 1) := by decide +kernel
theorem D_Search_hasItsMembers_72 : decode cX7_hasItsMembers 72 = .ok (.getfield 9, 3) := by decide +kernel
theorem D_Search_hasItsMembers_75 : decode cX7_hasItsMembers 75 = .ok (.iload_n 2, 1) := by decide +kernel
theorem D_Search_hasItsMembers_76 : decode cX7_hasItsMembers 76 = .ok (.laload, 1) := by decide +kernel
theorem D_Search_hasItsMembers_77 : decode cX7_hasItsMembers 77 = .ok (.lload 5, 2) := by decide +kernel
theorem D_Search_hasItsMembers_79 : decode cX7_hasItsMembers 79 = .ok (.lcmp, 1) := by decide +kernel
theorem D_Search_hasItsMembers_80 : decode cX7_hasItsMembers 80 = .ok (.ifCond .eq (5), 3) := by decide +kernel
theorem D_Search_hasItsMembers_83 : decode cX7_hasItsMembers 83 = .ok (.iconst (0), 1) := by decide +kernel
theorem D_Search_hasItsMembers_84 : decode cX7_hasItsMembers 84 = .ok (.ireturn, 1) := by decide +kernel
theorem D_Search_hasItsMembers_85 : decode cX7_hasItsMembers 85 = .ok (.iinc 2 (1), 3) := by decide +kernel
theorem D_Search_hasItsMembers_88 : decode cX7_hasItsMembers 88 = .ok (.goto (64), 3) := by decide +kernel
theorem D_Search_hasItsMembers_91 : decode cX7_hasItsMembers 91 = .ok (.aload_n 0, 1) := by decide +kernel
theorem D_Search_hasItsMembers_92 : decode cX7_hasItsMembers 92 = .ok (.iload_n 3, 1) := by decide +kernel
theorem D_Search_hasItsMembers_93 : decode cX7_hasItsMembers 93 = .ok (.invokevirtual 235, 3) := by decide +kernel
theorem D_Search_hasItsMembers_96 : decode cX7_hasItsMembers 96 = .ok (.astore 7, 2) := by decide +kernel
theorem D_Search_hasItsMembers_98 : decode cX7_hasItsMembers 98 = .ok (.aload 7, 2) := by decide +kernel
theorem D_Search_hasItsMembers_100 : decode cX7_hasItsMembers 100 = .ok (.ifnull (35), 3) := by decide +kernel
theorem D_Search_hasItsMembers_103 : decode cX7_hasItsMembers 103 = .ok (.aload 7, 2) := by decide +kernel
theorem D_Search_hasItsMembers_105 : decode cX7_hasItsMembers 105 = .ok (.getfield 78, 3) := by decide +kernel
theorem D_Search_hasItsMembers_108 : decode cX7_hasItsMembers 108 = .ok (.aload_n 1, 1) := by decide +kernel
theorem D_Search_hasItsMembers_109 : decode cX7_hasItsMembers 109 = .ok (.getfield 123, 3) := by decide +kernel
theorem D_Search_hasItsMembers_112 : decode cX7_hasItsMembers 112 = .ok (.if_icmp .ne (23), 3) := by decide +kernel
theorem D_Search_hasItsMembers_115 : decode cX7_hasItsMembers 115 = .ok (.aload 7, 2) := by decide +kernel
theorem D_Search_hasItsMembers_117 : decode cX7_hasItsMembers 117 = .ok (.getfield 68, 3) := by decide +kernel
theorem D_Search_hasItsMembers_120 : decode cX7_hasItsMembers 120 = .ok (.lload 5, 2) := by decide +kernel
theorem D_Search_hasItsMembers_122 : decode cX7_hasItsMembers 122 = .ok (.lcmp, 1) := by decide +kernel
theorem D_Search_hasItsMembers_123 : decode cX7_hasItsMembers 123 = .ok (.ifCond .ne (12), 3) := by decide +kernel
theorem D_Search_hasItsMembers_126 : decode cX7_hasItsMembers 126 = .ok (.aload 7, 2) := by decide +kernel
theorem D_Search_hasItsMembers_128 : decode cX7_hasItsMembers 128 = .ok (.getfield 72, 3) := by decide +kernel
theorem D_Search_hasItsMembers_131 : decode cX7_hasItsMembers 131 = .ok (.iload_n 2, 1) := by decide +kernel
theorem D_Search_hasItsMembers_132 : decode cX7_hasItsMembers 132 = .ok (.if_icmp .eq (5), 3) := by decide +kernel
theorem D_Search_hasItsMembers_135 : decode cX7_hasItsMembers 135 = .ok (.iconst (0), 1) := by decide +kernel
theorem D_Search_hasItsMembers_136 : decode cX7_hasItsMembers 136 = .ok (.ireturn, 1) := by decide +kernel
theorem D_Search_hasItsMembers_137 : decode cX7_hasItsMembers 137 = .ok (.iload_n 2, 1) := by decide +kernel
theorem D_Search_hasItsMembers_138 : decode cX7_hasItsMembers 138 = .ok (.aload 7, 2) := by decide +kernel
theorem D_Search_hasItsMembers_140 : decode cX7_hasItsMembers 140 = .ok (.getfield 75, 3) := by decide +kernel
theorem D_Search_hasItsMembers_143 : decode cX7_hasItsMembers 143 = .ok (.iadd, 1) := by decide +kernel
theorem D_Search_hasItsMembers_144 : decode cX7_hasItsMembers 144 = .ok (.istore_n 2, 1) := by decide +kernel
theorem D_Search_hasItsMembers_145 : decode cX7_hasItsMembers 145 = .ok (.aload_n 0, 1) := by decide +kernel
theorem D_Search_hasItsMembers_146 : decode cX7_hasItsMembers 146 = .ok (.aload 7, 2) := by decide +kernel
theorem D_Search_hasItsMembers_148 : decode cX7_hasItsMembers 148 = .ok (.invokevirtual 239, 3) := by decide +kernel
theorem D_Search_hasItsMembers_151 : decode cX7_hasItsMembers 151 = .ok (.istore_n 3, 1) := by decide +kernel
theorem D_Search_hasItsMembers_152 : decode cX7_hasItsMembers 152 = .ok (.iinc 4 (1), 3) := by decide +kernel
theorem D_Search_hasItsMembers_155 : decode cX7_hasItsMembers 155 = .ok (.goto (-140), 3) := by decide +kernel
theorem D_Search_hasItsMembers_158 : decode cX7_hasItsMembers 158 = .ok (.aload_n 0, 1) := by decide +kernel
theorem D_Search_hasItsMembers_159 : decode cX7_hasItsMembers 159 = .ok (.iload_n 3, 1) := by decide +kernel
theorem D_Search_hasItsMembers_160 : decode cX7_hasItsMembers 160 = .ok (.invokevirtual 235, 3) := by decide +kernel
theorem D_Search_hasItsMembers_163 : decode cX7_hasItsMembers 163 = .ok (.astore 4, 2) := by decide +kernel
theorem D_Search_hasItsMembers_165 : decode cX7_hasItsMembers 165 = .ok (.iload_n 2, 1) := by decide +kernel
theorem D_Search_hasItsMembers_166 : decode cX7_hasItsMembers 166 = .ok (.aload_n 1, 1) := by decide +kernel
theorem D_Search_hasItsMembers_167 : decode cX7_hasItsMembers 167 = .ok (.getfield 72, 3) := by decide +kernel
theorem D_Search_hasItsMembers_170 : decode cX7_hasItsMembers 170 = .ok (.aload_n 1, 1) := by decide +kernel
theorem D_Search_hasItsMembers_171 : decode cX7_hasItsMembers 171 = .ok (.getfield 75, 3) := by decide +kernel
theorem D_Search_hasItsMembers_174 : decode cX7_hasItsMembers 174 = .ok (.iadd, 1) := by decide +kernel
theorem D_Search_hasItsMembers_175 : decode cX7_hasItsMembers 175 = .ok (.if_icmp .ne (24), 3) := by decide +kernel
theorem D_Search_hasItsMembers_178 : decode cX7_hasItsMembers 178 = .ok (.aload 4, 2) := by decide +kernel
theorem D_Search_hasItsMembers_180 : decode cX7_hasItsMembers 180 = .ok (.ifnull (15), 3) := by decide +kernel
theorem D_Search_hasItsMembers_183 : decode cX7_hasItsMembers 183 = .ok (.aload 4, 2) := by decide +kernel
theorem D_Search_hasItsMembers_185 : decode cX7_hasItsMembers 185 = .ok (.getfield 65, 3) := by decide +kernel
theorem D_Search_hasItsMembers_188 : decode cX7_hasItsMembers 188 = .ok (.aload_n 1, 1) := by decide +kernel
theorem D_Search_hasItsMembers_189 : decode cX7_hasItsMembers 189 = .ok (.getfield 65, 3) := by decide +kernel
theorem D_Search_hasItsMembers_192 : decode cX7_hasItsMembers 192 = .ok (.if_icmp .gt (7), 3) := by decide +kernel
theorem D_Search_hasItsMembers_195 : decode cX7_hasItsMembers 195 = .ok (.iconst (1), 1) := by decide +kernel
theorem D_Search_hasItsMembers_196 : decode cX7_hasItsMembers 196 = .ok (.goto (4), 3) := by decide +kernel
theorem D_Search_hasItsMembers_199 : decode cX7_hasItsMembers 199 = .ok (.iconst (0), 1) := by decide +kernel
theorem D_Search_hasItsMembers_200 : decode cX7_hasItsMembers 200 = .ok (.ireturn, 1) := by decide +kernel
def K_Search_hasItsMembers : SC := (cX7_hasItsMembers, "TwoLevels$Search", 8, 2, false, [], NoQ)
def d_Search_hasItsMembers : MD Int32 := mth zz 8 (sq (sI1 2 (eh1 (gI 4 4) (lR 1)))
 (sq (sI1 3 (eh2 iaddF (eh1 (gI 4 0) (lR 1)) (eC (nI 1))))
 (sq (sq (sI1 4 (eC (nI 0)))
 (loop (eh2 c_lt (lI 4) (eh1 (gI 1 2) (eh1 (gR 4 9) (lR 1))))
 (sq (sJ1 5 (kV 3 d_Fit_spell (eh2 (aR (.object "TwoLevels$Fit")) (eh1 (gR 8 3) (lR 0)) (eC (nI 0))) [vR (eh2 (aR (.array .int)) (eh1 (gR 1 1) (eh1 (gR 4 9) (lR 1))) (lI 4)), vI (eC (nI 6))]))
 (sIf (eh1 z_ne (kV 1 d_Choice_isToken (eh1 (gR 4 9) (lR 1)) [vI (lI 4)])) (sq (sIf (cOr (eh2 c_ge (lI 2) (eh1 aL (eh1 (gR 8 2) (lR 0)))) (eh2 j_ne (eh2 aJ (eh1 (gR 8 2) (lR 0)) (lI 2)) (lJ 5))) (rtn (eC (nI 0))) sk)
 (sInc 2 (nI 1))) (sq (sR1 7 (kV 8 d_Search_nodeOrNull (lR 0) [vI (lI 3)]))
 (sq (sIf (cOr (cOr (cOr (eh1 n_nul (lR 7)) (eh2 c_ne (eh1 (gI 4 3) (lR 7)) (eh1 (gI 4 0) (lR 1)))) (eh2 j_ne (eh1 (gJ 4 1) (lR 7)) (lJ 5))) (eh2 c_ne (eh1 (gI 4 4) (lR 7)) (lI 2))) (rtn (eC (nI 0))) sk)
 (sq (sI1 2 (eh2 iaddF (lI 2) (eh1 (gI 4 5) (lR 7))))
 (sI1 3 (kV 8 d_Search_behind (lR 0) [vR (lR 7)])))))))
 (sInc 4 (nI 1))))
 (sq (sR1 4 (kV 8 d_Search_nodeOrNull (lR 0) [vI (lI 3)]))
 (rtn (eIf (cAnd (eh2 c_eq (lI 2) (eh2 iaddF (eh1 (gI 4 4) (lR 1)) (eh1 (gI 4 5) (lR 1)))) (cOr (eh1 n_nul (lR 4)) (eh2 c_le (eh1 (gI 4 2) (lR 4)) (eh1 (gI 4 2) (lR 1))))) (eC (nI 1)) (eC (nI 0))))))))
theorem m_Search_hasItsMembers : MJ 2 [] yX7_hasItsMembers (some .boolean) eI (d_Search_hasItsMembers) := MJ_of (K := K_Search_hasItsMembers) (ri := .ireturn) (n1 := 0) (n2 := 0) (n3 := 0)
 (SJ_sq (p0 := 0) (p1 := 5) (nN := 0) (nB := 0) (nC := 0) (SJ_istore_n (i := 2) (j := 2) (p0 := 0) (p1 := 4) (EJ_getI (t := 4) (c := 3) (kf := 4) (r := (RX3, TX3, 11)) (p0 := 0) (p1 := 1) (EJ_aload_n (j := 1) (i := 1) (pc := 0) D_Search_hasItsMembers_0 rfl) D_Search_hasItsMembers_1 ⟨rfl, rfl, by decide, q_803⟩ (fun _ _ => rfl)) D_Search_hasItsMembers_4 rfl)
 (SJ_sq (p0 := 5) (p1 := 12) (nN := 0) (nB := 0) (nC := 0) (SJ_istore_n (i := 3) (j := 3) (p0 := 5) (p1 := 11) (EJ_iadd (p0 := 5) (p1 := 9) (p2 := 10) (EJ_getI (t := 4) (c := 3) (kf := 0) (r := (RX3, TX3, 11)) (p0 := 5) (p1 := 6) (EJ_aload_n (j := 1) (i := 1) (pc := 5) D_Search_hasItsMembers_5 rfl) D_Search_hasItsMembers_6 ⟨rfl, rfl, by decide, q_796⟩ (fun _ _ => rfl)) (EJ_iconst (n := 1) (v := (nI 1)) (pc := 9) D_Search_hasItsMembers_9 (by decide +kernel)) D_Search_hasItsMembers_10) D_Search_hasItsMembers_11 rfl)
 (SJ_sq (p0 := 12) (p1 := 158) (nN := 0) (nB := 0) (nC := 0) (SJ_sq (p0 := 12) (p1 := 15) (nN := 158) (nB := 0) (nC := 0) (SJ_istore (i := 4) (p0 := 12) (p1 := 13) (EJ_iconst (n := 0) (v := (nI 0)) (pc := 12) D_Search_hasItsMembers_12 (by decide +kernel)) D_Search_hasItsMembers_13)
 (SJ_loop (p0 := 15) (pB := 27) (pS := 152) (pE := 158) (CJ_lt' (off := 134) (tgt := 158) (p0 := 15) (p1 := 17) (p2 := 24) (EJ_iload (i := 4) (pc := 15) D_Search_hasItsMembers_15) (EJ_getI (t := 1) (c := 0) (kf := 2) (r := (RX0, TX0, 11)) (p0 := 17) (p1 := 21) (EJ_getR (t := 4) (c := 3) (kf := 9) (r := (RX3, TX3, 11)) (p0 := 17) (p1 := 18) (EJ_aload_n (j := 1) (i := 1) (pc := 17) D_Search_hasItsMembers_17 rfl) D_Search_hasItsMembers_18 ⟨rfl, rfl, by decide, q_813⟩ (fun _ _ => rfl)) D_Search_hasItsMembers_21 ⟨rfl, rfl, by decide, q_423⟩ (fun _ _ => rfl)) D_Search_hasItsMembers_24 rfl)
 (SJ_sq (p0 := 27) (p1 := 50) (nN := 152) (nB := 158) (nC := 152) (SJ_lstore (i := 5) (p0 := 27) (p1 := 48) (EJ_callV (t := 3) (c := 2) (r := (RX2, TX2, 12)) (p0 := 27) (p1 := 33) (p2 := 45) (EJ_aald (p0 := 27) (p1 := 31) (p2 := 32) (EJ_getR (t := 8) (c := 7) (kf := 3) (r := (RX7, TX7, 11)) (p0 := 27) (p1 := 28) (EJ_aload_n (j := 0) (i := 0) (pc := 27) D_Search_hasItsMembers_27 rfl) D_Search_hasItsMembers_28 ⟨rfl, rfl, by decide, q_231⟩ (fun _ _ => rfl)) (EJ_iconst (n := 0) (v := (nI 0)) (pc := 31) D_Search_hasItsMembers_31 (by decide +kernel)) D_Search_hasItsMembers_32 (Or.inl ⟨_, rfl⟩)) (AJ_R (p0 := 33) (p1 := 43) (p2 := 45) (EJ_aald (p0 := 33) (p1 := 40) (p2 := 42) (EJ_getR (t := 1) (c := 0) (kf := 1) (r := (RX0, TX0, 11)) (p0 := 33) (p1 := 37) (EJ_getR (t := 4) (c := 3) (kf := 9) (r := (RX3, TX3, 11)) (p0 := 33) (p1 := 34) (EJ_aload_n (j := 1) (i := 1) (pc := 33) D_Search_hasItsMembers_33 rfl) D_Search_hasItsMembers_34 ⟨rfl, rfl, by decide, q_813⟩ (fun _ _ => rfl)) D_Search_hasItsMembers_37 ⟨rfl, rfl, by decide, q_421⟩ (fun _ _ => rfl)) (EJ_iload (i := 4) (pc := 40) D_Search_hasItsMembers_40) D_Search_hasItsMembers_42 (Or.inr ⟨_, rfl⟩)) (AJ_I (p0 := 43) (p1 := 45) (p2 := 45) (EJ_bipush (n := 6) (v := (nI 6)) (pc := 43) D_Search_hasItsMembers_43 (by decide +kernel)) AJ_nil)) m_Fit_spell E1_J D_Search_hasItsMembers_45 rfl rfl rfl q_850 q_851 q_852 q_95 ⟨by decide +kernel, by decide +kernel, by decide +kernel⟩ (by decide) (show 1 + 1 ≤ 2 from by decide) (fun _ h => absurd h List.not_mem_nil)) D_Search_hasItsMembers_48)
 (SJ_if (p0 := 50) (pT := 62) (pF := 91) (nN := 152) (nB := 158) (nC := 152) (CZ_ne' (off := 32) (tgt := 91) (p0 := 50) (p1 := 59) (EJ_callV (t := 1) (c := 0) (r := (RX0, TX0, 11)) (p0 := 50) (p1 := 54) (p2 := 56) (EJ_getR (t := 4) (c := 3) (kf := 9) (r := (RX3, TX3, 11)) (p0 := 50) (p1 := 51) (EJ_aload_n (j := 1) (i := 1) (pc := 50) D_Search_hasItsMembers_50 rfl) D_Search_hasItsMembers_51 ⟨rfl, rfl, by decide, q_813⟩ (fun _ _ => rfl)) (AJ_I (p0 := 54) (p1 := 56) (p2 := 56) (EJ_iload (i := 4) (pc := 54) D_Search_hasItsMembers_54) AJ_nil) m_Choice_isToken E1_I D_Search_hasItsMembers_56 rfl rfl rfl q_846 q_847 q_848 q_103 ⟨by decide +kernel, by decide +kernel, by decide +kernel⟩ (by decide) (show 1 + 1 ≤ 2 from by decide) (fun _ h => absurd h List.not_mem_nil)) D_Search_hasItsMembers_59 rfl) (SJ_sq (p0 := 62) (p1 := 85) (nN := 152) (nB := 158) (nC := 152) (SJ_if (p0 := 62) (pT := 83) (pF := 85) (nN := 85) (nB := 158) (nC := 152) (CJ_or (p0 := 62) (pM := 71) (pT := 83) (pF := 85) (CJ_ge (off := 15) (tgt := 83) (p0 := 62) (p1 := 63) (p2 := 68) (EJ_iload_n (j := 2) (i := 2) (pc := 62) D_Search_hasItsMembers_62 rfl) (EJ_alen (p0 := 63) (p1 := 67) (EJ_getR (t := 8) (c := 7) (kf := 2) (r := (RX7, TX7, 11)) (p0 := 63) (p1 := 64) (EJ_aload_n (j := 0) (i := 0) (pc := 63) D_Search_hasItsMembers_63 rfl) D_Search_hasItsMembers_64 ⟨rfl, rfl, by decide, q_230⟩ (fun _ _ => rfl)) D_Search_hasItsMembers_67) D_Search_hasItsMembers_68 rfl) (CL_ne' (off := 5) (tgt := 85) (p0 := 71) (p1 := 77) (p2 := 79) (EJ_lald (p0 := 71) (p1 := 75) (p2 := 76) (EJ_getR (t := 8) (c := 7) (kf := 2) (r := (RX7, TX7, 11)) (p0 := 71) (p1 := 72) (EJ_aload_n (j := 0) (i := 0) (pc := 71) D_Search_hasItsMembers_71 rfl) D_Search_hasItsMembers_72 ⟨rfl, rfl, by decide, q_230⟩ (fun _ _ => rfl)) (EJ_iload_n (j := 2) (i := 2) (pc := 75) D_Search_hasItsMembers_75 rfl) D_Search_hasItsMembers_76) (EJ_lload (i := 5) (pc := 77) D_Search_hasItsMembers_77) D_Search_hasItsMembers_79 D_Search_hasItsMembers_80 rfl)) (SJ_ret (p0 := 83) (p1 := 84) (EJ_iconst (n := 0) (v := (nI 0)) (pc := 83) D_Search_hasItsMembers_83 (by decide +kernel)) D_Search_hasItsMembers_84) SJ_sk)
 (SJ_post (SJ_iinc (i := 2) (n := 1) (v := (nI 1)) (pc := 85) D_Search_hasItsMembers_85 (by decide +kernel)) (Lead.goto (K := K_Search_hasItsMembers) (pc := 88) (tgt := 152) D_Search_hasItsMembers_88 rfl))) (SJ_sq (p0 := 91) (p1 := 98) (nN := 152) (nB := 158) (nC := 152) (SJ_astore (i := 7) (p0 := 91) (p1 := 96) (EJ_callV (t := 8) (c := 7) (r := (RX7, TX7, 11)) (p0 := 91) (p1 := 92) (p2 := 93) (EJ_aload_n (j := 0) (i := 0) (pc := 91) D_Search_hasItsMembers_91 rfl) (AJ_I (p0 := 92) (p1 := 93) (p2 := 93) (EJ_iload_n (j := 3) (i := 3) (pc := 92) D_Search_hasItsMembers_92 rfl) AJ_nil) m_Search_nodeOrNull E1_R D_Search_hasItsMembers_93 rfl rfl rfl q_922 q_885 q_886 q_96 ⟨by decide +kernel, by decide +kernel, by decide +kernel⟩ (by decide) (show 1 + 1 ≤ 2 from by decide) (fun _ h => absurd h List.not_mem_nil)) D_Search_hasItsMembers_96)
 (SJ_sq (p0 := 98) (p1 := 137) (nN := 152) (nB := 158) (nC := 152) (SJ_if (p0 := 98) (pT := 135) (pF := 137) (nN := 137) (nB := 158) (nC := 152) (CJ_or (p0 := 98) (pM := 126) (pT := 135) (pF := 137) (CJ_or (p0 := 98) (pM := 115) (pT := 135) (pF := 126) (CJ_or (p0 := 98) (pM := 103) (pT := 135) (pF := 115) (CN_nul (off := 35) (tgt := 135) (p0 := 98) (p1 := 100) (EJ_aload (i := 7) (pc := 98) D_Search_hasItsMembers_98) D_Search_hasItsMembers_100 rfl) (CJ_ne (off := 23) (tgt := 135) (p0 := 103) (p1 := 108) (p2 := 112) (EJ_getI (t := 4) (c := 3) (kf := 3) (r := (RX3, TX3, 11)) (p0 := 103) (p1 := 105) (EJ_aload (i := 7) (pc := 103) D_Search_hasItsMembers_103) D_Search_hasItsMembers_105 ⟨rfl, rfl, by decide, q_801⟩ (fun _ _ => rfl)) (EJ_getI (t := 4) (c := 3) (kf := 0) (r := (RX3, TX3, 11)) (p0 := 108) (p1 := 109) (EJ_aload_n (j := 1) (i := 1) (pc := 108) D_Search_hasItsMembers_108 rfl) D_Search_hasItsMembers_109 ⟨rfl, rfl, by decide, q_796⟩ (fun _ _ => rfl)) D_Search_hasItsMembers_112 rfl)) (CL_ne (off := 12) (tgt := 135) (p0 := 115) (p1 := 120) (p2 := 122) (EJ_getJ (t := 4) (c := 3) (kf := 1) (r := (RX3, TX3, 11)) (p0 := 115) (p1 := 117) (EJ_aload (i := 7) (pc := 115) D_Search_hasItsMembers_115) D_Search_hasItsMembers_117 ⟨rfl, rfl, by decide, q_797⟩ (fun _ _ => rfl)) (EJ_lload (i := 5) (pc := 120) D_Search_hasItsMembers_120) D_Search_hasItsMembers_122 D_Search_hasItsMembers_123 rfl)) (CJ_ne' (off := 5) (tgt := 137) (p0 := 126) (p1 := 131) (p2 := 132) (EJ_getI (t := 4) (c := 3) (kf := 4) (r := (RX3, TX3, 11)) (p0 := 126) (p1 := 128) (EJ_aload (i := 7) (pc := 126) D_Search_hasItsMembers_126) D_Search_hasItsMembers_128 ⟨rfl, rfl, by decide, q_803⟩ (fun _ _ => rfl)) (EJ_iload_n (j := 2) (i := 2) (pc := 131) D_Search_hasItsMembers_131 rfl) D_Search_hasItsMembers_132 rfl)) (SJ_ret (p0 := 135) (p1 := 136) (EJ_iconst (n := 0) (v := (nI 0)) (pc := 135) D_Search_hasItsMembers_135 (by decide +kernel)) D_Search_hasItsMembers_136) SJ_sk)
 (SJ_sq (p0 := 137) (p1 := 145) (nN := 152) (nB := 158) (nC := 152) (SJ_istore_n (i := 2) (j := 2) (p0 := 137) (p1 := 144) (EJ_iadd (p0 := 137) (p1 := 138) (p2 := 143) (EJ_iload_n (j := 2) (i := 2) (pc := 137) D_Search_hasItsMembers_137 rfl) (EJ_getI (t := 4) (c := 3) (kf := 5) (r := (RX3, TX3, 11)) (p0 := 138) (p1 := 140) (EJ_aload (i := 7) (pc := 138) D_Search_hasItsMembers_138) D_Search_hasItsMembers_140 ⟨rfl, rfl, by decide, q_805⟩ (fun _ _ => rfl)) D_Search_hasItsMembers_143) D_Search_hasItsMembers_144 rfl)
 (SJ_istore_n (i := 3) (j := 3) (p0 := 145) (p1 := 151) (EJ_callV (t := 8) (c := 7) (r := (RX7, TX7, 11)) (p0 := 145) (p1 := 146) (p2 := 148) (EJ_aload_n (j := 0) (i := 0) (pc := 145) D_Search_hasItsMembers_145 rfl) (AJ_R (p0 := 146) (p1 := 148) (p2 := 148) (EJ_aload (i := 7) (pc := 146) D_Search_hasItsMembers_146) AJ_nil) m_Search_behind E1_I D_Search_hasItsMembers_148 rfl rfl rfl q_923 q_924 q_35 q_96 ⟨by decide +kernel, by decide +kernel, by decide +kernel⟩ (by decide) (show 1 + 1 ≤ 2 from by decide) (fun _ h => absurd h List.not_mem_nil)) D_Search_hasItsMembers_151 rfl))))))
 (SJ_post (SJ_iinc (i := 4) (n := 1) (v := (nI 1)) (pc := 152) D_Search_hasItsMembers_152 (by decide +kernel)) (Lead.goto (K := K_Search_hasItsMembers) (pc := 155) (tgt := 15) D_Search_hasItsMembers_155 rfl))))
 (SJ_sq (p0 := 158) (p1 := 165) (nN := 0) (nB := 0) (nC := 0) (SJ_astore (i := 4) (p0 := 158) (p1 := 163) (EJ_callV (t := 8) (c := 7) (r := (RX7, TX7, 11)) (p0 := 158) (p1 := 159) (p2 := 160) (EJ_aload_n (j := 0) (i := 0) (pc := 158) D_Search_hasItsMembers_158 rfl) (AJ_I (p0 := 159) (p1 := 160) (p2 := 160) (EJ_iload_n (j := 3) (i := 3) (pc := 159) D_Search_hasItsMembers_159 rfl) AJ_nil) m_Search_nodeOrNull E1_R D_Search_hasItsMembers_160 rfl rfl rfl q_922 q_885 q_886 q_96 ⟨by decide +kernel, by decide +kernel, by decide +kernel⟩ (by decide) (show 1 + 1 ≤ 2 from by decide) (fun _ h => absurd h List.not_mem_nil)) D_Search_hasItsMembers_163)
 (SJ_ret (p0 := 165) (p1 := 200) (EJ_if (p0 := 165) (pT := 195) (pF := 199) (pE := 196) (p1 := 200) (CJ_and (p0 := 165) (pM := 178) (pT := 195) (pF := 199) (CJ_eq' (off := 24) (tgt := 199) (p0 := 165) (p1 := 166) (p2 := 175) (EJ_iload_n (j := 2) (i := 2) (pc := 165) D_Search_hasItsMembers_165 rfl) (EJ_iadd (p0 := 166) (p1 := 170) (p2 := 174) (EJ_getI (t := 4) (c := 3) (kf := 4) (r := (RX3, TX3, 11)) (p0 := 166) (p1 := 167) (EJ_aload_n (j := 1) (i := 1) (pc := 166) D_Search_hasItsMembers_166 rfl) D_Search_hasItsMembers_167 ⟨rfl, rfl, by decide, q_803⟩ (fun _ _ => rfl)) (EJ_getI (t := 4) (c := 3) (kf := 5) (r := (RX3, TX3, 11)) (p0 := 170) (p1 := 171) (EJ_aload_n (j := 1) (i := 1) (pc := 170) D_Search_hasItsMembers_170 rfl) D_Search_hasItsMembers_171 ⟨rfl, rfl, by decide, q_805⟩ (fun _ _ => rfl)) D_Search_hasItsMembers_174) D_Search_hasItsMembers_175 rfl) (CJ_or (p0 := 178) (pM := 183) (pT := 195) (pF := 199) (CN_nul (off := 15) (tgt := 195) (p0 := 178) (p1 := 180) (EJ_aload (i := 4) (pc := 178) D_Search_hasItsMembers_178) D_Search_hasItsMembers_180 rfl) (CJ_le' (off := 7) (tgt := 199) (p0 := 183) (p1 := 188) (p2 := 192) (EJ_getI (t := 4) (c := 3) (kf := 2) (r := (RX3, TX3, 11)) (p0 := 183) (p1 := 185) (EJ_aload (i := 4) (pc := 183) D_Search_hasItsMembers_183) D_Search_hasItsMembers_185 ⟨rfl, rfl, by decide, q_799⟩ (fun _ _ => rfl)) (EJ_getI (t := 4) (c := 3) (kf := 2) (r := (RX3, TX3, 11)) (p0 := 188) (p1 := 189) (EJ_aload_n (j := 1) (i := 1) (pc := 188) D_Search_hasItsMembers_188 rfl) D_Search_hasItsMembers_189 ⟨rfl, rfl, by decide, q_799⟩ (fun _ _ => rfl)) D_Search_hasItsMembers_192 rfl))) (EJ_iconst (n := 1) (v := (nI 1)) (pc := 195) D_Search_hasItsMembers_195 (by decide +kernel)) (Lead.goto (K := K_Search_hasItsMembers) (pc := 196) (tgt := 200) D_Search_hasItsMembers_196 rfl) (EJ_iconst (n := 0) (v := (nI 0)) (pc := 199) D_Search_hasItsMembers_199 (by decide +kernel))) D_Search_hasItsMembers_200)))))
 RTm_bool q_921 (by decide +kernel) rfl (fun h => by cases h) (show 8 ≤ 40 from by decide) (fun _ => trivial)
theorem D_Upper_hasMany_0 : decode cX10_hasMany 0 = .ok (.aload_n 0, 1) := by decide +kernel
theorem D_Upper_hasMany_1 : decode cX10_hasMany 1 = .ok (.getfield 28, 3) := by decide +kernel
theorem D_Upper_hasMany_4 : decode cX10_hasMany 4 = .ok (.iload_n 1, 1) := by decide +kernel
theorem D_Upper_hasMany_5 : decode cX10_hasMany 5 = .ok (.aaload, 1) := by decide +kernel
theorem D_Upper_hasMany_6 : decode cX10_hasMany 6 = .ok (.astore_n 3, 1) := by decide +kernel
theorem D_Upper_hasMany_7 : decode cX10_hasMany 7 = .ok (.iconst (0), 1) := by decide +kernel
theorem D_Upper_hasMany_8 : decode cX10_hasMany 8 = .ok (.istore 4, 2) := by decide +kernel
theorem D_Upper_hasMany_10 : decode cX10_hasMany 10 = .ok (.iload 4, 2) := by decide +kernel
theorem D_Upper_hasMany_12 : decode cX10_hasMany 12 = .ok (.aload_n 3, 1) := by decide +kernel
theorem D_Upper_hasMany_13 : decode cX10_hasMany 13 = .ok (.getfield 56, 3) := by decide +kernel
theorem D_Upper_hasMany_16 : decode cX10_hasMany 16 = .ok (.if_icmp .ge (24), 3) := by decide +kernel
theorem D_Upper_hasMany_19 : decode cX10_hasMany 19 = .ok (.aload_n 3, 1) := by decide +kernel
theorem D_Upper_hasMany_20 : decode cX10_hasMany 20 = .ok (.getfield 57, 3) := by decide +kernel
theorem D_Upper_hasMany_23 : decode cX10_hasMany 23 = .ok (.iload 4, 2) := by decide +kernel
theorem D_Upper_hasMany_25 : decode cX10_hasMany 25 = .ok (.iaload, 1) := by decide +kernel
theorem D_Upper_hasMany_26 : decode cX10_hasMany 26 = .ok (.iconst (1), 1) := by decide +kernel
theorem D_Upper_hasMany_27 : decode cX10_hasMany 27 = .ok (.iconst (5), 1) := by decide +kernel
theorem D_Upper_hasMany_28 : decode cX10_hasMany 28 = .ok (.iload_n 2, 1) := by decide +kernel
theorem D_Upper_hasMany_29 : decode cX10_hasMany 29 = .ok (.imul, 1) := by decide +kernel
theorem D_Upper_hasMany_30 : decode cX10_hasMany 30 = .ok (.ishl, 1) := by decide +kernel
theorem D_Upper_hasMany_31 : decode cX10_hasMany 31 = .ok (.if_icmp .ge (9), 3) := by decide +kernel
theorem D_Upper_hasMany_34 : decode cX10_hasMany 34 = .ok (.iinc 4 (1), 3) := by decide +kernel
theorem D_Upper_hasMany_37 : decode cX10_hasMany 37 = .ok (.goto (-27), 3) := by decide +kernel
theorem D_Upper_hasMany_40 : decode cX10_hasMany 40 = .ok (.iload 4, 2) := by decide +kernel
theorem D_Upper_hasMany_42 : decode cX10_hasMany 42 = .ok (.ireturn, 1) := by decide +kernel
def K_Upper_hasMany : SC := (cX10_hasMany, "TwoLevels$Upper", 5, 1, false, [], NoQ)
def d_Upper_hasMany : MD Int32 := mth tt 5 (sq (sR1 3 (eh2 (aR (.object "TwoLevels$Firsts")) (eh1 (gR 11 4) (lR 0)) (lI 1)))
 (sq (sI1 4 (eC (nI 0)))
 (sq (loop (cAnd (eh2 c_lt (lI 4) (eh1 (gI 2 1) (lR 3))) (eh2 c_lt (eh2 (aI .int) (eh1 (gR 2 0) (lR 3)) (lI 4)) (eh2 ishlF (eC (nI 1)) (eh2 imulF (eC (nI 5)) (lI 2)))))
 (sInc 4 (nI 1))
 sk)
 (rtn (lI 4)))))
theorem m_Upper_hasMany : MJ 1 [] yX10_hasMany (some .int) eI (d_Upper_hasMany) := MJ_of (K := K_Upper_hasMany) (ri := .ireturn) (n1 := 0) (n2 := 0) (n3 := 0)
 (SJ_sq (p0 := 0) (p1 := 7) (nN := 0) (nB := 0) (nC := 0) (SJ_astore_n (i := 3) (j := 3) (p0 := 0) (p1 := 6) (EJ_aald (p0 := 0) (p1 := 4) (p2 := 5) (EJ_getR (t := 11) (c := 10) (kf := 4) (r := (RX10, TX10, 7)) (p0 := 0) (p1 := 1) (EJ_aload_n (j := 0) (i := 0) (pc := 0) D_Upper_hasMany_0 rfl) D_Upper_hasMany_1 ⟨rfl, rfl, by decide, q_133⟩ (fun _ _ => rfl)) (EJ_iload_n (j := 1) (i := 1) (pc := 4) D_Upper_hasMany_4 rfl) D_Upper_hasMany_5 (Or.inl ⟨_, rfl⟩)) D_Upper_hasMany_6 rfl)
 (SJ_sq (p0 := 7) (p1 := 10) (nN := 0) (nB := 0) (nC := 0) (SJ_istore (i := 4) (p0 := 7) (p1 := 8) (EJ_iconst (n := 0) (v := (nI 0)) (pc := 7) D_Upper_hasMany_7 (by decide +kernel)) D_Upper_hasMany_8)
 (SJ_sq (p0 := 10) (p1 := 40) (nN := 0) (nB := 0) (nC := 0) (SJ_loop (p0 := 10) (pB := 34) (pS := 10) (pE := 40) (CJ_and (p0 := 10) (pM := 19) (pT := 34) (pF := 40) (CJ_lt' (off := 24) (tgt := 40) (p0 := 10) (p1 := 12) (p2 := 16) (EJ_iload (i := 4) (pc := 10) D_Upper_hasMany_10) (EJ_getI (t := 2) (c := 1) (kf := 1) (r := (RX1, TX1, 2)) (p0 := 12) (p1 := 13) (EJ_aload_n (j := 3) (i := 3) (pc := 12) D_Upper_hasMany_12 rfl) D_Upper_hasMany_13 ⟨rfl, rfl, by decide, q_484⟩ (fun _ _ => rfl)) D_Upper_hasMany_16 rfl) (CJ_lt' (off := 9) (tgt := 40) (p0 := 19) (p1 := 26) (p2 := 31) (EJ_iald (p0 := 19) (p1 := 23) (p2 := 25) (EJ_getR (t := 2) (c := 1) (kf := 0) (r := (RX1, TX1, 2)) (p0 := 19) (p1 := 20) (EJ_aload_n (j := 3) (i := 3) (pc := 19) D_Upper_hasMany_19 rfl) D_Upper_hasMany_20 ⟨rfl, rfl, by decide, q_482⟩ (fun _ _ => rfl)) (EJ_iload (i := 4) (pc := 23) D_Upper_hasMany_23) D_Upper_hasMany_25) (EJ_ishl (p0 := 26) (p1 := 27) (p2 := 30) (EJ_iconst (n := 1) (v := (nI 1)) (pc := 26) D_Upper_hasMany_26 (by decide +kernel)) (EJ_imul (p0 := 27) (p1 := 28) (p2 := 29) (EJ_iconst (n := 5) (v := (nI 5)) (pc := 27) D_Upper_hasMany_27 (by decide +kernel)) (EJ_iload_n (j := 2) (i := 2) (pc := 28) D_Upper_hasMany_28 rfl) D_Upper_hasMany_29) D_Upper_hasMany_30) D_Upper_hasMany_31 rfl))
 (SJ_post (SJ_iinc (i := 4) (n := 1) (v := (nI 1)) (pc := 34) D_Upper_hasMany_34 (by decide +kernel)) (Lead.goto (K := K_Upper_hasMany) (pc := 37) (tgt := 10) D_Upper_hasMany_37 rfl))
 SJ_sk)
 (SJ_ret (p0 := 40) (p1 := 42) (EJ_iload (i := 4) (pc := 40) D_Upper_hasMany_40) D_Upper_hasMany_42))))
 RTm_int q_635 (by decide +kernel) rfl (fun h => by cases h) (show 5 ≤ 40 from by decide) (fun _ => trivial)
theorem D_Upper_hasWord_0 : decode cX10_hasWord 0 = .ok (.aload_n 0, 1) := by decide +kernel
theorem D_Upper_hasWord_1 : decode cX10_hasWord 1 = .ok (.getfield 28, 3) := by decide +kernel
theorem D_Upper_hasWord_4 : decode cX10_hasWord 4 = .ok (.iload_n 1, 1) := by decide +kernel
theorem D_Upper_hasWord_5 : decode cX10_hasWord 5 = .ok (.aaload, 1) := by decide +kernel
theorem D_Upper_hasWord_6 : decode cX10_hasWord 6 = .ok (.getfield 57, 3) := by decide +kernel
theorem D_Upper_hasWord_9 : decode cX10_hasWord 9 = .ok (.iload_n 2, 1) := by decide +kernel
theorem D_Upper_hasWord_10 : decode cX10_hasWord 10 = .ok (.iaload, 1) := by decide +kernel
theorem D_Upper_hasWord_11 : decode cX10_hasWord 11 = .ok (.ireturn, 1) := by decide +kernel
def K_Upper_hasWord : SC := (cX10_hasWord, "TwoLevels$Upper", 3, 1, false, [], NoQ)
def d_Upper_hasWord : MD Int32 := mth tt 3 (rtn (eh2 (aI .int) (eh1 (gR 2 0) (eh2 (aR (.object "TwoLevels$Firsts")) (eh1 (gR 11 4) (lR 0)) (lI 1))) (lI 2)))
theorem m_Upper_hasWord : MJ 1 [] yX10_hasWord (some .int) eI (d_Upper_hasWord) := MJ_of (K := K_Upper_hasWord) (ri := .ireturn) (n1 := 0) (n2 := 0) (n3 := 0)
 (SJ_ret (p0 := 0) (p1 := 11) (EJ_iald (p0 := 0) (p1 := 9) (p2 := 10) (EJ_getR (t := 2) (c := 1) (kf := 0) (r := (RX1, TX1, 2)) (p0 := 0) (p1 := 6) (EJ_aald (p0 := 0) (p1 := 4) (p2 := 5) (EJ_getR (t := 11) (c := 10) (kf := 4) (r := (RX10, TX10, 7)) (p0 := 0) (p1 := 1) (EJ_aload_n (j := 0) (i := 0) (pc := 0) D_Upper_hasWord_0 rfl) D_Upper_hasWord_1 ⟨rfl, rfl, by decide, q_133⟩ (fun _ _ => rfl)) (EJ_iload_n (j := 1) (i := 1) (pc := 4) D_Upper_hasWord_4 rfl) D_Upper_hasWord_5 (Or.inl ⟨_, rfl⟩)) D_Upper_hasWord_6 ⟨rfl, rfl, by decide, q_482⟩ (fun _ _ => rfl)) (EJ_iload_n (j := 2) (i := 2) (pc := 9) D_Upper_hasWord_9 rfl) D_Upper_hasWord_10) D_Upper_hasWord_11)
 RTm_int q_656 (by decide +kernel) rfl (fun h => by cases h) (show 3 ≤ 40 from by decide) (fun _ => trivial)
theorem D_Search_isHad_0 : decode cX7_isHad 0 = .ok (.aload_n 0, 1) := by decide +kernel
theorem D_Search_isHad_1 : decode cX7_isHad 1 = .ok (.getfield 21, 3) := by decide +kernel
theorem D_Search_isHad_4 : decode cX7_isHad 4 = .ok (.getfield 88, 3) := by decide +kernel
theorem D_Search_isHad_7 : decode cX7_isHad 7 = .ok (.iload_n 1, 1) := by decide +kernel
theorem D_Search_isHad_8 : decode cX7_isHad 8 = .ok (.aload_n 0, 1) := by decide +kernel
theorem D_Search_isHad_9 : decode cX7_isHad 9 = .ok (.getfield 21, 3) := by decide +kernel
theorem D_Search_isHad_12 : decode cX7_isHad 12 = .ok (.getfield 164, 3) := by decide +kernel
theorem D_Search_isHad_15 : decode cX7_isHad 15 = .ok (.invokevirtual 167, 3) := by decide +kernel
theorem D_Search_isHad_18 : decode cX7_isHad 18 = .ok (.istore 4, 2) := by decide +kernel
theorem D_Search_isHad_20 : decode cX7_isHad 20 = .ok (.iconst (0), 1) := by decide +kernel
theorem D_Search_isHad_21 : decode cX7_isHad 21 = .ok (.istore 5, 2) := by decide +kernel
theorem D_Search_isHad_23 : decode cX7_isHad 23 = .ok (.iload 5, 2) := by decide +kernel
theorem D_Search_isHad_25 : decode cX7_isHad 25 = .ok (.iload 4, 2) := by decide +kernel
theorem D_Search_isHad_27 : decode cX7_isHad 27 = .ok (.if_icmp .ge (30), 3) := by decide +kernel
theorem D_Search_isHad_30 : decode cX7_isHad 30 = .ok (.aload_n 0, 1) := by decide +kernel
theorem D_Search_isHad_31 : decode cX7_isHad 31 = .ok (.getfield 21, 3) := by decide +kernel
theorem D_Search_isHad_34 : decode cX7_isHad 34 = .ok (.getfield 88, 3) := by decide +kernel
theorem D_Search_isHad_37 : decode cX7_isHad 37 = .ok (.iload_n 1, 1) := by decide +kernel
theorem D_Search_isHad_38 : decode cX7_isHad 38 = .ok (.iload 5, 2) := by decide +kernel
theorem D_Search_isHad_40 : decode cX7_isHad 40 = .ok (.invokevirtual 175, 3) := by decide +kernel
theorem D_Search_isHad_43 : decode cX7_isHad 43 = .ok (.i2l, 1) := by decide +kernel
theorem D_Search_isHad_44 : decode cX7_isHad 44 = .ok (.lload_n 2, 1) := by decide +kernel
theorem D_Search_isHad_45 : decode cX7_isHad 45 = .ok (.lcmp, 1) := by decide +kernel
theorem D_Search_isHad_46 : decode cX7_isHad 46 = .ok (.ifCond .ne (5), 3) := by decide +kernel
theorem D_Search_isHad_49 : decode cX7_isHad 49 = .ok (.iconst (1), 1) := by decide +kernel
theorem D_Search_isHad_50 : decode cX7_isHad 50 = .ok (.ireturn, 1) := by decide +kernel
theorem D_Search_isHad_51 : decode cX7_isHad 51 = .ok (.iinc 5 (1), 3) := by decide +kernel
theorem D_Search_isHad_54 : decode cX7_isHad 54 = .ok (.goto (-31), 3) := by decide +kernel
theorem D_Search_isHad_57 : decode cX7_isHad 57 = .ok (.iconst (0), 1) := by decide +kernel
theorem D_Search_isHad_58 : decode cX7_isHad 58 = .ok (.ireturn, 1) := by decide +kernel
def K_Search_isHad : SC := (cX7_isHad, "TwoLevels$Search", 6, 2, false, [], NoQ)
def d_Search_isHad : MD Int32 := mth zz 6 (sq (sI1 4 (kV 11 d_Upper_hasMany (eh1 (gR 10 0) (eh1 (gR 8 0) (lR 0))) [vI (lI 1), vI (eh1 (gI 10 3) (eh1 (gR 8 0) (lR 0)))]))
 (sq (sq (sI1 5 (eC (nI 0)))
 (loop (eh2 c_lt (lI 5) (lI 4))
 (sIf (eh2 j_eq (eh1 i2lF (kV 11 d_Upper_hasWord (eh1 (gR 10 0) (eh1 (gR 8 0) (lR 0))) [vI (lI 1), vI (lI 5)])) (lJ 2)) (rtn (eC (nI 1))) sk)
 (sInc 5 (nI 1))))
 (rtn (eC (nI 0)))))
theorem m_Search_isHad : MJ 2 [] yX7_isHad (some .boolean) eI (d_Search_isHad) := MJ_of (K := K_Search_isHad) (ri := .ireturn) (n1 := 0) (n2 := 0) (n3 := 0)
 (SJ_sq (p0 := 0) (p1 := 20) (nN := 0) (nB := 0) (nC := 0) (SJ_istore (i := 4) (p0 := 0) (p1 := 18) (EJ_callV (t := 11) (c := 10) (r := (RX10, TX10, 7)) (p0 := 0) (p1 := 7) (p2 := 15) (EJ_getR (t := 10) (c := 9) (kf := 0) (r := (RX9, TX9, 4)) (p0 := 0) (p1 := 4) (EJ_getR (t := 8) (c := 7) (kf := 0) (r := (RX7, TX7, 11)) (p0 := 0) (p1 := 1) (EJ_aload_n (j := 0) (i := 0) (pc := 0) D_Search_isHad_0 rfl) D_Search_isHad_1 ⟨rfl, rfl, by decide, q_228⟩ (fun _ _ => rfl)) D_Search_isHad_4 ⟨rfl, rfl, by decide, q_175⟩ (fun _ _ => rfl)) (AJ_I (p0 := 7) (p1 := 8) (p2 := 15) (EJ_iload_n (j := 1) (i := 1) (pc := 7) D_Search_isHad_7 rfl) (AJ_I (p0 := 8) (p1 := 15) (p2 := 15) (EJ_getI (t := 10) (c := 9) (kf := 3) (r := (RX9, TX9, 4)) (p0 := 8) (p1 := 12) (EJ_getR (t := 8) (c := 7) (kf := 0) (r := (RX7, TX7, 11)) (p0 := 8) (p1 := 9) (EJ_aload_n (j := 0) (i := 0) (pc := 8) D_Search_isHad_8 rfl) D_Search_isHad_9 ⟨rfl, rfl, by decide, q_228⟩ (fun _ _ => rfl)) D_Search_isHad_12 ⟨rfl, rfl, by decide, q_183⟩ (fun _ _ => rfl)) AJ_nil)) m_Upper_hasMany E1_I D_Search_isHad_15 rfl rfl rfl q_861 q_633 q_634 q_93 ⟨by decide +kernel, by decide +kernel, by decide +kernel⟩ (by decide) (show 1 + 1 ≤ 2 from by decide) (fun _ h => absurd h List.not_mem_nil)) D_Search_isHad_18)
 (SJ_sq (p0 := 20) (p1 := 57) (nN := 0) (nB := 0) (nC := 0) (SJ_sq (p0 := 20) (p1 := 23) (nN := 57) (nB := 0) (nC := 0) (SJ_istore (i := 5) (p0 := 20) (p1 := 21) (EJ_iconst (n := 0) (v := (nI 0)) (pc := 20) D_Search_isHad_20 (by decide +kernel)) D_Search_isHad_21)
 (SJ_loop (p0 := 23) (pB := 30) (pS := 51) (pE := 57) (CJ_lt' (off := 30) (tgt := 57) (p0 := 23) (p1 := 25) (p2 := 27) (EJ_iload (i := 5) (pc := 23) D_Search_isHad_23) (EJ_iload (i := 4) (pc := 25) D_Search_isHad_25) D_Search_isHad_27 rfl)
 (SJ_if (p0 := 30) (pT := 49) (pF := 51) (nN := 51) (nB := 57) (nC := 51) (CL_eq' (off := 5) (tgt := 51) (p0 := 30) (p1 := 44) (p2 := 45) (EJ_i2l (p0 := 30) (p1 := 43) (EJ_callV (t := 11) (c := 10) (r := (RX10, TX10, 7)) (p0 := 30) (p1 := 37) (p2 := 40) (EJ_getR (t := 10) (c := 9) (kf := 0) (r := (RX9, TX9, 4)) (p0 := 30) (p1 := 34) (EJ_getR (t := 8) (c := 7) (kf := 0) (r := (RX7, TX7, 11)) (p0 := 30) (p1 := 31) (EJ_aload_n (j := 0) (i := 0) (pc := 30) D_Search_isHad_30 rfl) D_Search_isHad_31 ⟨rfl, rfl, by decide, q_228⟩ (fun _ _ => rfl)) D_Search_isHad_34 ⟨rfl, rfl, by decide, q_175⟩ (fun _ _ => rfl)) (AJ_I (p0 := 37) (p1 := 38) (p2 := 40) (EJ_iload_n (j := 1) (i := 1) (pc := 37) D_Search_isHad_37 rfl) (AJ_I (p0 := 38) (p1 := 40) (p2 := 40) (EJ_iload (i := 5) (pc := 38) D_Search_isHad_38) AJ_nil)) m_Upper_hasWord E1_I D_Search_isHad_40 rfl rfl rfl q_862 q_654 q_655 q_93 ⟨by decide +kernel, by decide +kernel, by decide +kernel⟩ (by decide) (show 1 + 1 ≤ 2 from by decide) (fun _ h => absurd h List.not_mem_nil)) D_Search_isHad_43) (EJ_lload_n (j := 2) (i := 2) (pc := 44) D_Search_isHad_44 rfl) D_Search_isHad_45 D_Search_isHad_46 rfl) (SJ_ret (p0 := 49) (p1 := 50) (EJ_iconst (n := 1) (v := (nI 1)) (pc := 49) D_Search_isHad_49 (by decide +kernel)) D_Search_isHad_50) SJ_sk)
 (SJ_post (SJ_iinc (i := 5) (n := 1) (v := (nI 1)) (pc := 51) D_Search_isHad_51 (by decide +kernel)) (Lead.goto (K := K_Search_isHad) (pc := 54) (tgt := 23) D_Search_isHad_54 rfl))))
 (SJ_ret (p0 := 57) (p1 := 58) (EJ_iconst (n := 0) (v := (nI 0)) (pc := 57) D_Search_isHad_57 (by decide +kernel)) D_Search_isHad_58)))
 RTm_bool q_918 (by decide +kernel) rfl (fun h => by cases h) (show 6 ≤ 40 from by decide) (fun _ => trivial)
