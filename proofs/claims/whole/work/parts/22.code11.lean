/-! the program: part 11 -/
theorem D_M_alternatives_0 : decode cX12_alternatives 0 = .ok (.aload_n 0, 1) := by decide +kernel
theorem D_M_alternatives_1 : decode cX12_alternatives 1 = .ok (.getfield 9, 3) := by decide +kernel
theorem D_M_alternatives_4 : decode cX12_alternatives 4 = .ok (.iconst (4), 1) := by decide +kernel
theorem D_M_alternatives_5 : decode cX12_alternatives 5 = .ok (.bipush (30), 2) := by decide +kernel
theorem D_M_alternatives_7 : decode cX12_alternatives 7 = .ok (.iload_n 1, 1) := by decide +kernel
theorem D_M_alternatives_8 : decode cX12_alternatives 8 = .ok (.imul, 1) := by decide +kernel
theorem D_M_alternatives_9 : decode cX12_alternatives 9 = .ok (.iadd, 1) := by decide +kernel
theorem D_M_alternatives_10 : decode cX12_alternatives 10 = .ok (.iconst (1), 1) := by decide +kernel
theorem D_M_alternatives_11 : decode cX12_alternatives 11 = .ok (.iadd, 1) := by decide +kernel
theorem D_M_alternatives_12 : decode cX12_alternatives 12 = .ok (.iaload, 1) := by decide +kernel
theorem D_M_alternatives_13 : decode cX12_alternatives 13 = .ok (.ireturn, 1) := by decide +kernel
def K_M_alternatives : SC := (cX12_alternatives, "TwoLevelsModel", 2, 1, false, [], NoQ)
def d_M_alternatives : MD Int32 := mth tt 2 (rtn (eh2 (aI .int) (eh1 (gR 13 0) (lR 0)) (eh2 iaddF (eh2 iaddF (eC (nI 4)) (eh2 imulF (eC (nI 30)) (lI 1))) (eC (nI 1)))))
theorem m_M_alternatives : MJ 1 [] yX12_alternatives (some .int) eI (d_M_alternatives) := MJ_of (K := K_M_alternatives) (ri := .ireturn) (n1 := 0) (n2 := 0) (n3 := 0)
 (SJ_ret (p0 := 0) (p1 := 13) (EJ_iald (p0 := 0) (p1 := 4) (p2 := 12) (EJ_getR (t := 13) (c := 12) (kf := 0) (r := (RX12, TX12, 52)) (p0 := 0) (p1 := 1) (EJ_aload_n (j := 0) (i := 0) (pc := 0) D_M_alternatives_0 rfl) D_M_alternatives_1 ⟨rfl, rfl, by decide, q_932⟩ (fun _ _ => rfl)) (EJ_iadd (p0 := 4) (p1 := 10) (p2 := 11) (EJ_iadd (p0 := 4) (p1 := 5) (p2 := 9) (EJ_iconst (n := 4) (v := (nI 4)) (pc := 4) D_M_alternatives_4 (by decide +kernel)) (EJ_imul (p0 := 5) (p1 := 7) (p2 := 8) (EJ_bipush (n := 30) (v := (nI 30)) (pc := 5) D_M_alternatives_5 (by decide +kernel)) (EJ_iload_n (j := 1) (i := 1) (pc := 7) D_M_alternatives_7 rfl) D_M_alternatives_8) D_M_alternatives_9) (EJ_iconst (n := 1) (v := (nI 1)) (pc := 10) D_M_alternatives_10 (by decide +kernel)) D_M_alternatives_11) D_M_alternatives_12) D_M_alternatives_13)
 RTm_int q_1166 (by decide +kernel) rfl (fun h => by cases h) (show 2 ≤ 40 from by decide) (fun _ => trivial)
theorem D_M_isCapital_0 : decode cX12_isCapital 0 = .ok (.iload_n 0, 1) := by decide +kernel
theorem D_M_isCapital_1 : decode cX12_isCapital 1 = .ok (.bipush (65), 2) := by decide +kernel
theorem D_M_isCapital_3 : decode cX12_isCapital 3 = .ok (.bipush (90), 2) := by decide +kernel
theorem D_M_isCapital_5 : decode cX12_isCapital 5 = .ok (.invokestatic 108, 3) := by decide +kernel
theorem D_M_isCapital_8 : decode cX12_isCapital 8 = .ok (.ireturn, 1) := by decide +kernel
def K_M_isCapital : SC := (cX12_isCapital, "TwoLevelsModel", 1, 2, false, [], NoQ)
def d_M_isCapital : MD Int32 := mth zz 1 (rtn (kS d_M_in [vI (lI 0), vI (eC (nI 65)), vI (eC (nI 90))]))
theorem m_M_isCapital : MJ 2 [] yX12_isCapital (some .boolean) eI (d_M_isCapital) := MJ_of (K := K_M_isCapital) (ri := .ireturn) (n1 := 0) (n2 := 0) (n3 := 0)
 (SJ_ret (p0 := 0) (p1 := 8) (EJ_callS (p0 := 0) (p1 := 5) (AJ_I (p0 := 0) (p1 := 1) (p2 := 5) (EJ_iload_n (j := 0) (i := 0) (pc := 0) D_M_isCapital_0 rfl) (AJ_I (p0 := 1) (p1 := 3) (p2 := 5) (EJ_bipush (n := 65) (v := (nI 65)) (pc := 1) D_M_isCapital_1 (by decide +kernel)) (AJ_I (p0 := 3) (p1 := 5) (p2 := 5) (EJ_bipush (n := 90) (v := (nI 90)) (pc := 3) D_M_isCapital_3 (by decide +kernel)) AJ_nil))) m_M_in E1_I D_M_isCapital_5 q_1071 q_1072 q_97 ⟨by decide +kernel, by decide +kernel, by decide +kernel⟩ (by decide) (show 1 + 1 ≤ 2 from by decide) (fun _ h => absurd h List.not_mem_nil)) D_M_isCapital_8)
 RTm_bool q_1076 (by decide +kernel) rfl (fun h => by cases h) (show 1 ≤ 40 from by decide) (fun _ => trivial)
theorem D_M_comesTo_0 : decode cX12_comesTo 0 = .ok (.iconst (1), 1) := by decide +kernel
theorem D_M_comesTo_1 : decode cX12_comesTo 1 = .ok (.iload_n 3, 1) := by decide +kernel
theorem D_M_comesTo_2 : decode cX12_comesTo 2 = .ok (.ishl, 1) := by decide +kernel
theorem D_M_comesTo_3 : decode cX12_comesTo 3 = .ok (.istore 4, 2) := by decide +kernel
theorem D_M_comesTo_5 : decode cX12_comesTo 5 = .ok (.iconst (1), 1) := by decide +kernel
theorem D_M_comesTo_6 : decode cX12_comesTo 6 = .ok (.istore 5, 2) := by decide +kernel
theorem D_M_comesTo_8 : decode cX12_comesTo 8 = .ok (.iload 5, 2) := by decide +kernel
theorem D_M_comesTo_10 : decode cX12_comesTo 10 = .ok (.aload_n 0, 1) := by decide +kernel
theorem D_M_comesTo_11 : decode cX12_comesTo 11 = .ok (.getfield 9, 3) := by decide +kernel
theorem D_M_comesTo_14 : decode cX12_comesTo 14 = .ok (.iload_n 2, 1) := by decide +kernel
theorem D_M_comesTo_15 : decode cX12_comesTo 15 = .ok (.iaload, 1) := by decide +kernel
theorem D_M_comesTo_16 : decode cX12_comesTo 16 = .ok (.if_icmp .gt (148), 3) := by decide +kernel
theorem D_M_comesTo_19 : decode cX12_comesTo 19 = .ok (.iload 4, 2) := by decide +kernel
theorem D_M_comesTo_21 : decode cX12_comesTo 21 = .ok (.ifCond .eq (143), 3) := by decide +kernel
theorem D_M_comesTo_24 : decode cX12_comesTo 24 = .ok (.aload_n 0, 1) := by decide +kernel
theorem D_M_comesTo_25 : decode cX12_comesTo 25 = .ok (.getfield 9, 3) := by decide +kernel
theorem D_M_comesTo_28 : decode cX12_comesTo 28 = .ok (.iload_n 2, 1) := by decide +kernel
theorem D_M_comesTo_29 : decode cX12_comesTo 29 = .ok (.iload 5, 2) := by decide +kernel
theorem D_M_comesTo_31 : decode cX12_comesTo 31 = .ok (.iadd, 1) := by decide +kernel
theorem D_M_comesTo_32 : decode cX12_comesTo 32 = .ok (.iaload, 1) := by decide +kernel
theorem D_M_comesTo_33 : decode cX12_comesTo 33 = .ok (.istore 6, 2) := by decide +kernel
theorem D_M_comesTo_35 : decode cX12_comesTo 35 = .ok (.iload 6, 2) := by decide +kernel
theorem D_M_comesTo_37 : decode cX12_comesTo 37 = .ok (.invokestatic 141, 3) := by decide +kernel
theorem D_M_comesTo_40 : decode cX12_comesTo 40 = .ok (.ifCond .eq (12), 3) := by decide +kernel
theorem D_M_comesTo_43 : decode cX12_comesTo 43 = .ok (.aload_n 0, 1) := by decide +kernel
theorem D_M_comesTo_44 : decode cX12_comesTo 44 = .ok (.iload 6, 2) := by decide +kernel
theorem D_M_comesTo_46 : decode cX12_comesTo 46 = .ok (.invokevirtual 220, 3) := by decide +kernel
theorem D_M_comesTo_49 : decode cX12_comesTo 49 = .ok (.goto (4), 3) := by decide +kernel
theorem D_M_comesTo_52 : decode cX12_comesTo 52 = .ok (.iconst (-1), 1) := by decide +kernel
theorem D_M_comesTo_53 : decode cX12_comesTo 53 = .ok (.istore 7, 2) := by decide +kernel
theorem D_M_comesTo_55 : decode cX12_comesTo 55 = .ok (.iconst (0), 1) := by decide +kernel
theorem D_M_comesTo_56 : decode cX12_comesTo 56 = .ok (.istore 8, 2) := by decide +kernel
theorem D_M_comesTo_58 : decode cX12_comesTo 58 = .ok (.iconst (0), 1) := by decide +kernel
theorem D_M_comesTo_59 : decode cX12_comesTo 59 = .ok (.istore 9, 2) := by decide +kernel
theorem D_M_comesTo_61 : decode cX12_comesTo 61 = .ok (.iload 9, 2) := by decide +kernel
theorem D_M_comesTo_63 : decode cX12_comesTo 63 = .ok (.aload_n 0, 1) := by decide +kernel
theorem D_M_comesTo_64 : decode cX12_comesTo 64 = .ok (.getfield 42, 3) := by decide +kernel
theorem D_M_comesTo_67 : decode cX12_comesTo 67 = .ok (.iload_n 1, 1) := by decide +kernel
theorem D_M_comesTo_68 : decode cX12_comesTo 68 = .ok (.iaload, 1) := by decide +kernel
theorem D_M_comesTo_69 : decode cX12_comesTo 69 = .ok (.if_icmp .gt (85), 3) := by decide +kernel
theorem D_M_comesTo_72 : decode cX12_comesTo 72 = .ok (.iload 4, 2) := by decide +kernel
theorem D_M_comesTo_74 : decode cX12_comesTo 74 = .ok (.iload 9, 2) := by decide +kernel
theorem D_M_comesTo_76 : decode cX12_comesTo 76 = .ok (.invokestatic 223, 3) := by decide +kernel
theorem D_M_comesTo_79 : decode cX12_comesTo 79 = .ok (.ifCond .ne (6), 3) := by decide +kernel
theorem D_M_comesTo_82 : decode cX12_comesTo 82 = .ok (.goto (66), 3) := by decide +kernel
theorem D_M_comesTo_85 : decode cX12_comesTo 85 = .ok (.iload 7, 2) := by decide +kernel
theorem D_M_comesTo_87 : decode cX12_comesTo 87 = .ok (.iconst (-1), 1) := by decide +kernel
theorem D_M_comesTo_88 : decode cX12_comesTo 88 = .ok (.if_icmp .eq (24), 3) := by decide +kernel
theorem D_M_comesTo_91 : decode cX12_comesTo 91 = .ok (.iload 8, 2) := by decide +kernel
theorem D_M_comesTo_93 : decode cX12_comesTo 93 = .ok (.aload_n 0, 1) := by decide +kernel
theorem D_M_comesTo_94 : decode cX12_comesTo 94 = .ok (.getfield 45, 3) := by decide +kernel
theorem D_M_comesTo_97 : decode cX12_comesTo 97 = .ok (.iload_n 1, 1) := by decide +kernel
theorem D_M_comesTo_98 : decode cX12_comesTo 98 = .ok (.iload 7, 2) := by decide +kernel
theorem D_M_comesTo_100 : decode cX12_comesTo 100 = .ok (.iload 9, 2) := by decide +kernel
theorem D_M_comesTo_102 : decode cX12_comesTo 102 = .ok (.invokestatic 226, 3) := by decide +kernel
theorem D_M_comesTo_105 : decode cX12_comesTo 105 = .ok (.iaload, 1) := by decide +kernel
theorem D_M_comesTo_106 : decode cX12_comesTo 106 = .ok (.ior, 1) := by decide +kernel
theorem D_M_comesTo_107 : decode cX12_comesTo 107 = .ok (.istore 8, 2) := by decide +kernel
theorem D_M_comesTo_109 : decode cX12_comesTo 109 = .ok (.goto (39), 3) := by decide +kernel
theorem D_M_comesTo_112 : decode cX12_comesTo 112 = .ok (.iload 8, 2) := by decide +kernel
theorem D_M_comesTo_114 : decode cX12_comesTo 114 = .ok (.iload 9, 2) := by decide +kernel
theorem D_M_comesTo_116 : decode cX12_comesTo 116 = .ok (.aload_n 0, 1) := by decide +kernel
theorem D_M_comesTo_117 : decode cX12_comesTo 117 = .ok (.getfield 42, 3) := by decide +kernel
theorem D_M_comesTo_120 : decode cX12_comesTo 120 = .ok (.iload_n 1, 1) := by decide +kernel
theorem D_M_comesTo_121 : decode cX12_comesTo 121 = .ok (.iaload, 1) := by decide +kernel
theorem D_M_comesTo_122 : decode cX12_comesTo 122 = .ok (.if_icmp .ge (22), 3) := by decide +kernel
theorem D_M_comesTo_125 : decode cX12_comesTo 125 = .ok (.aload_n 0, 1) := by decide +kernel
theorem D_M_comesTo_126 : decode cX12_comesTo 126 = .ok (.iload_n 1, 1) := by decide +kernel
theorem D_M_comesTo_127 : decode cX12_comesTo 127 = .ok (.iload 9, 2) := by decide +kernel
theorem D_M_comesTo_129 : decode cX12_comesTo 129 = .ok (.invokevirtual 230, 3) := by decide +kernel
theorem D_M_comesTo_132 : decode cX12_comesTo 132 = .ok (.iload 6, 2) := by decide +kernel
theorem D_M_comesTo_134 : decode cX12_comesTo 134 = .ok (.if_icmp .ne (10), 3) := by decide +kernel
theorem D_M_comesTo_137 : decode cX12_comesTo 137 = .ok (.iconst (2), 1) := by decide +kernel
theorem D_M_comesTo_138 : decode cX12_comesTo 138 = .ok (.iload 9, 2) := by decide +kernel
theorem D_M_comesTo_140 : decode cX12_comesTo 140 = .ok (.ishl, 1) := by decide +kernel
theorem D_M_comesTo_141 : decode cX12_comesTo 141 = .ok (.goto (4), 3) := by decide +kernel
theorem D_M_comesTo_144 : decode cX12_comesTo 144 = .ok (.iconst (0), 1) := by decide +kernel
theorem D_M_comesTo_145 : decode cX12_comesTo 145 = .ok (.ior, 1) := by decide +kernel
theorem D_M_comesTo_146 : decode cX12_comesTo 146 = .ok (.istore 8, 2) := by decide +kernel
theorem D_M_comesTo_148 : decode cX12_comesTo 148 = .ok (.iinc 9 (1), 3) := by decide +kernel
theorem D_M_comesTo_151 : decode cX12_comesTo 151 = .ok (.goto (-90), 3) := by decide +kernel
theorem D_M_comesTo_154 : decode cX12_comesTo 154 = .ok (.iload 8, 2) := by decide +kernel
theorem D_M_comesTo_156 : decode cX12_comesTo 156 = .ok (.istore 4, 2) := by decide +kernel
theorem D_M_comesTo_158 : decode cX12_comesTo 158 = .ok (.iinc 5 (1), 3) := by decide +kernel
theorem D_M_comesTo_161 : decode cX12_comesTo 161 = .ok (.goto (-153), 3) := by decide +kernel
theorem D_M_comesTo_164 : decode cX12_comesTo 164 = .ok (.iload 4, 2) := by decide +kernel
theorem D_M_comesTo_166 : decode cX12_comesTo 166 = .ok (.ireturn, 1) := by decide +kernel
def K_M_comesTo : SC := (cX12_comesTo, "TwoLevelsModel", 10, 3, false, [], NoQ)
def d_M_comesTo : MD Int32 := mth tt 10 (sq (sI1 4 (eh2 ishlF (eC (nI 1)) (lI 3)))
 (sq (sq (sI1 5 (eC (nI 1)))
 (loop (cAnd (eh2 c_le (lI 5) (eh2 (aI .int) (eh1 (gR 13 0) (lR 0)) (lI 2))) (eh1 z_ne (lI 4)))
 (sq (sI1 6 (eh2 (aI .int) (eh1 (gR 13 0) (lR 0)) (eh2 iaddF (lI 2) (lI 5))))
 (sq (sI1 7 (eIf (eh1 z_ne (kS d_M_isCapital [vI (lI 6)])) (kV 13 d_M_metaOf (lR 0) [vI (lI 6)]) (eC (-1))))
 (sq (sI1 8 (eC (nI 0)))
 (sq (sq (sI1 9 (eC (nI 0)))
 (loop (eh2 c_le (lI 9) (eh2 (aI .int) (eh1 (gR 13 16) (lR 0)) (lI 1)))
 (sq (sIf (cNot (eh1 z_ne (kS d_M_has [vI (lI 4), vI (lI 9)]))) cnt sk)
 (sIf (eh2 c_ne (lI 7) (eC (-1))) (sI1 8 (eh2 iorF (lI 8) (eh2 (aI .int) (eh1 (gR 13 17) (lR 0)) (kS d_M_spanAt [vI (lI 1), vI (lI 7), vI (lI 9)])))) (sI1 8 (eh2 iorF (lI 8) (eIf (cAnd (eh2 c_lt (lI 9) (eh2 (aI .int) (eh1 (gR 13 16) (lR 0)) (lI 1))) (eh2 c_eq (kV 13 d_M_letterAt (lR 0) [vI (lI 1), vI (lI 9)]) (lI 6))) (eh2 ishlF (eC (nI 2)) (lI 9)) (eC (nI 0)))))))
 (sInc 9 (nI 1))))
 (sI1 4 (lI 8))))))
 (sInc 5 (nI 1))))
 (rtn (lI 4))))
theorem m_M_comesTo : MJ 3 [] yX12_comesTo (some .int) eI (d_M_comesTo) := MJ_of (K := K_M_comesTo) (ri := .ireturn) (n1 := 0) (n2 := 0) (n3 := 0)
 (SJ_sq (p0 := 0) (p1 := 5) (nN := 0) (nB := 0) (nC := 0) (SJ_istore (i := 4) (p0 := 0) (p1 := 3) (EJ_ishl (p0 := 0) (p1 := 1) (p2 := 2) (EJ_iconst (n := 1) (v := (nI 1)) (pc := 0) D_M_comesTo_0 (by decide +kernel)) (EJ_iload_n (j := 3) (i := 3) (pc := 1) D_M_comesTo_1 rfl) D_M_comesTo_2) D_M_comesTo_3)
 (SJ_sq (p0 := 5) (p1 := 164) (nN := 0) (nB := 0) (nC := 0) (SJ_sq (p0 := 5) (p1 := 8) (nN := 164) (nB := 0) (nC := 0) (SJ_istore (i := 5) (p0 := 5) (p1 := 6) (EJ_iconst (n := 1) (v := (nI 1)) (pc := 5) D_M_comesTo_5 (by decide +kernel)) D_M_comesTo_6)
 (SJ_loop (p0 := 8) (pB := 24) (pS := 158) (pE := 164) (CJ_and (p0 := 8) (pM := 19) (pT := 24) (pF := 164) (CJ_le' (off := 148) (tgt := 164) (p0 := 8) (p1 := 10) (p2 := 16) (EJ_iload (i := 5) (pc := 8) D_M_comesTo_8) (EJ_iald (p0 := 10) (p1 := 14) (p2 := 15) (EJ_getR (t := 13) (c := 12) (kf := 0) (r := (RX12, TX12, 52)) (p0 := 10) (p1 := 11) (EJ_aload_n (j := 0) (i := 0) (pc := 10) D_M_comesTo_10 rfl) D_M_comesTo_11 ⟨rfl, rfl, by decide, q_932⟩ (fun _ _ => rfl)) (EJ_iload_n (j := 2) (i := 2) (pc := 14) D_M_comesTo_14 rfl) D_M_comesTo_15) D_M_comesTo_16 rfl) (CZ_ne' (off := 143) (tgt := 164) (p0 := 19) (p1 := 21) (EJ_iload (i := 4) (pc := 19) D_M_comesTo_19) D_M_comesTo_21 rfl))
 (SJ_sq (p0 := 24) (p1 := 35) (nN := 158) (nB := 164) (nC := 158) (SJ_istore (i := 6) (p0 := 24) (p1 := 33) (EJ_iald (p0 := 24) (p1 := 28) (p2 := 32) (EJ_getR (t := 13) (c := 12) (kf := 0) (r := (RX12, TX12, 52)) (p0 := 24) (p1 := 25) (EJ_aload_n (j := 0) (i := 0) (pc := 24) D_M_comesTo_24 rfl) D_M_comesTo_25 ⟨rfl, rfl, by decide, q_932⟩ (fun _ _ => rfl)) (EJ_iadd (p0 := 28) (p1 := 29) (p2 := 31) (EJ_iload_n (j := 2) (i := 2) (pc := 28) D_M_comesTo_28 rfl) (EJ_iload (i := 5) (pc := 29) D_M_comesTo_29) D_M_comesTo_31) D_M_comesTo_32) D_M_comesTo_33)
 (SJ_sq (p0 := 35) (p1 := 55) (nN := 158) (nB := 164) (nC := 158) (SJ_istore (i := 7) (p0 := 35) (p1 := 53) (EJ_if (p0 := 35) (pT := 43) (pF := 52) (pE := 49) (p1 := 53) (CZ_ne' (off := 12) (tgt := 52) (p0 := 35) (p1 := 40) (EJ_callS (p0 := 35) (p1 := 37) (AJ_I (p0 := 35) (p1 := 37) (p2 := 37) (EJ_iload (i := 6) (pc := 35) D_M_comesTo_35) AJ_nil) m_M_isCapital E1_I D_M_comesTo_37 q_1074 q_1075 q_97 ⟨by decide +kernel, by decide +kernel, by decide +kernel⟩ (by decide) (show 2 + 1 ≤ 3 from by decide) (fun _ h => absurd h List.not_mem_nil)) D_M_comesTo_40 rfl) (EJ_callV (t := 13) (c := 12) (r := (RX12, TX12, 52)) (p0 := 43) (p1 := 44) (p2 := 46) (EJ_aload_n (j := 0) (i := 0) (pc := 43) D_M_comesTo_43 rfl) (AJ_I (p0 := 44) (p1 := 46) (p2 := 46) (EJ_iload (i := 6) (pc := 44) D_M_comesTo_44) AJ_nil) m_M_metaOf E1_I D_M_comesTo_46 rfl rfl rfl q_1161 q_1162 q_56 q_97 ⟨by decide +kernel, by decide +kernel, by decide +kernel⟩ (by decide) (show 1 + 1 ≤ 3 from by decide) (fun _ h => absurd h List.not_mem_nil)) (Lead.goto (K := K_M_comesTo) (pc := 49) (tgt := 53) D_M_comesTo_49 rfl) (EJ_iconst (n := -1) (v := (-1)) (pc := 52) D_M_comesTo_52 (by decide +kernel))) D_M_comesTo_53)
 (SJ_sq (p0 := 55) (p1 := 58) (nN := 158) (nB := 164) (nC := 158) (SJ_istore (i := 8) (p0 := 55) (p1 := 56) (EJ_iconst (n := 0) (v := (nI 0)) (pc := 55) D_M_comesTo_55 (by decide +kernel)) D_M_comesTo_56)
 (SJ_sq (p0 := 58) (p1 := 154) (nN := 158) (nB := 164) (nC := 158) (SJ_sq (p0 := 58) (p1 := 61) (nN := 154) (nB := 164) (nC := 158) (SJ_istore (i := 9) (p0 := 58) (p1 := 59) (EJ_iconst (n := 0) (v := (nI 0)) (pc := 58) D_M_comesTo_58 (by decide +kernel)) D_M_comesTo_59)
 (SJ_loop (p0 := 61) (pB := 72) (pS := 148) (pE := 154) (CJ_le' (off := 85) (tgt := 154) (p0 := 61) (p1 := 63) (p2 := 69) (EJ_iload (i := 9) (pc := 61) D_M_comesTo_61) (EJ_iald (p0 := 63) (p1 := 67) (p2 := 68) (EJ_getR (t := 13) (c := 12) (kf := 16) (r := (RX12, TX12, 52)) (p0 := 63) (p1 := 64) (EJ_aload_n (j := 0) (i := 0) (pc := 63) D_M_comesTo_63 rfl) D_M_comesTo_64 ⟨rfl, rfl, by decide, q_948⟩ (fun _ _ => rfl)) (EJ_iload_n (j := 1) (i := 1) (pc := 67) D_M_comesTo_67 rfl) D_M_comesTo_68) D_M_comesTo_69 rfl)
 (SJ_sq (p0 := 72) (p1 := 85) (nN := 148) (nB := 154) (nC := 148) (SJ_if (p0 := 72) (pT := 148) (pF := 85) (nN := 85) (nB := 154) (nC := 148) (CJ_not (p0 := 72) (pT := 148) (pF := 85) (CJ_lead (CZ_ne (off := 6) (tgt := 85) (p0 := 72) (p1 := 79) (EJ_callS (p0 := 72) (p1 := 76) (AJ_I (p0 := 72) (p1 := 74) (p2 := 76) (EJ_iload (i := 4) (pc := 72) D_M_comesTo_72) (AJ_I (p0 := 74) (p1 := 76) (p2 := 76) (EJ_iload (i := 9) (pc := 74) D_M_comesTo_74) AJ_nil)) m_M_has E1_I D_M_comesTo_76 q_1188 q_1189 q_97 ⟨by decide +kernel, by decide +kernel, by decide +kernel⟩ (by decide) (show 1 + 1 ≤ 3 from by decide) (fun _ h => absurd h List.not_mem_nil)) D_M_comesTo_79 rfl) Lead.rf (Lead.goto (K := K_M_comesTo) (pc := 82) (tgt := 148) D_M_comesTo_82 rfl))) SJ_cnt SJ_sk)
 (SJ_if (p0 := 85) (pT := 91) (pF := 112) (nN := 148) (nB := 154) (nC := 148) (CJ_ne' (off := 24) (tgt := 112) (p0 := 85) (p1 := 87) (p2 := 88) (EJ_iload (i := 7) (pc := 85) D_M_comesTo_85) (EJ_iconst (n := -1) (v := (-1)) (pc := 87) D_M_comesTo_87 (by decide +kernel)) D_M_comesTo_88 rfl) (SJ_post (SJ_istore (i := 8) (p0 := 91) (p1 := 107) (EJ_ior (p0 := 91) (p1 := 93) (p2 := 106) (EJ_iload (i := 8) (pc := 91) D_M_comesTo_91) (EJ_iald (p0 := 93) (p1 := 97) (p2 := 105) (EJ_getR (t := 13) (c := 12) (kf := 17) (r := (RX12, TX12, 52)) (p0 := 93) (p1 := 94) (EJ_aload_n (j := 0) (i := 0) (pc := 93) D_M_comesTo_93 rfl) D_M_comesTo_94 ⟨rfl, rfl, by decide, q_949⟩ (fun _ _ => rfl)) (EJ_callS (p0 := 97) (p1 := 102) (AJ_I (p0 := 97) (p1 := 98) (p2 := 102) (EJ_iload_n (j := 1) (i := 1) (pc := 97) D_M_comesTo_97 rfl) (AJ_I (p0 := 98) (p1 := 100) (p2 := 102) (EJ_iload (i := 7) (pc := 98) D_M_comesTo_98) (AJ_I (p0 := 100) (p1 := 102) (p2 := 102) (EJ_iload (i := 9) (pc := 100) D_M_comesTo_100) AJ_nil))) m_M_spanAt E1_I D_M_comesTo_102 q_1182 q_1183 q_97 ⟨by decide +kernel, by decide +kernel, by decide +kernel⟩ (by decide) (show 1 + 1 ≤ 3 from by decide) (fun _ h => absurd h List.not_mem_nil)) D_M_comesTo_105) D_M_comesTo_106) D_M_comesTo_107) (Lead.goto (K := K_M_comesTo) (pc := 109) (tgt := 148) D_M_comesTo_109 rfl)) (SJ_istore (i := 8) (p0 := 112) (p1 := 146) (EJ_ior (p0 := 112) (p1 := 114) (p2 := 145) (EJ_iload (i := 8) (pc := 112) D_M_comesTo_112) (EJ_if (p0 := 114) (pT := 137) (pF := 144) (pE := 141) (p1 := 145) (CJ_and (p0 := 114) (pM := 125) (pT := 137) (pF := 144) (CJ_lt' (off := 22) (tgt := 144) (p0 := 114) (p1 := 116) (p2 := 122) (EJ_iload (i := 9) (pc := 114) D_M_comesTo_114) (EJ_iald (p0 := 116) (p1 := 120) (p2 := 121) (EJ_getR (t := 13) (c := 12) (kf := 16) (r := (RX12, TX12, 52)) (p0 := 116) (p1 := 117) (EJ_aload_n (j := 0) (i := 0) (pc := 116) D_M_comesTo_116 rfl) D_M_comesTo_117 ⟨rfl, rfl, by decide, q_948⟩ (fun _ _ => rfl)) (EJ_iload_n (j := 1) (i := 1) (pc := 120) D_M_comesTo_120 rfl) D_M_comesTo_121) D_M_comesTo_122 rfl) (CJ_eq' (off := 10) (tgt := 144) (p0 := 125) (p1 := 132) (p2 := 134) (EJ_callV (t := 13) (c := 12) (r := (RX12, TX12, 52)) (p0 := 125) (p1 := 126) (p2 := 129) (EJ_aload_n (j := 0) (i := 0) (pc := 125) D_M_comesTo_125 rfl) (AJ_I (p0 := 126) (p1 := 127) (p2 := 129) (EJ_iload_n (j := 1) (i := 1) (pc := 126) D_M_comesTo_126 rfl) (AJ_I (p0 := 127) (p1 := 129) (p2 := 129) (EJ_iload (i := 9) (pc := 127) D_M_comesTo_127) AJ_nil)) m_M_letterAt E1_I D_M_comesTo_129 rfl rfl rfl q_1191 q_1192 q_63 q_97 ⟨by decide +kernel, by decide +kernel, by decide +kernel⟩ (by decide) (show 1 + 1 ≤ 3 from by decide) (fun _ h => absurd h List.not_mem_nil)) (EJ_iload (i := 6) (pc := 132) D_M_comesTo_132) D_M_comesTo_134 rfl)) (EJ_ishl (p0 := 137) (p1 := 138) (p2 := 140) (EJ_iconst (n := 2) (v := (nI 2)) (pc := 137) D_M_comesTo_137 (by decide +kernel)) (EJ_iload (i := 9) (pc := 138) D_M_comesTo_138) D_M_comesTo_140) (Lead.goto (K := K_M_comesTo) (pc := 141) (tgt := 145) D_M_comesTo_141 rfl) (EJ_iconst (n := 0) (v := (nI 0)) (pc := 144) D_M_comesTo_144 (by decide +kernel))) D_M_comesTo_145) D_M_comesTo_146)))
 (SJ_post (SJ_iinc (i := 9) (n := 1) (v := (nI 1)) (pc := 148) D_M_comesTo_148 (by decide +kernel)) (Lead.goto (K := K_M_comesTo) (pc := 151) (tgt := 61) D_M_comesTo_151 rfl))))
 (SJ_istore (i := 4) (p0 := 154) (p1 := 156) (EJ_iload (i := 8) (pc := 154) D_M_comesTo_154) D_M_comesTo_156)))))
 (SJ_post (SJ_iinc (i := 5) (n := 1) (v := (nI 1)) (pc := 158) D_M_comesTo_158 (by decide +kernel)) (Lead.goto (K := K_M_comesTo) (pc := 161) (tgt := 8) D_M_comesTo_161 rfl))))
 (SJ_ret (p0 := 164) (p1 := 166) (EJ_iload (i := 4) (pc := 164) D_M_comesTo_164) D_M_comesTo_166)))
 RTm_int q_1187 (by decide +kernel) rfl (fun h => by cases h) (show 10 ≤ 40 from by decide) (fun _ => trivial)
theorem D_M_rowAt_0 : decode cX12_rowAt 0 = .ok (.iconst (4), 1) := by decide +kernel
theorem D_M_rowAt_1 : decode cX12_rowAt 1 = .ok (.bipush (30), 2) := by decide +kernel
theorem D_M_rowAt_3 : decode cX12_rowAt 3 = .ok (.iload_n 0, 1) := by decide +kernel
theorem D_M_rowAt_4 : decode cX12_rowAt 4 = .ok (.imul, 1) := by decide +kernel
theorem D_M_rowAt_5 : decode cX12_rowAt 5 = .ok (.iadd, 1) := by decide +kernel
theorem D_M_rowAt_6 : decode cX12_rowAt 6 = .ok (.iconst (2), 1) := by decide +kernel
theorem D_M_rowAt_7 : decode cX12_rowAt 7 = .ok (.iadd, 1) := by decide +kernel
theorem D_M_rowAt_8 : decode cX12_rowAt 8 = .ok (.bipush (7), 2) := by decide +kernel
theorem D_M_rowAt_10 : decode cX12_rowAt 10 = .ok (.iload_n 1, 1) := by decide +kernel
theorem D_M_rowAt_11 : decode cX12_rowAt 11 = .ok (.imul, 1) := by decide +kernel
theorem D_M_rowAt_12 : decode cX12_rowAt 12 = .ok (.iadd, 1) := by decide +kernel
theorem D_M_rowAt_13 : decode cX12_rowAt 13 = .ok (.ireturn, 1) := by decide +kernel
def K_M_rowAt : SC := (cX12_rowAt, "TwoLevelsModel", 2, 1, false, [], NoQ)
def d_M_rowAt : MD Int32 := mth tt 2 (rtn (eh2 iaddF (eh2 iaddF (eh2 iaddF (eC (nI 4)) (eh2 imulF (eC (nI 30)) (lI 0))) (eC (nI 2))) (eh2 imulF (eC (nI 7)) (lI 1))))
theorem m_M_rowAt : MJ 1 [] yX12_rowAt (some .int) eI (d_M_rowAt) := MJ_of (K := K_M_rowAt) (ri := .ireturn) (n1 := 0) (n2 := 0) (n3 := 0)
 (SJ_ret (p0 := 0) (p1 := 13) (EJ_iadd (p0 := 0) (p1 := 8) (p2 := 12) (EJ_iadd (p0 := 0) (p1 := 6) (p2 := 7) (EJ_iadd (p0 := 0) (p1 := 1) (p2 := 5) (EJ_iconst (n := 4) (v := (nI 4)) (pc := 0) D_M_rowAt_0 (by decide +kernel)) (EJ_imul (p0 := 1) (p1 := 3) (p2 := 4) (EJ_bipush (n := 30) (v := (nI 30)) (pc := 1) D_M_rowAt_1 (by decide +kernel)) (EJ_iload_n (j := 0) (i := 0) (pc := 3) D_M_rowAt_3 rfl) D_M_rowAt_4) D_M_rowAt_5) (EJ_iconst (n := 2) (v := (nI 2)) (pc := 6) D_M_rowAt_6 (by decide +kernel)) D_M_rowAt_7) (EJ_imul (p0 := 8) (p1 := 10) (p2 := 11) (EJ_bipush (n := 7) (v := (nI 7)) (pc := 8) D_M_rowAt_8 (by decide +kernel)) (EJ_iload_n (j := 1) (i := 1) (pc := 10) D_M_rowAt_10 rfl) D_M_rowAt_11) D_M_rowAt_12) D_M_rowAt_13)
 RTm_int q_1172 (by decide +kernel) rfl (fun h => by cases h) (show 2 ≤ 40 from by decide) (fun _ => trivial)
theorem D_M_laysSpans_0 : decode cX12_laysSpans 0 = .ok (.iconst (0), 1) := by decide +kernel
theorem D_M_laysSpans_1 : decode cX12_laysSpans 1 = .ok (.istore_n 2, 1) := by decide +kernel
theorem D_M_laysSpans_2 : decode cX12_laysSpans 2 = .ok (.iload_n 2, 1) := by decide +kernel
theorem D_M_laysSpans_3 : decode cX12_laysSpans 3 = .ok (.bipush (6), 2) := by decide +kernel
theorem D_M_laysSpans_5 : decode cX12_laysSpans 5 = .ok (.if_icmp .ge (35), 3) := by decide +kernel
theorem D_M_laysSpans_8 : decode cX12_laysSpans 8 = .ok (.iconst (0), 1) := by decide +kernel
theorem D_M_laysSpans_9 : decode cX12_laysSpans 9 = .ok (.istore_n 3, 1) := by decide +kernel
theorem D_M_laysSpans_10 : decode cX12_laysSpans 10 = .ok (.iload_n 3, 1) := by decide +kernel
theorem D_M_laysSpans_11 : decode cX12_laysSpans 11 = .ok (.bipush (10), 2) := by decide +kernel
theorem D_M_laysSpans_13 : decode cX12_laysSpans 13 = .ok (.if_icmp .gt (21), 3) := by decide +kernel
theorem D_M_laysSpans_16 : decode cX12_laysSpans 16 = .ok (.aload_n 0, 1) := by decide +kernel
theorem D_M_laysSpans_17 : decode cX12_laysSpans 17 = .ok (.getfield 45, 3) := by decide +kernel
theorem D_M_laysSpans_20 : decode cX12_laysSpans 20 = .ok (.iload_n 1, 1) := by decide +kernel
theorem D_M_laysSpans_21 : decode cX12_laysSpans 21 = .ok (.iload_n 2, 1) := by decide +kernel
theorem D_M_laysSpans_22 : decode cX12_laysSpans 22 = .ok (.iload_n 3, 1) := by decide +kernel
theorem D_M_laysSpans_23 : decode cX12_laysSpans 23 = .ok (.invokestatic 226, 3) := by decide +kernel
theorem D_M_laysSpans_26 : decode cX12_laysSpans 26 = .ok (.iconst (0), 1) := by decide +kernel
theorem D_M_laysSpans_27 : decode cX12_laysSpans 27 = .ok (.iastore, 1) := by decide +kernel
theorem D_M_laysSpans_28 : decode cX12_laysSpans 28 = .ok (.iinc 3 (1), 3) := by decide +kernel
theorem D_M_laysSpans_31 : decode cX12_laysSpans 31 = .ok (.goto (-21), 3) := by decide +kernel
theorem D_M_laysSpans_34 : decode cX12_laysSpans 34 = .ok (.iinc 2 (1), 3) := by decide +kernel
theorem D_M_laysSpans_37 : decode cX12_laysSpans 37 = .ok (.goto (-35), 3) := by decide +kernel
theorem D_M_laysSpans_40 : decode cX12_laysSpans 40 = .ok (.iconst (1), 1) := by decide +kernel
theorem D_M_laysSpans_41 : decode cX12_laysSpans 41 = .ok (.istore_n 2, 1) := by decide +kernel
theorem D_M_laysSpans_42 : decode cX12_laysSpans 42 = .ok (.iload_n 2, 1) := by decide +kernel
theorem D_M_laysSpans_43 : decode cX12_laysSpans 43 = .ok (.ifCond .eq (138), 3) := by decide +kernel
theorem D_M_laysSpans_46 : decode cX12_laysSpans 46 = .ok (.iconst (0), 1) := by decide +kernel
theorem D_M_laysSpans_47 : decode cX12_laysSpans 47 = .ok (.istore_n 2, 1) := by decide +kernel
theorem D_M_laysSpans_48 : decode cX12_laysSpans 48 = .ok (.iconst (0), 1) := by decide +kernel
theorem D_M_laysSpans_49 : decode cX12_laysSpans 49 = .ok (.istore_n 3, 1) := by decide +kernel
theorem D_M_laysSpans_50 : decode cX12_laysSpans 50 = .ok (.iload_n 3, 1) := by decide +kernel
theorem D_M_laysSpans_51 : decode cX12_laysSpans 51 = .ok (.aload_n 0, 1) := by decide +kernel
theorem D_M_laysSpans_52 : decode cX12_laysSpans 52 = .ok (.getfield 9, 3) := by decide +kernel
theorem D_M_laysSpans_55 : decode cX12_laysSpans 55 = .ok (.iconst (0), 1) := by decide +kernel
theorem D_M_laysSpans_56 : decode cX12_laysSpans 56 = .ok (.iaload, 1) := by decide +kernel
theorem D_M_laysSpans_57 : decode cX12_laysSpans 57 = .ok (.if_icmp .ge (121), 3) := by decide +kernel
theorem D_M_laysSpans_60 : decode cX12_laysSpans 60 = .ok (.iconst (0), 1) := by decide +kernel
theorem D_M_laysSpans_61 : decode cX12_laysSpans 61 = .ok (.istore 4, 2) := by decide +kernel
theorem D_M_laysSpans_63 : decode cX12_laysSpans 63 = .ok (.iload 4, 2) := by decide +kernel
theorem D_M_laysSpans_65 : decode cX12_laysSpans 65 = .ok (.aload_n 0, 1) := by decide +kernel
theorem D_M_laysSpans_66 : decode cX12_laysSpans 66 = .ok (.getfield 42, 3) := by decide +kernel
theorem D_M_laysSpans_69 : decode cX12_laysSpans 69 = .ok (.iload_n 1, 1) := by decide +kernel
theorem D_M_laysSpans_70 : decode cX12_laysSpans 70 = .ok (.iaload, 1) := by decide +kernel
theorem D_M_laysSpans_71 : decode cX12_laysSpans 71 = .ok (.if_icmp .gt (101), 3) := by decide +kernel
theorem D_M_laysSpans_74 : decode cX12_laysSpans 74 = .ok (.aload_n 0, 1) := by decide +kernel
theorem D_M_laysSpans_75 : decode cX12_laysSpans 75 = .ok (.getfield 45, 3) := by decide +kernel
theorem D_M_laysSpans_78 : decode cX12_laysSpans 78 = .ok (.iload_n 1, 1) := by decide +kernel
theorem D_M_laysSpans_79 : decode cX12_laysSpans 79 = .ok (.iload_n 3, 1) := by decide +kernel
theorem D_M_laysSpans_80 : decode cX12_laysSpans 80 = .ok (.iload 4, 2) := by decide +kernel
theorem D_M_laysSpans_82 : decode cX12_laysSpans 82 = .ok (.invokestatic 226, 3) := by decide +kernel
theorem D_M_laysSpans_85 : decode cX12_laysSpans 85 = .ok (.iaload, 1) := by decide +kernel
theorem D_M_laysSpans_86 : decode cX12_laysSpans 86 = .ok (.istore 5, 2) := by decide +kernel
theorem D_M_laysSpans_88 : decode cX12_laysSpans 88 = .ok (.iconst (0), 1) := by decide +kernel
theorem D_M_laysSpans_89 : decode cX12_laysSpans 89 = .ok (.istore 6, 2) := by decide +kernel
theorem D_M_laysSpans_91 : decode cX12_laysSpans 91 = .ok (.iload 6, 2) := by decide +kernel
theorem D_M_laysSpans_93 : decode cX12_laysSpans 93 = .ok (.aload_n 0, 1) := by decide +kernel
theorem D_M_laysSpans_94 : decode cX12_laysSpans 94 = .ok (.iload_n 3, 1) := by decide +kernel
theorem D_M_laysSpans_95 : decode cX12_laysSpans 95 = .ok (.invokevirtual 234, 3) := by decide +kernel
theorem D_M_laysSpans_98 : decode cX12_laysSpans 98 = .ok (.if_icmp .ge (27), 3) := by decide +kernel
theorem D_M_laysSpans_101 : decode cX12_laysSpans 101 = .ok (.iload 5, 2) := by decide +kernel
theorem D_M_laysSpans_103 : decode cX12_laysSpans 103 = .ok (.aload_n 0, 1) := by decide +kernel
theorem D_M_laysSpans_104 : decode cX12_laysSpans 104 = .ok (.iload_n 1, 1) := by decide +kernel
theorem D_M_laysSpans_105 : decode cX12_laysSpans 105 = .ok (.iload_n 3, 1) := by decide +kernel
theorem D_M_laysSpans_106 : decode cX12_laysSpans 106 = .ok (.iload 6, 2) := by decide +kernel
theorem D_M_laysSpans_108 : decode cX12_laysSpans 108 = .ok (.invokestatic 237, 3) := by decide +kernel
theorem D_M_laysSpans_111 : decode cX12_laysSpans 111 = .ok (.iload 4, 2) := by decide +kernel
theorem D_M_laysSpans_113 : decode cX12_laysSpans 113 = .ok (.invokevirtual 240, 3) := by decide +kernel
theorem D_M_laysSpans_116 : decode cX12_laysSpans 116 = .ok (.ior, 1) := by decide +kernel
theorem D_M_laysSpans_117 : decode cX12_laysSpans 117 = .ok (.istore 5, 2) := by decide +kernel
theorem D_M_laysSpans_119 : decode cX12_laysSpans 119 = .ok (.iinc 6 (1), 3) := by decide +kernel
theorem D_M_laysSpans_122 : decode cX12_laysSpans 122 = .ok (.goto (-31), 3) := by decide +kernel
theorem D_M_laysSpans_125 : decode cX12_laysSpans 125 = .ok (.iload_n 2, 1) := by decide +kernel
theorem D_M_laysSpans_126 : decode cX12_laysSpans 126 = .ok (.ifCond .ne (20), 3) := by decide +kernel
theorem D_M_laysSpans_129 : decode cX12_laysSpans 129 = .ok (.iload 5, 2) := by decide +kernel
theorem D_M_laysSpans_131 : decode cX12_laysSpans 131 = .ok (.aload_n 0, 1) := by decide +kernel
theorem D_M_laysSpans_132 : decode cX12_laysSpans 132 = .ok (.getfield 45, 3) := by decide +kernel
theorem D_M_laysSpans_135 : decode cX12_laysSpans 135 = .ok (.iload_n 1, 1) := by decide +kernel
theorem D_M_laysSpans_136 : decode cX12_laysSpans 136 = .ok (.iload_n 3, 1) := by decide +kernel
theorem D_M_laysSpans_137 : decode cX12_laysSpans 137 = .ok (.iload 4, 2) := by decide +kernel
theorem D_M_laysSpans_139 : decode cX12_laysSpans 139 = .ok (.invokestatic 226, 3) := by decide +kernel
theorem D_M_laysSpans_142 : decode cX12_laysSpans 142 = .ok (.iaload, 1) := by decide +kernel
theorem D_M_laysSpans_143 : decode cX12_laysSpans 143 = .ok (.if_icmp .eq (7), 3) := by decide +kernel
theorem D_M_laysSpans_146 : decode cX12_laysSpans 146 = .ok (.iconst (1), 1) := by decide +kernel
theorem D_M_laysSpans_147 : decode cX12_laysSpans 147 = .ok (.goto (4), 3) := by decide +kernel
theorem D_M_laysSpans_150 : decode cX12_laysSpans 150 = .ok (.iconst (0), 1) := by decide +kernel
theorem D_M_laysSpans_151 : decode cX12_laysSpans 151 = .ok (.istore_n 2, 1) := by decide +kernel
theorem D_M_laysSpans_152 : decode cX12_laysSpans 152 = .ok (.aload_n 0, 1) := by decide +kernel
theorem D_M_laysSpans_153 : decode cX12_laysSpans 153 = .ok (.getfield 45, 3) := by decide +kernel
theorem D_M_laysSpans_156 : decode cX12_laysSpans 156 = .ok (.iload_n 1, 1) := by decide +kernel
theorem D_M_laysSpans_157 : decode cX12_laysSpans 157 = .ok (.iload_n 3, 1) := by decide +kernel
theorem D_M_laysSpans_158 : decode cX12_laysSpans 158 = .ok (.iload 4, 2) := by decide +kernel
theorem D_M_laysSpans_160 : decode cX12_laysSpans 160 = .ok (.invokestatic 226, 3) := by decide +kernel
theorem D_M_laysSpans_163 : decode cX12_laysSpans 163 = .ok (.iload 5, 2) := by decide +kernel
theorem D_M_laysSpans_165 : decode cX12_laysSpans 165 = .ok (.iastore, 1) := by decide +kernel
theorem D_M_laysSpans_166 : decode cX12_laysSpans 166 = .ok (.iinc 4 (1), 3) := by decide +kernel
theorem D_M_laysSpans_169 : decode cX12_laysSpans 169 = .ok (.goto (-106), 3) := by decide +kernel
theorem D_M_laysSpans_172 : decode cX12_laysSpans 172 = .ok (.iinc 3 (1), 3) := by decide +kernel
theorem D_M_laysSpans_175 : decode cX12_laysSpans 175 = .ok (.goto (-125), 3) := by decide +kernel
theorem D_M_laysSpans_178 : decode cX12_laysSpans 178 = .ok (.goto (-136), 3) := by decide +kernel
theorem D_M_laysSpans_181 : decode cX12_laysSpans 181 = .ok (.return_, 1) := by decide +kernel
def K_M_laysSpans : SC := (cX12_laysSpans, "TwoLevelsModel", 7, 4, false, [81], NoQ)
def d_M_laysSpans : MD Unit := mth tt 7 (sq (sq (sI1 2 (eC (nI 0)))
 (loop (eh2 c_lt (lI 2) (eC (nI 6)))
 (sq (sI1 3 (eC (nI 0)))
 (loop (eh2 c_le (lI 3) (eC (nI 10)))
 (sh3 (stI [81]) (eh1 (gR 13 17) (lR 0)) (kS d_M_spanAt [vI (lI 1), vI (lI 2), vI (lI 3)]) (eC (nI 0)))
 (sInc 3 (nI 1))))
 (sInc 2 (nI 1))))
 (sq (sI1 2 (eC (nI 1)))
 (sq (loop (eh1 z_ne (lI 2))
 (sq (sI1 2 (eC (nI 0)))
 (sq (sI1 3 (eC (nI 0)))
 (loop (eh2 c_lt (lI 3) (eh2 (aI .int) (eh1 (gR 13 0) (lR 0)) (eC (nI 0))))
 (sq (sI1 4 (eC (nI 0)))
 (loop (eh2 c_le (lI 4) (eh2 (aI .int) (eh1 (gR 13 16) (lR 0)) (lI 1)))
 (sq (sI1 5 (eh2 (aI .int) (eh1 (gR 13 17) (lR 0)) (kS d_M_spanAt [vI (lI 1), vI (lI 3), vI (lI 4)])))
 (sq (sq (sI1 6 (eC (nI 0)))
 (loop (eh2 c_lt (lI 6) (kV 13 d_M_alternatives (lR 0) [vI (lI 3)]))
 (sI1 5 (eh2 iorF (lI 5) (kV 13 d_M_comesTo (lR 0) [vI (lI 1), vI (kS d_M_rowAt [vI (lI 3), vI (lI 6)]), vI (lI 4)])))
 (sInc 6 (nI 1))))
 (sq (sI1 2 (eIf (cOr (eh1 z_ne (lI 2)) (eh2 c_ne (lI 5) (eh2 (aI .int) (eh1 (gR 13 17) (lR 0)) (kS d_M_spanAt [vI (lI 1), vI (lI 3), vI (lI 4)])))) (eC (nI 1)) (eC (nI 0))))
 (sh3 (stI [81]) (eh1 (gR 13 17) (lR 0)) (kS d_M_spanAt [vI (lI 1), vI (lI 3), vI (lI 4)]) (lI 5)))))
 (sInc 4 (nI 1))))
 (sInc 3 (nI 1)))))
 sk)
 rtnU)))
theorem m_M_laysSpans : MJ 4 [81] yX12_laysSpans none eU (d_M_laysSpans) := MJ_of (K := K_M_laysSpans) (ri := .return_) (n1 := 0) (n2 := 0) (n3 := 0)
 (SJ_sq (p0 := 0) (p1 := 40) (nN := 0) (nB := 0) (nC := 0) (SJ_sq (p0 := 0) (p1 := 2) (nN := 40) (nB := 0) (nC := 0) (SJ_istore_n (i := 2) (j := 2) (p0 := 0) (p1 := 1) (EJ_iconst (n := 0) (v := (nI 0)) (pc := 0) D_M_laysSpans_0 (by decide +kernel)) D_M_laysSpans_1 rfl)
 (SJ_loop (p0 := 2) (pB := 8) (pS := 34) (pE := 40) (CJ_lt' (off := 35) (tgt := 40) (p0 := 2) (p1 := 3) (p2 := 5) (EJ_iload_n (j := 2) (i := 2) (pc := 2) D_M_laysSpans_2 rfl) (EJ_bipush (n := 6) (v := (nI 6)) (pc := 3) D_M_laysSpans_3 (by decide +kernel)) D_M_laysSpans_5 rfl)
 (SJ_sq (p0 := 8) (p1 := 10) (nN := 34) (nB := 40) (nC := 34) (SJ_istore_n (i := 3) (j := 3) (p0 := 8) (p1 := 9) (EJ_iconst (n := 0) (v := (nI 0)) (pc := 8) D_M_laysSpans_8 (by decide +kernel)) D_M_laysSpans_9 rfl)
 (SJ_loop (p0 := 10) (pB := 16) (pS := 28) (pE := 34) (CJ_le' (off := 21) (tgt := 34) (p0 := 10) (p1 := 11) (p2 := 13) (EJ_iload_n (j := 3) (i := 3) (pc := 10) D_M_laysSpans_10 rfl) (EJ_bipush (n := 10) (v := (nI 10)) (pc := 11) D_M_laysSpans_11 (by decide +kernel)) D_M_laysSpans_13 rfl)
 (SJ_iast (ws := [81]) (p0 := 16) (p1 := 20) (p2 := 26) (p3 := 27) (EJ_getR (t := 13) (c := 12) (kf := 17) (r := (RX12, TX12, 52)) (p0 := 16) (p1 := 17) (EJ_aload_n (j := 0) (i := 0) (pc := 16) D_M_laysSpans_16 rfl) D_M_laysSpans_17 ⟨rfl, rfl, by decide, q_949⟩ (fun _ _ => rfl)) (EJ_callS (p0 := 20) (p1 := 23) (AJ_I (p0 := 20) (p1 := 21) (p2 := 23) (EJ_iload_n (j := 1) (i := 1) (pc := 20) D_M_laysSpans_20 rfl) (AJ_I (p0 := 21) (p1 := 22) (p2 := 23) (EJ_iload_n (j := 2) (i := 2) (pc := 21) D_M_laysSpans_21 rfl) (AJ_I (p0 := 22) (p1 := 23) (p2 := 23) (EJ_iload_n (j := 3) (i := 3) (pc := 22) D_M_laysSpans_22 rfl) AJ_nil))) m_M_spanAt E1_I D_M_laysSpans_23 q_1182 q_1183 q_97 ⟨by decide +kernel, by decide +kernel, by decide +kernel⟩ (by decide) (show 1 + 1 ≤ 4 from by decide) (fun _ h => absurd h List.not_mem_nil)) (EJ_iconst (n := 0) (v := (nI 0)) (pc := 26) D_M_laysSpans_26 (by decide +kernel)) D_M_laysSpans_27 (show ∀ x_ ∈ ([81] : List Nat), x_ ∈ ([81] : List Nat) from by decide))
 (SJ_post (SJ_iinc (i := 3) (n := 1) (v := (nI 1)) (pc := 28) D_M_laysSpans_28 (by decide +kernel)) (Lead.goto (K := K_M_laysSpans) (pc := 31) (tgt := 10) D_M_laysSpans_31 rfl))))
 (SJ_post (SJ_iinc (i := 2) (n := 1) (v := (nI 1)) (pc := 34) D_M_laysSpans_34 (by decide +kernel)) (Lead.goto (K := K_M_laysSpans) (pc := 37) (tgt := 2) D_M_laysSpans_37 rfl))))
 (SJ_sq (p0 := 40) (p1 := 42) (nN := 0) (nB := 0) (nC := 0) (SJ_istore_n (i := 2) (j := 2) (p0 := 40) (p1 := 41) (EJ_iconst (n := 1) (v := (nI 1)) (pc := 40) D_M_laysSpans_40 (by decide +kernel)) D_M_laysSpans_41 rfl)
 (SJ_sq (p0 := 42) (p1 := 181) (nN := 0) (nB := 0) (nC := 0) (SJ_loop (p0 := 42) (pB := 46) (pS := 42) (pE := 181) (CZ_ne' (off := 138) (tgt := 181) (p0 := 42) (p1 := 43) (EJ_iload_n (j := 2) (i := 2) (pc := 42) D_M_laysSpans_42 rfl) D_M_laysSpans_43 rfl)
 (SJ_sq (p0 := 46) (p1 := 48) (nN := 42) (nB := 181) (nC := 42) (SJ_istore_n (i := 2) (j := 2) (p0 := 46) (p1 := 47) (EJ_iconst (n := 0) (v := (nI 0)) (pc := 46) D_M_laysSpans_46 (by decide +kernel)) D_M_laysSpans_47 rfl)
 (SJ_sq (p0 := 48) (p1 := 50) (nN := 42) (nB := 181) (nC := 42) (SJ_istore_n (i := 3) (j := 3) (p0 := 48) (p1 := 49) (EJ_iconst (n := 0) (v := (nI 0)) (pc := 48) D_M_laysSpans_48 (by decide +kernel)) D_M_laysSpans_49 rfl)
 (SJ_loop (p0 := 50) (pB := 60) (pS := 172) (pE := 42) (CJ_lead (CJ_lt' (off := 121) (tgt := 178) (p0 := 50) (p1 := 51) (p2 := 57) (EJ_iload_n (j := 3) (i := 3) (pc := 50) D_M_laysSpans_50 rfl) (EJ_iald (p0 := 51) (p1 := 55) (p2 := 56) (EJ_getR (t := 13) (c := 12) (kf := 0) (r := (RX12, TX12, 52)) (p0 := 51) (p1 := 52) (EJ_aload_n (j := 0) (i := 0) (pc := 51) D_M_laysSpans_51 rfl) D_M_laysSpans_52 ⟨rfl, rfl, by decide, q_932⟩ (fun _ _ => rfl)) (EJ_iconst (n := 0) (v := (nI 0)) (pc := 55) D_M_laysSpans_55 (by decide +kernel)) D_M_laysSpans_56) D_M_laysSpans_57 rfl) Lead.rf (Lead.goto (K := K_M_laysSpans) (pc := 178) (tgt := 42) D_M_laysSpans_178 rfl))
 (SJ_sq (p0 := 60) (p1 := 63) (nN := 172) (nB := 42) (nC := 172) (SJ_istore (i := 4) (p0 := 60) (p1 := 61) (EJ_iconst (n := 0) (v := (nI 0)) (pc := 60) D_M_laysSpans_60 (by decide +kernel)) D_M_laysSpans_61)
 (SJ_loop (p0 := 63) (pB := 74) (pS := 166) (pE := 172) (CJ_le' (off := 101) (tgt := 172) (p0 := 63) (p1 := 65) (p2 := 71) (EJ_iload (i := 4) (pc := 63) D_M_laysSpans_63) (EJ_iald (p0 := 65) (p1 := 69) (p2 := 70) (EJ_getR (t := 13) (c := 12) (kf := 16) (r := (RX12, TX12, 52)) (p0 := 65) (p1 := 66) (EJ_aload_n (j := 0) (i := 0) (pc := 65) D_M_laysSpans_65 rfl) D_M_laysSpans_66 ⟨rfl, rfl, by decide, q_948⟩ (fun _ _ => rfl)) (EJ_iload_n (j := 1) (i := 1) (pc := 69) D_M_laysSpans_69 rfl) D_M_laysSpans_70) D_M_laysSpans_71 rfl)
 (SJ_sq (p0 := 74) (p1 := 88) (nN := 166) (nB := 172) (nC := 166) (SJ_istore (i := 5) (p0 := 74) (p1 := 86) (EJ_iald (p0 := 74) (p1 := 78) (p2 := 85) (EJ_getR (t := 13) (c := 12) (kf := 17) (r := (RX12, TX12, 52)) (p0 := 74) (p1 := 75) (EJ_aload_n (j := 0) (i := 0) (pc := 74) D_M_laysSpans_74 rfl) D_M_laysSpans_75 ⟨rfl, rfl, by decide, q_949⟩ (fun _ _ => rfl)) (EJ_callS (p0 := 78) (p1 := 82) (AJ_I (p0 := 78) (p1 := 79) (p2 := 82) (EJ_iload_n (j := 1) (i := 1) (pc := 78) D_M_laysSpans_78 rfl) (AJ_I (p0 := 79) (p1 := 80) (p2 := 82) (EJ_iload_n (j := 3) (i := 3) (pc := 79) D_M_laysSpans_79 rfl) (AJ_I (p0 := 80) (p1 := 82) (p2 := 82) (EJ_iload (i := 4) (pc := 80) D_M_laysSpans_80) AJ_nil))) m_M_spanAt E1_I D_M_laysSpans_82 q_1182 q_1183 q_97 ⟨by decide +kernel, by decide +kernel, by decide +kernel⟩ (by decide) (show 1 + 1 ≤ 4 from by decide) (fun _ h => absurd h List.not_mem_nil)) D_M_laysSpans_85) D_M_laysSpans_86)
 (SJ_sq (p0 := 88) (p1 := 125) (nN := 166) (nB := 172) (nC := 166) (SJ_sq (p0 := 88) (p1 := 91) (nN := 125) (nB := 172) (nC := 166) (SJ_istore (i := 6) (p0 := 88) (p1 := 89) (EJ_iconst (n := 0) (v := (nI 0)) (pc := 88) D_M_laysSpans_88 (by decide +kernel)) D_M_laysSpans_89)
 (SJ_loop (p0 := 91) (pB := 101) (pS := 119) (pE := 125) (CJ_lt' (off := 27) (tgt := 125) (p0 := 91) (p1 := 93) (p2 := 98) (EJ_iload (i := 6) (pc := 91) D_M_laysSpans_91) (EJ_callV (t := 13) (c := 12) (r := (RX12, TX12, 52)) (p0 := 93) (p1 := 94) (p2 := 95) (EJ_aload_n (j := 0) (i := 0) (pc := 93) D_M_laysSpans_93 rfl) (AJ_I (p0 := 94) (p1 := 95) (p2 := 95) (EJ_iload_n (j := 3) (i := 3) (pc := 94) D_M_laysSpans_94 rfl) AJ_nil) m_M_alternatives E1_I D_M_laysSpans_95 rfl rfl rfl q_1164 q_1165 q_57 q_97 ⟨by decide +kernel, by decide +kernel, by decide +kernel⟩ (by decide) (show 1 + 1 ≤ 4 from by decide) (fun _ h => absurd h List.not_mem_nil)) D_M_laysSpans_98 rfl)
 (SJ_istore (i := 5) (p0 := 101) (p1 := 117) (EJ_ior (p0 := 101) (p1 := 103) (p2 := 116) (EJ_iload (i := 5) (pc := 101) D_M_laysSpans_101) (EJ_callV (t := 13) (c := 12) (r := (RX12, TX12, 52)) (p0 := 103) (p1 := 104) (p2 := 113) (EJ_aload_n (j := 0) (i := 0) (pc := 103) D_M_laysSpans_103 rfl) (AJ_I (p0 := 104) (p1 := 105) (p2 := 113) (EJ_iload_n (j := 1) (i := 1) (pc := 104) D_M_laysSpans_104 rfl) (AJ_I (p0 := 105) (p1 := 111) (p2 := 113) (EJ_callS (p0 := 105) (p1 := 108) (AJ_I (p0 := 105) (p1 := 106) (p2 := 108) (EJ_iload_n (j := 3) (i := 3) (pc := 105) D_M_laysSpans_105 rfl) (AJ_I (p0 := 106) (p1 := 108) (p2 := 108) (EJ_iload (i := 6) (pc := 106) D_M_laysSpans_106) AJ_nil)) m_M_rowAt E1_I D_M_laysSpans_108 q_1170 q_1171 q_97 ⟨by decide +kernel, by decide +kernel, by decide +kernel⟩ (by decide) (show 1 + 1 ≤ 4 from by decide) (fun _ h => absurd h List.not_mem_nil)) (AJ_I (p0 := 111) (p1 := 113) (p2 := 113) (EJ_iload (i := 4) (pc := 111) D_M_laysSpans_111) AJ_nil))) m_M_comesTo E1_I D_M_laysSpans_113 rfl rfl rfl q_1185 q_1186 q_62 q_97 ⟨by decide +kernel, by decide +kernel, by decide +kernel⟩ (by decide) (show 3 + 1 ≤ 4 from by decide) (fun _ h => absurd h List.not_mem_nil)) D_M_laysSpans_116) D_M_laysSpans_117)
 (SJ_post (SJ_iinc (i := 6) (n := 1) (v := (nI 1)) (pc := 119) D_M_laysSpans_119 (by decide +kernel)) (Lead.goto (K := K_M_laysSpans) (pc := 122) (tgt := 91) D_M_laysSpans_122 rfl))))
 (SJ_sq (p0 := 125) (p1 := 152) (nN := 166) (nB := 172) (nC := 166) (SJ_istore_n (i := 2) (j := 2) (p0 := 125) (p1 := 151) (EJ_if (p0 := 125) (pT := 146) (pF := 150) (pE := 147) (p1 := 151) (CJ_or (p0 := 125) (pM := 129) (pT := 146) (pF := 150) (CZ_ne (off := 20) (tgt := 146) (p0 := 125) (p1 := 126) (EJ_iload_n (j := 2) (i := 2) (pc := 125) D_M_laysSpans_125 rfl) D_M_laysSpans_126 rfl) (CJ_ne' (off := 7) (tgt := 150) (p0 := 129) (p1 := 131) (p2 := 143) (EJ_iload (i := 5) (pc := 129) D_M_laysSpans_129) (EJ_iald (p0 := 131) (p1 := 135) (p2 := 142) (EJ_getR (t := 13) (c := 12) (kf := 17) (r := (RX12, TX12, 52)) (p0 := 131) (p1 := 132) (EJ_aload_n (j := 0) (i := 0) (pc := 131) D_M_laysSpans_131 rfl) D_M_laysSpans_132 ⟨rfl, rfl, by decide, q_949⟩ (fun _ _ => rfl)) (EJ_callS (p0 := 135) (p1 := 139) (AJ_I (p0 := 135) (p1 := 136) (p2 := 139) (EJ_iload_n (j := 1) (i := 1) (pc := 135) D_M_laysSpans_135 rfl) (AJ_I (p0 := 136) (p1 := 137) (p2 := 139) (EJ_iload_n (j := 3) (i := 3) (pc := 136) D_M_laysSpans_136 rfl) (AJ_I (p0 := 137) (p1 := 139) (p2 := 139) (EJ_iload (i := 4) (pc := 137) D_M_laysSpans_137) AJ_nil))) m_M_spanAt E1_I D_M_laysSpans_139 q_1182 q_1183 q_97 ⟨by decide +kernel, by decide +kernel, by decide +kernel⟩ (by decide) (show 1 + 1 ≤ 4 from by decide) (fun _ h => absurd h List.not_mem_nil)) D_M_laysSpans_142) D_M_laysSpans_143 rfl)) (EJ_iconst (n := 1) (v := (nI 1)) (pc := 146) D_M_laysSpans_146 (by decide +kernel)) (Lead.goto (K := K_M_laysSpans) (pc := 147) (tgt := 151) D_M_laysSpans_147 rfl) (EJ_iconst (n := 0) (v := (nI 0)) (pc := 150) D_M_laysSpans_150 (by decide +kernel))) D_M_laysSpans_151 rfl)
 (SJ_iast (ws := [81]) (p0 := 152) (p1 := 156) (p2 := 163) (p3 := 165) (EJ_getR (t := 13) (c := 12) (kf := 17) (r := (RX12, TX12, 52)) (p0 := 152) (p1 := 153) (EJ_aload_n (j := 0) (i := 0) (pc := 152) D_M_laysSpans_152 rfl) D_M_laysSpans_153 ⟨rfl, rfl, by decide, q_949⟩ (fun _ _ => rfl)) (EJ_callS (p0 := 156) (p1 := 160) (AJ_I (p0 := 156) (p1 := 157) (p2 := 160) (EJ_iload_n (j := 1) (i := 1) (pc := 156) D_M_laysSpans_156 rfl) (AJ_I (p0 := 157) (p1 := 158) (p2 := 160) (EJ_iload_n (j := 3) (i := 3) (pc := 157) D_M_laysSpans_157 rfl) (AJ_I (p0 := 158) (p1 := 160) (p2 := 160) (EJ_iload (i := 4) (pc := 158) D_M_laysSpans_158) AJ_nil))) m_M_spanAt E1_I D_M_laysSpans_160 q_1182 q_1183 q_97 ⟨by decide +kernel, by decide +kernel, by decide +kernel⟩ (by decide) (show 1 + 1 ≤ 4 from by decide) (fun _ h => absurd h List.not_mem_nil)) (EJ_iload (i := 5) (pc := 163) D_M_laysSpans_163) D_M_laysSpans_165 (show ∀ x_ ∈ ([81] : List Nat), x_ ∈ ([81] : List Nat) from by decide)))))
 (SJ_post (SJ_iinc (i := 4) (n := 1) (v := (nI 1)) (pc := 166) D_M_laysSpans_166 (by decide +kernel)) (Lead.goto (K := K_M_laysSpans) (pc := 169) (tgt := 63) D_M_laysSpans_169 rfl))))
 (SJ_post (SJ_iinc (i := 3) (n := 1) (v := (nI 1)) (pc := 172) D_M_laysSpans_172 (by decide +kernel)) (Lead.goto (K := K_M_laysSpans) (pc := 175) (tgt := 50) D_M_laysSpans_175 rfl)))))
 SJ_sk)
 (SJ_retU (pc := 181) D_M_laysSpans_181))))
 RTm_void q_1181 (by decide +kernel) rfl (fun h => by cases h) (show 7 ≤ 40 from by decide) (fun _ => trivial)
theorem D_M_laysNotion_0 : decode cX12_laysNotion 0 = .ok (.aload_n 0, 1) := by decide +kernel
theorem D_M_laysNotion_1 : decode cX12_laysNotion 1 = .ok (.getfield 42, 3) := by decide +kernel
theorem D_M_laysNotion_4 : decode cX12_laysNotion 4 = .ok (.iload_n 1, 1) := by decide +kernel
theorem D_M_laysNotion_5 : decode cX12_laysNotion 5 = .ok (.aload_n 0, 1) := by decide +kernel
theorem D_M_laysNotion_6 : decode cX12_laysNotion 6 = .ok (.getfield 9, 3) := by decide +kernel
theorem D_M_laysNotion_9 : decode cX12_laysNotion 9 = .ok (.sipush (1584), 3) := by decide +kernel
theorem D_M_laysNotion_12 : decode cX12_laysNotion 12 = .ok (.iaload, 1) := by decide +kernel
theorem D_M_laysNotion_13 : decode cX12_laysNotion 13 = .ok (.iastore, 1) := by decide +kernel
theorem D_M_laysNotion_14 : decode cX12_laysNotion 14 = .ok (.iconst (0), 1) := by decide +kernel
theorem D_M_laysNotion_15 : decode cX12_laysNotion 15 = .ok (.istore_n 2, 1) := by decide +kernel
theorem D_M_laysNotion_16 : decode cX12_laysNotion 16 = .ok (.iload_n 2, 1) := by decide +kernel
theorem D_M_laysNotion_17 : decode cX12_laysNotion 17 = .ok (.aload_n 0, 1) := by decide +kernel
theorem D_M_laysNotion_18 : decode cX12_laysNotion 18 = .ok (.getfield 9, 3) := by decide +kernel
theorem D_M_laysNotion_21 : decode cX12_laysNotion 21 = .ok (.sipush (1584), 3) := by decide +kernel
theorem D_M_laysNotion_24 : decode cX12_laysNotion 24 = .ok (.iaload, 1) := by decide +kernel
theorem D_M_laysNotion_25 : decode cX12_laysNotion 25 = .ok (.if_icmp .ge (30), 3) := by decide +kernel
theorem D_M_laysNotion_28 : decode cX12_laysNotion 28 = .ok (.aload_n 0, 1) := by decide +kernel
theorem D_M_laysNotion_29 : decode cX12_laysNotion 29 = .ok (.getfield 39, 3) := by decide +kernel
theorem D_M_laysNotion_32 : decode cX12_laysNotion 32 = .ok (.bipush (10), 2) := by decide +kernel
theorem D_M_laysNotion_34 : decode cX12_laysNotion 34 = .ok (.iload_n 1, 1) := by decide +kernel
theorem D_M_laysNotion_35 : decode cX12_laysNotion 35 = .ok (.imul, 1) := by decide +kernel
theorem D_M_laysNotion_36 : decode cX12_laysNotion 36 = .ok (.iload_n 2, 1) := by decide +kernel
theorem D_M_laysNotion_37 : decode cX12_laysNotion 37 = .ok (.iadd, 1) := by decide +kernel
theorem D_M_laysNotion_38 : decode cX12_laysNotion 38 = .ok (.aload_n 0, 1) := by decide +kernel
theorem D_M_laysNotion_39 : decode cX12_laysNotion 39 = .ok (.getfield 9, 3) := by decide +kernel
theorem D_M_laysNotion_42 : decode cX12_laysNotion 42 = .ok (.sipush (1585), 3) := by decide +kernel
theorem D_M_laysNotion_45 : decode cX12_laysNotion 45 = .ok (.iload_n 2, 1) := by decide +kernel
theorem D_M_laysNotion_46 : decode cX12_laysNotion 46 = .ok (.iadd, 1) := by decide +kernel
theorem D_M_laysNotion_47 : decode cX12_laysNotion 47 = .ok (.iaload, 1) := by decide +kernel
theorem D_M_laysNotion_48 : decode cX12_laysNotion 48 = .ok (.iastore, 1) := by decide +kernel
theorem D_M_laysNotion_49 : decode cX12_laysNotion 49 = .ok (.iinc 2 (1), 3) := by decide +kernel
theorem D_M_laysNotion_52 : decode cX12_laysNotion 52 = .ok (.goto (-36), 3) := by decide +kernel
theorem D_M_laysNotion_55 : decode cX12_laysNotion 55 = .ok (.aload_n 0, 1) := by decide +kernel
theorem D_M_laysNotion_56 : decode cX12_laysNotion 56 = .ok (.iload_n 1, 1) := by decide +kernel
theorem D_M_laysNotion_57 : decode cX12_laysNotion 57 = .ok (.invokevirtual 243, 3) := by decide +kernel
theorem D_M_laysNotion_60 : decode cX12_laysNotion 60 = .ok (.return_, 1) := by decide +kernel
def K_M_laysNotion : SC := (cX12_laysNotion, "TwoLevelsModel", 3, 5, false, [79, 80, 81], NoQ)
def d_M_laysNotion : MD Unit := mth tt 3 (sq (sh3 (stI [80]) (eh1 (gR 13 16) (lR 0)) (lI 1) (eh2 (aI .int) (eh1 (gR 13 0) (lR 0)) (eC (nI 1584))))
 (sq (sq (sI1 2 (eC (nI 0)))
 (loop (eh2 c_lt (lI 2) (eh2 (aI .int) (eh1 (gR 13 0) (lR 0)) (eC (nI 1584))))
 (sh3 (stI [79]) (eh1 (gR 13 15) (lR 0)) (eh2 iaddF (eh2 imulF (eC (nI 10)) (lI 1)) (lI 2)) (eh2 (aI .int) (eh1 (gR 13 0) (lR 0)) (eh2 iaddF (eC (nI 1585)) (lI 2))))
 (sInc 2 (nI 1))))
 (sq (sE (kV 13 d_M_laysSpans (lR 0) [vI (lI 1)]))
 rtnU)))
theorem m_M_laysNotion : MJ 5 [79, 80, 81] yX12_laysNotion none eU (d_M_laysNotion) := MJ_of (K := K_M_laysNotion) (ri := .return_) (n1 := 0) (n2 := 0) (n3 := 0)
 (SJ_sq (p0 := 0) (p1 := 14) (nN := 0) (nB := 0) (nC := 0) (SJ_iast (ws := [80]) (p0 := 0) (p1 := 4) (p2 := 5) (p3 := 13) (EJ_getR (t := 13) (c := 12) (kf := 16) (r := (RX12, TX12, 52)) (p0 := 0) (p1 := 1) (EJ_aload_n (j := 0) (i := 0) (pc := 0) D_M_laysNotion_0 rfl) D_M_laysNotion_1 ⟨rfl, rfl, by decide, q_948⟩ (fun _ _ => rfl)) (EJ_iload_n (j := 1) (i := 1) (pc := 4) D_M_laysNotion_4 rfl) (EJ_iald (p0 := 5) (p1 := 9) (p2 := 12) (EJ_getR (t := 13) (c := 12) (kf := 0) (r := (RX12, TX12, 52)) (p0 := 5) (p1 := 6) (EJ_aload_n (j := 0) (i := 0) (pc := 5) D_M_laysNotion_5 rfl) D_M_laysNotion_6 ⟨rfl, rfl, by decide, q_932⟩ (fun _ _ => rfl)) (EJ_sipush (n := 1584) (v := (nI 1584)) (pc := 9) D_M_laysNotion_9 (by decide +kernel)) D_M_laysNotion_12) D_M_laysNotion_13 (show ∀ x_ ∈ ([80] : List Nat), x_ ∈ ([79, 80, 81] : List Nat) from by decide))
 (SJ_sq (p0 := 14) (p1 := 55) (nN := 0) (nB := 0) (nC := 0) (SJ_sq (p0 := 14) (p1 := 16) (nN := 55) (nB := 0) (nC := 0) (SJ_istore_n (i := 2) (j := 2) (p0 := 14) (p1 := 15) (EJ_iconst (n := 0) (v := (nI 0)) (pc := 14) D_M_laysNotion_14 (by decide +kernel)) D_M_laysNotion_15 rfl)
 (SJ_loop (p0 := 16) (pB := 28) (pS := 49) (pE := 55) (CJ_lt' (off := 30) (tgt := 55) (p0 := 16) (p1 := 17) (p2 := 25) (EJ_iload_n (j := 2) (i := 2) (pc := 16) D_M_laysNotion_16 rfl) (EJ_iald (p0 := 17) (p1 := 21) (p2 := 24) (EJ_getR (t := 13) (c := 12) (kf := 0) (r := (RX12, TX12, 52)) (p0 := 17) (p1 := 18) (EJ_aload_n (j := 0) (i := 0) (pc := 17) D_M_laysNotion_17 rfl) D_M_laysNotion_18 ⟨rfl, rfl, by decide, q_932⟩ (fun _ _ => rfl)) (EJ_sipush (n := 1584) (v := (nI 1584)) (pc := 21) D_M_laysNotion_21 (by decide +kernel)) D_M_laysNotion_24) D_M_laysNotion_25 rfl)
 (SJ_iast (ws := [79]) (p0 := 28) (p1 := 32) (p2 := 38) (p3 := 48) (EJ_getR (t := 13) (c := 12) (kf := 15) (r := (RX12, TX12, 52)) (p0 := 28) (p1 := 29) (EJ_aload_n (j := 0) (i := 0) (pc := 28) D_M_laysNotion_28 rfl) D_M_laysNotion_29 ⟨rfl, rfl, by decide, q_947⟩ (fun _ _ => rfl)) (EJ_iadd (p0 := 32) (p1 := 36) (p2 := 37) (EJ_imul (p0 := 32) (p1 := 34) (p2 := 35) (EJ_bipush (n := 10) (v := (nI 10)) (pc := 32) D_M_laysNotion_32 (by decide +kernel)) (EJ_iload_n (j := 1) (i := 1) (pc := 34) D_M_laysNotion_34 rfl) D_M_laysNotion_35) (EJ_iload_n (j := 2) (i := 2) (pc := 36) D_M_laysNotion_36 rfl) D_M_laysNotion_37) (EJ_iald (p0 := 38) (p1 := 42) (p2 := 47) (EJ_getR (t := 13) (c := 12) (kf := 0) (r := (RX12, TX12, 52)) (p0 := 38) (p1 := 39) (EJ_aload_n (j := 0) (i := 0) (pc := 38) D_M_laysNotion_38 rfl) D_M_laysNotion_39 ⟨rfl, rfl, by decide, q_932⟩ (fun _ _ => rfl)) (EJ_iadd (p0 := 42) (p1 := 45) (p2 := 46) (EJ_sipush (n := 1585) (v := (nI 1585)) (pc := 42) D_M_laysNotion_42 (by decide +kernel)) (EJ_iload_n (j := 2) (i := 2) (pc := 45) D_M_laysNotion_45 rfl) D_M_laysNotion_46) D_M_laysNotion_47) D_M_laysNotion_48 (show ∀ x_ ∈ ([79] : List Nat), x_ ∈ ([79, 80, 81] : List Nat) from by decide))
 (SJ_post (SJ_iinc (i := 2) (n := 1) (v := (nI 1)) (pc := 49) D_M_laysNotion_49 (by decide +kernel)) (Lead.goto (K := K_M_laysNotion) (pc := 52) (tgt := 16) D_M_laysNotion_52 rfl))))
 (SJ_sq (p0 := 55) (p1 := 60) (nN := 0) (nB := 0) (nC := 0) (SJ_void (p0 := 55) (p1 := 60) (EJ_callV (t := 13) (c := 12) (r := (RX12, TX12, 52)) (p0 := 55) (p1 := 56) (p2 := 57) (EJ_aload_n (j := 0) (i := 0) (pc := 55) D_M_laysNotion_55 rfl) (AJ_I (p0 := 56) (p1 := 57) (p2 := 57) (EJ_iload_n (j := 1) (i := 1) (pc := 56) D_M_laysNotion_56 rfl) AJ_nil) m_M_laysSpans E1_U D_M_laysNotion_57 rfl rfl rfl q_1179 q_1180 q_61 q_97 ⟨by decide +kernel, by decide +kernel, by decide +kernel⟩ (by decide) (show 4 + 1 ≤ 5 from by decide) (show ∀ x_ ∈ ([81] : List Nat), x_ ∈ ([79, 80, 81] : List Nat) from by decide)))
 (SJ_retU (pc := 60) D_M_laysNotion_60))))
 RTm_void q_1238 (by decide +kernel) rfl (fun h => by cases h) (show 3 ≤ 40 from by decide) (fun _ => trivial)
theorem D_M_assignments_0 : decode cX12_assignments 0 = .ok (.aload_n 0, 1) := by decide +kernel
theorem D_M_assignments_1 : decode cX12_assignments 1 = .ok (.iconst (0), 1) := by decide +kernel
theorem D_M_assignments_2 : decode cX12_assignments 2 = .ok (.putfield 300, 3) := by decide +kernel
theorem D_M_assignments_5 : decode cX12_assignments 5 = .ok (.aload_n 0, 1) := by decide +kernel
theorem D_M_assignments_6 : decode cX12_assignments 6 = .ok (.iload_n 2, 1) := by decide +kernel
theorem D_M_assignments_7 : decode cX12_assignments 7 = .ok (.putfield 303, 3) := by decide +kernel
theorem D_M_assignments_10 : decode cX12_assignments 10 = .ok (.aload_n 0, 1) := by decide +kernel
theorem D_M_assignments_11 : decode cX12_assignments 11 = .ok (.bipush (13), 2) := by decide +kernel
theorem D_M_assignments_13 : decode cX12_assignments 13 = .ok (.invokevirtual 288, 3) := by decide +kernel
theorem D_M_assignments_16 : decode cX12_assignments 16 = .ok (.aload_n 0, 1) := by decide +kernel
theorem D_M_assignments_17 : decode cX12_assignments 17 = .ok (.bipush (13), 2) := by decide +kernel
theorem D_M_assignments_19 : decode cX12_assignments 19 = .ok (.invokevirtual 314, 3) := by decide +kernel
theorem D_M_assignments_22 : decode cX12_assignments 22 = .ok (.aload_n 0, 1) := by decide +kernel
theorem D_M_assignments_23 : decode cX12_assignments 23 = .ok (.iload_n 1, 1) := by decide +kernel
theorem D_M_assignments_24 : decode cX12_assignments 24 = .ok (.iconst (1), 1) := by decide +kernel
theorem D_M_assignments_25 : decode cX12_assignments 25 = .ok (.iconst (0), 1) := by decide +kernel
theorem D_M_assignments_26 : decode cX12_assignments 26 = .ok (.invokevirtual 306, 3) := by decide +kernel
theorem D_M_assignments_29 : decode cX12_assignments 29 = .ok (.aload_n 0, 1) := by decide +kernel
theorem D_M_assignments_30 : decode cX12_assignments 30 = .ok (.getfield 300, 3) := by decide +kernel
theorem D_M_assignments_33 : decode cX12_assignments 33 = .ok (.ireturn, 1) := by decide +kernel
def K_M_assignments : SC := (cX12_assignments, "TwoLevelsModel", 3, 203, false, [13, 79, 80, 81, 88, 89, 90, 91], NoQ)
def d_M_assignments : MD Int32 := mth tt 3 (sq (sh2 (pI false 13 28) (lR 0) (eC (nI 0)))
 (sq (sh2 (pI false 13 29) (lR 0) (lI 2))
 (sq (sE (kV 13 d_M_laysNotion (lR 0) [vI (eC (nI 13))]))
 (sq (sE (kV 13 d_M_clears (lR 0) [vI (eC (nI 13))]))
 (sq (sE (kV 13 d_M_counts (lR 0) [vI (lI 1), vI (eC (nI 1)), vI (eC (nI 0))]))
 (rtn (eh1 (gI 13 28) (lR 0))))))))
theorem m_M_assignments : MJ 203 [13, 79, 80, 81, 88, 89, 90, 91] yX12_assignments (some .int) eI (d_M_assignments) := MJ_of (K := K_M_assignments) (ri := .ireturn) (n1 := 0) (n2 := 0) (n3 := 0)
 (SJ_sq (p0 := 0) (p1 := 5) (nN := 0) (nB := 0) (nC := 0) (SJ_putI (z := false) (t := 13) (c := 12) (kf := 28) (r := (RX12, TX12, 52)) (p0 := 0) (p1 := 1) (p2 := 2) (EJ_aload_n (j := 0) (i := 0) (pc := 0) D_M_assignments_0 rfl) (EJ_iconst (n := 0) (v := (nI 0)) (pc := 1) D_M_assignments_1 (by decide +kernel)) D_M_assignments_2 ⟨rfl, rfl, by decide, q_960⟩ (Or.inl rfl) (fun _ _ => ⟨rfl, rfl⟩) (fun _ _ => rfl) (show (13 : Nat) ∈ ([13, 79, 80, 81, 88, 89, 90, 91] : List Nat) from by decide))
 (SJ_sq (p0 := 5) (p1 := 10) (nN := 0) (nB := 0) (nC := 0) (SJ_putI (z := false) (t := 13) (c := 12) (kf := 29) (r := (RX12, TX12, 52)) (p0 := 5) (p1 := 6) (p2 := 7) (EJ_aload_n (j := 0) (i := 0) (pc := 5) D_M_assignments_5 rfl) (EJ_iload_n (j := 2) (i := 2) (pc := 6) D_M_assignments_6 rfl) D_M_assignments_7 ⟨rfl, rfl, by decide, q_961⟩ (Or.inl rfl) (fun _ _ => ⟨rfl, rfl⟩) (fun _ _ => rfl) (show (13 : Nat) ∈ ([13, 79, 80, 81, 88, 89, 90, 91] : List Nat) from by decide))
 (SJ_sq (p0 := 10) (p1 := 16) (nN := 0) (nB := 0) (nC := 0) (SJ_void (p0 := 10) (p1 := 16) (EJ_callV (t := 13) (c := 12) (r := (RX12, TX12, 52)) (p0 := 10) (p1 := 11) (p2 := 13) (EJ_aload_n (j := 0) (i := 0) (pc := 10) D_M_assignments_10 rfl) (AJ_I (p0 := 11) (p1 := 13) (p2 := 13) (EJ_bipush (n := 13) (v := (nI 13)) (pc := 11) D_M_assignments_11 (by decide +kernel)) AJ_nil) m_M_laysNotion E1_U D_M_assignments_13 rfl rfl rfl q_1236 q_1237 q_71 q_97 ⟨by decide +kernel, by decide +kernel, by decide +kernel⟩ (by decide) (show 5 + 1 ≤ 203 from by decide) (show ∀ x_ ∈ ([79, 80, 81] : List Nat), x_ ∈ ([13, 79, 80, 81, 88, 89, 90, 91] : List Nat) from by decide)))
 (SJ_sq (p0 := 16) (p1 := 22) (nN := 0) (nB := 0) (nC := 0) (SJ_void (p0 := 16) (p1 := 22) (EJ_callV (t := 13) (c := 12) (r := (RX12, TX12, 52)) (p0 := 16) (p1 := 17) (p2 := 19) (EJ_aload_n (j := 0) (i := 0) (pc := 16) D_M_assignments_16 rfl) (AJ_I (p0 := 17) (p1 := 19) (p2 := 19) (EJ_bipush (n := 13) (v := (nI 13)) (pc := 17) D_M_assignments_17 (by decide +kernel)) AJ_nil) m_M_clears E1_U D_M_assignments_19 rfl rfl rfl q_1269 q_1270 q_75 q_97 ⟨by decide +kernel, by decide +kernel, by decide +kernel⟩ (by decide) (show 1 + 1 ≤ 203 from by decide) (show ∀ x_ ∈ ([89] : List Nat), x_ ∈ ([13, 79, 80, 81, 88, 89, 90, 91] : List Nat) from by decide)))
 (SJ_sq (p0 := 22) (p1 := 29) (nN := 0) (nB := 0) (nC := 0) (SJ_void (p0 := 22) (p1 := 29) (EJ_callV (t := 13) (c := 12) (r := (RX12, TX12, 52)) (p0 := 22) (p1 := 23) (p2 := 26) (EJ_aload_n (j := 0) (i := 0) (pc := 22) D_M_assignments_22 rfl) (AJ_I (p0 := 23) (p1 := 24) (p2 := 26) (EJ_iload_n (j := 1) (i := 1) (pc := 23) D_M_assignments_23 rfl) (AJ_I (p0 := 24) (p1 := 25) (p2 := 26) (EJ_iconst (n := 1) (v := (nI 1)) (pc := 24) D_M_assignments_24 (by decide +kernel)) (AJ_I (p0 := 25) (p1 := 26) (p2 := 26) (EJ_iconst (n := 0) (v := (nI 0)) (pc := 25) D_M_assignments_25 (by decide +kernel)) AJ_nil))) m_M_counts E1_U D_M_assignments_26 rfl rfl rfl q_1272 q_1273 q_76 q_97 ⟨by decide +kernel, by decide +kernel, by decide +kernel⟩ (by decide) (show 202 + 1 ≤ 203 from by decide) (show ∀ x_ ∈ ([13, 88, 89, 90, 91] : List Nat), x_ ∈ ([13, 79, 80, 81, 88, 89, 90, 91] : List Nat) from by decide)))
 (SJ_ret (p0 := 29) (p1 := 33) (EJ_getI (t := 13) (c := 12) (kf := 28) (r := (RX12, TX12, 52)) (p0 := 29) (p1 := 30) (EJ_aload_n (j := 0) (i := 0) (pc := 29) D_M_assignments_29 rfl) D_M_assignments_30 ⟨rfl, rfl, by decide, q_960⟩ (fun _ _ => rfl)) D_M_assignments_33))))))
 RTm_int q_1268 (by decide +kernel) rfl (fun h => by cases h) (show 3 ≤ 40 from by decide) (fun _ => trivial)
theorem D_M_isRule_0 : decode cX12_isRule 0 = .ok (.iload_n 1, 1) := by decide +kernel
theorem D_M_isRule_1 : decode cX12_isRule 1 = .ok (.iconst (0), 1) := by decide +kernel
theorem D_M_isRule_2 : decode cX12_isRule 2 = .ok (.aload_n 0, 1) := by decide +kernel
theorem D_M_isRule_3 : decode cX12_isRule 3 = .ok (.getfield 9, 3) := by decide +kernel
theorem D_M_isRule_6 : decode cX12_isRule 6 = .ok (.iconst (1), 1) := by decide +kernel
theorem D_M_isRule_7 : decode cX12_isRule 7 = .ok (.iaload, 1) := by decide +kernel
theorem D_M_isRule_8 : decode cX12_isRule 8 = .ok (.iconst (1), 1) := by decide +kernel
theorem D_M_isRule_9 : decode cX12_isRule 9 = .ok (.isub, 1) := by decide +kernel
theorem D_M_isRule_10 : decode cX12_isRule 10 = .ok (.invokestatic 108, 3) := by decide +kernel
theorem D_M_isRule_13 : decode cX12_isRule 13 = .ok (.ireturn, 1) := by decide +kernel
def K_M_isRule : SC := (cX12_isRule, "TwoLevelsModel", 2, 2, false, [], NoQ)
def d_M_isRule : MD Int32 := mth zz 2 (rtn (kS d_M_in [vI (lI 1), vI (eC (nI 0)), vI (eh2 isubF (eh2 (aI .int) (eh1 (gR 13 0) (lR 0)) (eC (nI 1))) (eC (nI 1)))]))
theorem m_M_isRule : MJ 2 [] yX12_isRule (some .boolean) eI (d_M_isRule) := MJ_of (K := K_M_isRule) (ri := .ireturn) (n1 := 0) (n2 := 0) (n3 := 0)
 (SJ_ret (p0 := 0) (p1 := 13) (EJ_callS (p0 := 0) (p1 := 10) (AJ_I (p0 := 0) (p1 := 1) (p2 := 10) (EJ_iload_n (j := 1) (i := 1) (pc := 0) D_M_isRule_0 rfl) (AJ_I (p0 := 1) (p1 := 2) (p2 := 10) (EJ_iconst (n := 0) (v := (nI 0)) (pc := 1) D_M_isRule_1 (by decide +kernel)) (AJ_I (p0 := 2) (p1 := 10) (p2 := 10) (EJ_isub (p0 := 2) (p1 := 8) (p2 := 9) (EJ_iald (p0 := 2) (p1 := 6) (p2 := 7) (EJ_getR (t := 13) (c := 12) (kf := 0) (r := (RX12, TX12, 52)) (p0 := 2) (p1 := 3) (EJ_aload_n (j := 0) (i := 0) (pc := 2) D_M_isRule_2 rfl) D_M_isRule_3 ⟨rfl, rfl, by decide, q_932⟩ (fun _ _ => rfl)) (EJ_iconst (n := 1) (v := (nI 1)) (pc := 6) D_M_isRule_6 (by decide +kernel)) D_M_isRule_7) (EJ_iconst (n := 1) (v := (nI 1)) (pc := 8) D_M_isRule_8 (by decide +kernel)) D_M_isRule_9) AJ_nil))) m_M_in E1_I D_M_isRule_10 q_1071 q_1072 q_97 ⟨by decide +kernel, by decide +kernel, by decide +kernel⟩ (by decide) (show 1 + 1 ≤ 2 from by decide) (fun _ h => absurd h List.not_mem_nil)) D_M_isRule_13)
 RTm_bool q_1152 (by decide +kernel) rfl (fun h => by cases h) (show 2 ≤ 40 from by decide) (fun _ => trivial)
theorem D_M_rowHas_0 : decode cX12_rowHas 0 = .ok (.iconst (1), 1) := by decide +kernel
theorem D_M_rowHas_1 : decode cX12_rowHas 1 = .ok (.istore_n 3, 1) := by decide +kernel
theorem D_M_rowHas_2 : decode cX12_rowHas 2 = .ok (.iload_n 3, 1) := by decide +kernel
theorem D_M_rowHas_3 : decode cX12_rowHas 3 = .ok (.aload_n 0, 1) := by decide +kernel
theorem D_M_rowHas_4 : decode cX12_rowHas 4 = .ok (.getfield 9, 3) := by decide +kernel
theorem D_M_rowHas_7 : decode cX12_rowHas 7 = .ok (.iload_n 1, 1) := by decide +kernel
theorem D_M_rowHas_8 : decode cX12_rowHas 8 = .ok (.iaload, 1) := by decide +kernel
theorem D_M_rowHas_9 : decode cX12_rowHas 9 = .ok (.if_icmp .gt (23), 3) := by decide +kernel
theorem D_M_rowHas_12 : decode cX12_rowHas 12 = .ok (.aload_n 0, 1) := by decide +kernel
theorem D_M_rowHas_13 : decode cX12_rowHas 13 = .ok (.getfield 9, 3) := by decide +kernel
theorem D_M_rowHas_16 : decode cX12_rowHas 16 = .ok (.iload_n 1, 1) := by decide +kernel
theorem D_M_rowHas_17 : decode cX12_rowHas 17 = .ok (.iload_n 3, 1) := by decide +kernel
theorem D_M_rowHas_18 : decode cX12_rowHas 18 = .ok (.iadd, 1) := by decide +kernel
theorem D_M_rowHas_19 : decode cX12_rowHas 19 = .ok (.iaload, 1) := by decide +kernel
theorem D_M_rowHas_20 : decode cX12_rowHas 20 = .ok (.iload_n 2, 1) := by decide +kernel
theorem D_M_rowHas_21 : decode cX12_rowHas 21 = .ok (.if_icmp .ne (5), 3) := by decide +kernel
theorem D_M_rowHas_24 : decode cX12_rowHas 24 = .ok (.iconst (1), 1) := by decide +kernel
theorem D_M_rowHas_25 : decode cX12_rowHas 25 = .ok (.ireturn, 1) := by decide +kernel
theorem D_M_rowHas_26 : decode cX12_rowHas 26 = .ok (.iinc 3 (1), 3) := by decide +kernel
theorem D_M_rowHas_29 : decode cX12_rowHas 29 = .ok (.goto (-27), 3) := by decide +kernel
theorem D_M_rowHas_32 : decode cX12_rowHas 32 = .ok (.iconst (0), 1) := by decide +kernel
theorem D_M_rowHas_33 : decode cX12_rowHas 33 = .ok (.ireturn, 1) := by decide +kernel
def K_M_rowHas : SC := (cX12_rowHas, "TwoLevelsModel", 4, 1, false, [], NoQ)
def d_M_rowHas : MD Int32 := mth zz 4 (sq (sq (sI1 3 (eC (nI 1)))
 (loop (eh2 c_le (lI 3) (eh2 (aI .int) (eh1 (gR 13 0) (lR 0)) (lI 1)))
 (sIf (eh2 c_eq (eh2 (aI .int) (eh1 (gR 13 0) (lR 0)) (eh2 iaddF (lI 1) (lI 3))) (lI 2)) (rtn (eC (nI 1))) sk)
 (sInc 3 (nI 1))))
 (rtn (eC (nI 0))))
theorem m_M_rowHas : MJ 1 [] yX12_rowHas (some .boolean) eI (d_M_rowHas) := MJ_of (K := K_M_rowHas) (ri := .ireturn) (n1 := 0) (n2 := 0) (n3 := 0)
 (SJ_sq (p0 := 0) (p1 := 32) (nN := 0) (nB := 0) (nC := 0) (SJ_sq (p0 := 0) (p1 := 2) (nN := 32) (nB := 0) (nC := 0) (SJ_istore_n (i := 3) (j := 3) (p0 := 0) (p1 := 1) (EJ_iconst (n := 1) (v := (nI 1)) (pc := 0) D_M_rowHas_0 (by decide +kernel)) D_M_rowHas_1 rfl)
 (SJ_loop (p0 := 2) (pB := 12) (pS := 26) (pE := 32) (CJ_le' (off := 23) (tgt := 32) (p0 := 2) (p1 := 3) (p2 := 9) (EJ_iload_n (j := 3) (i := 3) (pc := 2) D_M_rowHas_2 rfl) (EJ_iald (p0 := 3) (p1 := 7) (p2 := 8) (EJ_getR (t := 13) (c := 12) (kf := 0) (r := (RX12, TX12, 52)) (p0 := 3) (p1 := 4) (EJ_aload_n (j := 0) (i := 0) (pc := 3) D_M_rowHas_3 rfl) D_M_rowHas_4 ⟨rfl, rfl, by decide, q_932⟩ (fun _ _ => rfl)) (EJ_iload_n (j := 1) (i := 1) (pc := 7) D_M_rowHas_7 rfl) D_M_rowHas_8) D_M_rowHas_9 rfl)
 (SJ_if (p0 := 12) (pT := 24) (pF := 26) (nN := 26) (nB := 32) (nC := 26) (CJ_eq' (off := 5) (tgt := 26) (p0 := 12) (p1 := 20) (p2 := 21) (EJ_iald (p0 := 12) (p1 := 16) (p2 := 19) (EJ_getR (t := 13) (c := 12) (kf := 0) (r := (RX12, TX12, 52)) (p0 := 12) (p1 := 13) (EJ_aload_n (j := 0) (i := 0) (pc := 12) D_M_rowHas_12 rfl) D_M_rowHas_13 ⟨rfl, rfl, by decide, q_932⟩ (fun _ _ => rfl)) (EJ_iadd (p0 := 16) (p1 := 17) (p2 := 18) (EJ_iload_n (j := 1) (i := 1) (pc := 16) D_M_rowHas_16 rfl) (EJ_iload_n (j := 3) (i := 3) (pc := 17) D_M_rowHas_17 rfl) D_M_rowHas_18) D_M_rowHas_19) (EJ_iload_n (j := 2) (i := 2) (pc := 20) D_M_rowHas_20 rfl) D_M_rowHas_21 rfl) (SJ_ret (p0 := 24) (p1 := 25) (EJ_iconst (n := 1) (v := (nI 1)) (pc := 24) D_M_rowHas_24 (by decide +kernel)) D_M_rowHas_25) SJ_sk)
 (SJ_post (SJ_iinc (i := 3) (n := 1) (v := (nI 1)) (pc := 26) D_M_rowHas_26 (by decide +kernel)) (Lead.goto (K := K_M_rowHas) (pc := 29) (tgt := 2) D_M_rowHas_29 rfl))))
 (SJ_ret (p0 := 32) (p1 := 33) (EJ_iconst (n := 0) (v := (nI 0)) (pc := 32) D_M_rowHas_32 (by decide +kernel)) D_M_rowHas_33))
 RTm_bool q_1214 (by decide +kernel) rfl (fun h => by cases h) (show 4 ≤ 40 from by decide) (fun _ => trivial)
theorem D_M_assigned_0 : decode cX12_assigned 0 = .ok (.aload_n 0, 1) := by decide +kernel
theorem D_M_assigned_1 : decode cX12_assigned 1 = .ok (.iload_n 1, 1) := by decide +kernel
theorem D_M_assigned_2 : decode cX12_assigned 2 = .ok (.invokevirtual 217, 3) := by decide +kernel
theorem D_M_assigned_5 : decode cX12_assigned 5 = .ok (.ifCond .eq (34), 3) := by decide +kernel
theorem D_M_assigned_8 : decode cX12_assigned 8 = .ok (.iload_n 2, 1) := by decide +kernel
theorem D_M_assigned_9 : decode cX12_assigned 9 = .ok (.ifCond .lt (30), 3) := by decide +kernel
theorem D_M_assigned_12 : decode cX12_assigned 12 = .ok (.iload 4, 2) := by decide +kernel
theorem D_M_assigned_14 : decode cX12_assigned 14 = .ok (.iconst (-1), 1) := by decide +kernel
theorem D_M_assigned_15 : decode cX12_assigned 15 = .ok (.if_icmp .lt (24), 3) := by decide +kernel
theorem D_M_assigned_18 : decode cX12_assigned 18 = .ok (.aload_n 0, 1) := by decide +kernel
theorem D_M_assigned_19 : decode cX12_assigned 19 = .ok (.iload_n 3, 1) := by decide +kernel
theorem D_M_assigned_20 : decode cX12_assigned 20 = .ok (.invokevirtual 220, 3) := by decide +kernel
theorem D_M_assigned_23 : decode cX12_assigned 23 = .ok (.iconst (-1), 1) := by decide +kernel
theorem D_M_assigned_24 : decode cX12_assigned 24 = .ok (.if_icmp .eq (15), 3) := by decide +kernel
theorem D_M_assigned_27 : decode cX12_assigned 27 = .ok (.aload_n 0, 1) := by decide +kernel
theorem D_M_assigned_28 : decode cX12_assigned 28 = .ok (.iload_n 1, 1) := by decide +kernel
theorem D_M_assigned_29 : decode cX12_assigned 29 = .ok (.invokestatic 255, 3) := by decide +kernel
theorem D_M_assigned_32 : decode cX12_assigned 32 = .ok (.iload_n 3, 1) := by decide +kernel
theorem D_M_assigned_33 : decode cX12_assigned 33 = .ok (.invokevirtual 261, 3) := by decide +kernel
theorem D_M_assigned_36 : decode cX12_assigned 36 = .ok (.ifCond .ne (5), 3) := by decide +kernel
theorem D_M_assigned_39 : decode cX12_assigned 39 = .ok (.iconst (-1), 1) := by decide +kernel
theorem D_M_assigned_40 : decode cX12_assigned 40 = .ok (.ireturn, 1) := by decide +kernel
theorem D_M_assigned_41 : decode cX12_assigned 41 = .ok (.iload_n 2, 1) := by decide +kernel
theorem D_M_assigned_42 : decode cX12_assigned 42 = .ok (.aload_n 0, 1) := by decide +kernel
theorem D_M_assigned_43 : decode cX12_assigned 43 = .ok (.iload_n 1, 1) := by decide +kernel
theorem D_M_assigned_44 : decode cX12_assigned 44 = .ok (.iload_n 2, 1) := by decide +kernel
theorem D_M_assigned_45 : decode cX12_assigned 45 = .ok (.invokevirtual 317, 3) := by decide +kernel
theorem D_M_assigned_48 : decode cX12_assigned 48 = .ok (.if_icmp .lt (6), 3) := by decide +kernel
theorem D_M_assigned_51 : decode cX12_assigned 51 = .ok (.bipush (-2), 2) := by decide +kernel
theorem D_M_assigned_53 : decode cX12_assigned 53 = .ok (.ireturn, 1) := by decide +kernel
theorem D_M_assigned_54 : decode cX12_assigned 54 = .ok (.aload_n 0, 1) := by decide +kernel
theorem D_M_assigned_55 : decode cX12_assigned 55 = .ok (.iload_n 3, 1) := by decide +kernel
theorem D_M_assigned_56 : decode cX12_assigned 56 = .ok (.invokevirtual 220, 3) := by decide +kernel
theorem D_M_assigned_59 : decode cX12_assigned 59 = .ok (.istore 5, 2) := by decide +kernel
theorem D_M_assigned_61 : decode cX12_assigned 61 = .ok (.iload 4, 2) := by decide +kernel
theorem D_M_assigned_63 : decode cX12_assigned 63 = .ok (.iconst (-1), 1) := by decide +kernel
theorem D_M_assigned_64 : decode cX12_assigned 64 = .ok (.if_icmp .ne (11), 3) := by decide +kernel
theorem D_M_assigned_67 : decode cX12_assigned 67 = .ok (.aload_n 0, 1) := by decide +kernel
theorem D_M_assigned_68 : decode cX12_assigned 68 = .ok (.getfield 75, 3) := by decide +kernel
theorem D_M_assigned_71 : decode cX12_assigned 71 = .ok (.iload 5, 2) := by decide +kernel
theorem D_M_assigned_73 : decode cX12_assigned 73 = .ok (.iaload, 1) := by decide +kernel
theorem D_M_assigned_74 : decode cX12_assigned 74 = .ok (.ireturn, 1) := by decide +kernel
theorem D_M_assigned_75 : decode cX12_assigned 75 = .ok (.iload 4, 2) := by decide +kernel
theorem D_M_assigned_77 : decode cX12_assigned 77 = .ok (.aload_n 0, 1) := by decide +kernel
theorem D_M_assigned_78 : decode cX12_assigned 78 = .ok (.getfield 75, 3) := by decide +kernel
theorem D_M_assigned_81 : decode cX12_assigned 81 = .ok (.iload 5, 2) := by decide +kernel
theorem D_M_assigned_83 : decode cX12_assigned 83 = .ok (.iaload, 1) := by decide +kernel
theorem D_M_assigned_84 : decode cX12_assigned 84 = .ok (.if_icmp .ge (25), 3) := by decide +kernel
theorem D_M_assigned_87 : decode cX12_assigned 87 = .ok (.aload_n 0, 1) := by decide +kernel
theorem D_M_assigned_88 : decode cX12_assigned 88 = .ok (.getfield 9, 3) := by decide +kernel
theorem D_M_assigned_91 : decode cX12_assigned 91 = .ok (.sipush (1585), 3) := by decide +kernel
theorem D_M_assigned_94 : decode cX12_assigned 94 = .ok (.aload_n 0, 1) := by decide +kernel
theorem D_M_assigned_95 : decode cX12_assigned 95 = .ok (.getfield 72, 3) := by decide +kernel
theorem D_M_assigned_98 : decode cX12_assigned 98 = .ok (.iload 5, 2) := by decide +kernel
theorem D_M_assigned_100 : decode cX12_assigned 100 = .ok (.iaload, 1) := by decide +kernel
theorem D_M_assigned_101 : decode cX12_assigned 101 = .ok (.iadd, 1) := by decide +kernel
theorem D_M_assigned_102 : decode cX12_assigned 102 = .ok (.iload 4, 2) := by decide +kernel
theorem D_M_assigned_104 : decode cX12_assigned 104 = .ok (.iadd, 1) := by decide +kernel
theorem D_M_assigned_105 : decode cX12_assigned 105 = .ok (.iaload, 1) := by decide +kernel
theorem D_M_assigned_106 : decode cX12_assigned 106 = .ok (.goto (5), 3) := by decide +kernel
theorem D_M_assigned_109 : decode cX12_assigned 109 = .ok (.bipush (-2), 2) := by decide +kernel
theorem D_M_assigned_111 : decode cX12_assigned 111 = .ok (.ireturn, 1) := by decide +kernel
def K_M_assigned : SC := (cX12_assigned, "TwoLevelsModel", 6, 204, false, [13, 79, 80, 81, 88, 89, 90, 91], NoQ)
def d_M_assigned : MD Int32 := mth tt 6 (sq (sIf (cOr (cOr (cOr (cOr (cNot (eh1 z_ne (kV 13 d_M_isRule (lR 0) [vI (lI 1)]))) (eh1 z_lt (lI 2))) (eh2 c_lt (lI 4) (eC (-1)))) (eh2 c_eq (kV 13 d_M_metaOf (lR 0) [vI (lI 3)]) (eC (-1)))) (cNot (eh1 z_ne (kV 13 d_M_rowHas (lR 0) [vI (kS d_M_ruleAt [vI (lI 1)]), vI (lI 3)])))) (rtn (eC (-1))) sk)
 (sq (sIf (eh2 c_ge (lI 2) (kV 13 d_M_assignments (lR 0) [vI (lI 1), vI (lI 2)])) (rtn (eC (-2))) sk)
 (sq (sI1 5 (kV 13 d_M_metaOf (lR 0) [vI (lI 3)]))
 (sq (sIf (eh2 c_eq (lI 4) (eC (-1))) (rtn (eh2 (aI .int) (eh1 (gR 13 31) (lR 0)) (lI 5))) sk)
 (rtn (eIf (eh2 c_lt (lI 4) (eh2 (aI .int) (eh1 (gR 13 31) (lR 0)) (lI 5))) (eh2 (aI .int) (eh1 (gR 13 0) (lR 0)) (eh2 iaddF (eh2 iaddF (eC (nI 1585)) (eh2 (aI .int) (eh1 (gR 13 30) (lR 0)) (lI 5))) (lI 4))) (eC (-2))))))))
theorem m_M_assigned : MJ 204 [13, 79, 80, 81, 88, 89, 90, 91] yX12_assigned (some .int) eI (d_M_assigned) := MJ_of (K := K_M_assigned) (ri := .ireturn) (n1 := 0) (n2 := 0) (n3 := 0)
 (SJ_sq (p0 := 0) (p1 := 41) (nN := 0) (nB := 0) (nC := 0) (SJ_if (p0 := 0) (pT := 39) (pF := 41) (nN := 41) (nB := 0) (nC := 0) (CJ_or (p0 := 0) (pM := 27) (pT := 39) (pF := 41) (CJ_or (p0 := 0) (pM := 18) (pT := 39) (pF := 27) (CJ_or (p0 := 0) (pM := 12) (pT := 39) (pF := 18) (CJ_or (p0 := 0) (pM := 8) (pT := 39) (pF := 12) (CJ_not (p0 := 0) (pT := 39) (pF := 8) (CZ_ne' (off := 34) (tgt := 39) (p0 := 0) (p1 := 5) (EJ_callV (t := 13) (c := 12) (r := (RX12, TX12, 52)) (p0 := 0) (p1 := 1) (p2 := 2) (EJ_aload_n (j := 0) (i := 0) (pc := 0) D_M_assigned_0 rfl) (AJ_I (p0 := 1) (p1 := 2) (p2 := 2) (EJ_iload_n (j := 1) (i := 1) (pc := 1) D_M_assigned_1 rfl) AJ_nil) m_M_isRule E1_I D_M_assigned_2 rfl rfl rfl q_1150 q_1151 q_55 q_97 ⟨by decide +kernel, by decide +kernel, by decide +kernel⟩ (by decide) (show 2 + 1 ≤ 204 from by decide) (fun _ h => absurd h List.not_mem_nil)) D_M_assigned_5 rfl)) (CZ_lt (off := 30) (tgt := 39) (p0 := 8) (p1 := 9) (EJ_iload_n (j := 2) (i := 2) (pc := 8) D_M_assigned_8 rfl) D_M_assigned_9 rfl)) (CJ_lt (off := 24) (tgt := 39) (p0 := 12) (p1 := 14) (p2 := 15) (EJ_iload (i := 4) (pc := 12) D_M_assigned_12) (EJ_iconst (n := -1) (v := (-1)) (pc := 14) D_M_assigned_14 (by decide +kernel)) D_M_assigned_15 rfl)) (CJ_eq (off := 15) (tgt := 39) (p0 := 18) (p1 := 23) (p2 := 24) (EJ_callV (t := 13) (c := 12) (r := (RX12, TX12, 52)) (p0 := 18) (p1 := 19) (p2 := 20) (EJ_aload_n (j := 0) (i := 0) (pc := 18) D_M_assigned_18 rfl) (AJ_I (p0 := 19) (p1 := 20) (p2 := 20) (EJ_iload_n (j := 3) (i := 3) (pc := 19) D_M_assigned_19 rfl) AJ_nil) m_M_metaOf E1_I D_M_assigned_20 rfl rfl rfl q_1161 q_1162 q_56 q_97 ⟨by decide +kernel, by decide +kernel, by decide +kernel⟩ (by decide) (show 1 + 1 ≤ 204 from by decide) (fun _ h => absurd h List.not_mem_nil)) (EJ_iconst (n := -1) (v := (-1)) (pc := 23) D_M_assigned_23 (by decide +kernel)) D_M_assigned_24 rfl)) (CJ_not (p0 := 27) (pT := 39) (pF := 41) (CZ_ne (off := 5) (tgt := 41) (p0 := 27) (p1 := 36) (EJ_callV (t := 13) (c := 12) (r := (RX12, TX12, 52)) (p0 := 27) (p1 := 28) (p2 := 33) (EJ_aload_n (j := 0) (i := 0) (pc := 27) D_M_assigned_27 rfl) (AJ_I (p0 := 28) (p1 := 32) (p2 := 33) (EJ_callS (p0 := 28) (p1 := 29) (AJ_I (p0 := 28) (p1 := 29) (p2 := 29) (EJ_iload_n (j := 1) (i := 1) (pc := 28) D_M_assigned_28 rfl) AJ_nil) m_M_ruleAt E1_I D_M_assigned_29 q_1209 q_1210 q_97 ⟨by decide +kernel, by decide +kernel, by decide +kernel⟩ (by decide) (show 1 + 1 ≤ 204 from by decide) (fun _ h => absurd h List.not_mem_nil)) (AJ_I (p0 := 32) (p1 := 33) (p2 := 33) (EJ_iload_n (j := 3) (i := 3) (pc := 32) D_M_assigned_32 rfl) AJ_nil)) m_M_rowHas E1_I D_M_assigned_33 rfl rfl rfl q_1212 q_1213 q_69 q_97 ⟨by decide +kernel, by decide +kernel, by decide +kernel⟩ (by decide) (show 1 + 1 ≤ 204 from by decide) (fun _ h => absurd h List.not_mem_nil)) D_M_assigned_36 rfl))) (SJ_ret (p0 := 39) (p1 := 40) (EJ_iconst (n := -1) (v := (-1)) (pc := 39) D_M_assigned_39 (by decide +kernel)) D_M_assigned_40) SJ_sk)
 (SJ_sq (p0 := 41) (p1 := 54) (nN := 0) (nB := 0) (nC := 0) (SJ_if (p0 := 41) (pT := 51) (pF := 54) (nN := 54) (nB := 0) (nC := 0) (CJ_ge' (off := 6) (tgt := 54) (p0 := 41) (p1 := 42) (p2 := 48) (EJ_iload_n (j := 2) (i := 2) (pc := 41) D_M_assigned_41 rfl) (EJ_callV (t := 13) (c := 12) (r := (RX12, TX12, 52)) (p0 := 42) (p1 := 43) (p2 := 45) (EJ_aload_n (j := 0) (i := 0) (pc := 42) D_M_assigned_42 rfl) (AJ_I (p0 := 43) (p1 := 44) (p2 := 45) (EJ_iload_n (j := 1) (i := 1) (pc := 43) D_M_assigned_43 rfl) (AJ_I (p0 := 44) (p1 := 45) (p2 := 45) (EJ_iload_n (j := 2) (i := 2) (pc := 44) D_M_assigned_44 rfl) AJ_nil)) m_M_assignments E1_I D_M_assigned_45 rfl rfl rfl q_1266 q_1267 q_74 q_97 ⟨by decide +kernel, by decide +kernel, by decide +kernel⟩ (by decide) (show 203 + 1 ≤ 204 from by decide) (show ∀ x_ ∈ ([13, 79, 80, 81, 88, 89, 90, 91] : List Nat), x_ ∈ ([13, 79, 80, 81, 88, 89, 90, 91] : List Nat) from by decide)) D_M_assigned_48 rfl) (SJ_ret (p0 := 51) (p1 := 53) (EJ_bipush (n := -2) (v := (-2)) (pc := 51) D_M_assigned_51 (by decide +kernel)) D_M_assigned_53) SJ_sk)
 (SJ_sq (p0 := 54) (p1 := 61) (nN := 0) (nB := 0) (nC := 0) (SJ_istore (i := 5) (p0 := 54) (p1 := 59) (EJ_callV (t := 13) (c := 12) (r := (RX12, TX12, 52)) (p0 := 54) (p1 := 55) (p2 := 56) (EJ_aload_n (j := 0) (i := 0) (pc := 54) D_M_assigned_54 rfl) (AJ_I (p0 := 55) (p1 := 56) (p2 := 56) (EJ_iload_n (j := 3) (i := 3) (pc := 55) D_M_assigned_55 rfl) AJ_nil) m_M_metaOf E1_I D_M_assigned_56 rfl rfl rfl q_1161 q_1162 q_56 q_97 ⟨by decide +kernel, by decide +kernel, by decide +kernel⟩ (by decide) (show 1 + 1 ≤ 204 from by decide) (fun _ h => absurd h List.not_mem_nil)) D_M_assigned_59)
 (SJ_sq (p0 := 61) (p1 := 75) (nN := 0) (nB := 0) (nC := 0) (SJ_if (p0 := 61) (pT := 67) (pF := 75) (nN := 75) (nB := 0) (nC := 0) (CJ_eq' (off := 11) (tgt := 75) (p0 := 61) (p1 := 63) (p2 := 64) (EJ_iload (i := 4) (pc := 61) D_M_assigned_61) (EJ_iconst (n := -1) (v := (-1)) (pc := 63) D_M_assigned_63 (by decide +kernel)) D_M_assigned_64 rfl) (SJ_ret (p0 := 67) (p1 := 74) (EJ_iald (p0 := 67) (p1 := 71) (p2 := 73) (EJ_getR (t := 13) (c := 12) (kf := 31) (r := (RX12, TX12, 52)) (p0 := 67) (p1 := 68) (EJ_aload_n (j := 0) (i := 0) (pc := 67) D_M_assigned_67 rfl) D_M_assigned_68 ⟨rfl, rfl, by decide, q_963⟩ (fun _ _ => rfl)) (EJ_iload (i := 5) (pc := 71) D_M_assigned_71) D_M_assigned_73) D_M_assigned_74) SJ_sk)
 (SJ_ret (p0 := 75) (p1 := 111) (EJ_if (p0 := 75) (pT := 87) (pF := 109) (pE := 106) (p1 := 111) (CJ_lt' (off := 25) (tgt := 109) (p0 := 75) (p1 := 77) (p2 := 84) (EJ_iload (i := 4) (pc := 75) D_M_assigned_75) (EJ_iald (p0 := 77) (p1 := 81) (p2 := 83) (EJ_getR (t := 13) (c := 12) (kf := 31) (r := (RX12, TX12, 52)) (p0 := 77) (p1 := 78) (EJ_aload_n (j := 0) (i := 0) (pc := 77) D_M_assigned_77 rfl) D_M_assigned_78 ⟨rfl, rfl, by decide, q_963⟩ (fun _ _ => rfl)) (EJ_iload (i := 5) (pc := 81) D_M_assigned_81) D_M_assigned_83) D_M_assigned_84 rfl) (EJ_iald (p0 := 87) (p1 := 91) (p2 := 105) (EJ_getR (t := 13) (c := 12) (kf := 0) (r := (RX12, TX12, 52)) (p0 := 87) (p1 := 88) (EJ_aload_n (j := 0) (i := 0) (pc := 87) D_M_assigned_87 rfl) D_M_assigned_88 ⟨rfl, rfl, by decide, q_932⟩ (fun _ _ => rfl)) (EJ_iadd (p0 := 91) (p1 := 102) (p2 := 104) (EJ_iadd (p0 := 91) (p1 := 94) (p2 := 101) (EJ_sipush (n := 1585) (v := (nI 1585)) (pc := 91) D_M_assigned_91 (by decide +kernel)) (EJ_iald (p0 := 94) (p1 := 98) (p2 := 100) (EJ_getR (t := 13) (c := 12) (kf := 30) (r := (RX12, TX12, 52)) (p0 := 94) (p1 := 95) (EJ_aload_n (j := 0) (i := 0) (pc := 94) D_M_assigned_94 rfl) D_M_assigned_95 ⟨rfl, rfl, by decide, q_962⟩ (fun _ _ => rfl)) (EJ_iload (i := 5) (pc := 98) D_M_assigned_98) D_M_assigned_100) D_M_assigned_101) (EJ_iload (i := 4) (pc := 102) D_M_assigned_102) D_M_assigned_104) D_M_assigned_105) (Lead.goto (K := K_M_assigned) (pc := 106) (tgt := 111) D_M_assigned_106 rfl) (EJ_bipush (n := -2) (v := (-2)) (pc := 109) D_M_assigned_109 (by decide +kernel))) D_M_assigned_111)))))
 RTm_int q_1281 (by decide +kernel) rfl (fun h => by cases h) (show 6 ≤ 40 from by decide) (fun _ => trivial)
theorem D_M_changes_0 : decode cX12_changes 0 = .ok (.aload_n 0, 1) := by decide +kernel
theorem D_M_changes_1 : decode cX12_changes 1 = .ok (.iconst (0), 1) := by decide +kernel
theorem D_M_changes_2 : decode cX12_changes 2 = .ok (.putfield 207, 3) := by decide +kernel
theorem D_M_changes_5 : decode cX12_changes 5 = .ok (.aload_n 0, 1) := by decide +kernel
theorem D_M_changes_6 : decode cX12_changes 6 = .ok (.iconst (0), 1) := by decide +kernel
theorem D_M_changes_7 : decode cX12_changes 7 = .ok (.putfield 211, 3) := by decide +kernel
theorem D_M_changes_10 : decode cX12_changes 10 = .ok (.return_, 1) := by decide +kernel
def K_M_changes : SC := (cX12_changes, "TwoLevelsModel", 1, 1, false, [13], NoQ)
def d_M_changes : MD Unit := mth tt 1 (sq (sh2 (pI true 13 18) (lR 0) (eC (nI 0)))
 (sq (sh2 (pI true 13 50) (lR 0) (eC (nI 0)))
 rtnU))
theorem m_M_changes : MJ 1 [13] yX12_changes none eU (d_M_changes) := MJ_of (K := K_M_changes) (ri := .return_) (n1 := 0) (n2 := 0) (n3 := 0)
 (SJ_sq (p0 := 0) (p1 := 5) (nN := 0) (nB := 0) (nC := 0) (SJ_putI (z := true) (t := 13) (c := 12) (kf := 18) (r := (RX12, TX12, 52)) (p0 := 0) (p1 := 1) (p2 := 2) (EJ_aload_n (j := 0) (i := 0) (pc := 0) D_M_changes_0 rfl) (EJ_iconst (n := 0) (v := (nI 0)) (pc := 1) D_M_changes_1 (by decide +kernel)) D_M_changes_2 ⟨rfl, rfl, by decide, q_950⟩ (Or.inl rfl) (okZ_bool rfl) (fun _ _ => rfl) (show (13 : Nat) ∈ ([13] : List Nat) from by decide))
 (SJ_sq (p0 := 5) (p1 := 10) (nN := 0) (nB := 0) (nC := 0) (SJ_putI (z := true) (t := 13) (c := 12) (kf := 50) (r := (RX12, TX12, 52)) (p0 := 5) (p1 := 6) (p2 := 7) (EJ_aload_n (j := 0) (i := 0) (pc := 5) D_M_changes_5 rfl) (EJ_iconst (n := 0) (v := (nI 0)) (pc := 6) D_M_changes_6 (by decide +kernel)) D_M_changes_7 ⟨rfl, rfl, by decide, q_982⟩ (Or.inl rfl) (okZ_bool rfl) (fun _ _ => rfl) (show (13 : Nat) ∈ ([13] : List Nat) from by decide))
 (SJ_retU (pc := 10) D_M_changes_10)))
 RTm_void q_1115 (by decide +kernel) rfl (fun h => by cases h) (show 1 ≤ 40 from by decide) (fun _ => trivial)
theorem D_M_moves_0 : decode cX12_moves 0 = .ok (.iconst (0), 1) := by decide +kernel
theorem D_M_moves_1 : decode cX12_moves 1 = .ok (.istore 5, 2) := by decide +kernel
theorem D_M_moves_3 : decode cX12_moves 3 = .ok (.iload 5, 2) := by decide +kernel
theorem D_M_moves_5 : decode cX12_moves 5 = .ok (.iload 4, 2) := by decide +kernel
theorem D_M_moves_7 : decode cX12_moves 7 = .ok (.if_icmp .ge (21), 3) := by decide +kernel
theorem D_M_moves_10 : decode cX12_moves 10 = .ok (.aload_n 2, 1) := by decide +kernel
theorem D_M_moves_11 : decode cX12_moves 11 = .ok (.iload_n 3, 1) := by decide +kernel
theorem D_M_moves_12 : decode cX12_moves 12 = .ok (.iload 5, 2) := by decide +kernel
theorem D_M_moves_14 : decode cX12_moves 14 = .ok (.iadd, 1) := by decide +kernel
theorem D_M_moves_15 : decode cX12_moves 15 = .ok (.aload_n 0, 1) := by decide +kernel
theorem D_M_moves_16 : decode cX12_moves 16 = .ok (.iload_n 1, 1) := by decide +kernel
theorem D_M_moves_17 : decode cX12_moves 17 = .ok (.iload 5, 2) := by decide +kernel
theorem D_M_moves_19 : decode cX12_moves 19 = .ok (.iadd, 1) := by decide +kernel
theorem D_M_moves_20 : decode cX12_moves 20 = .ok (.iaload, 1) := by decide +kernel
theorem D_M_moves_21 : decode cX12_moves 21 = .ok (.iastore, 1) := by decide +kernel
theorem D_M_moves_22 : decode cX12_moves 22 = .ok (.iinc 5 (1), 3) := by decide +kernel
theorem D_M_moves_25 : decode cX12_moves 25 = .ok (.goto (-22), 3) := by decide +kernel
theorem D_M_moves_28 : decode cX12_moves 28 = .ok (.return_, 1) := by decide +kernel
def K_M_moves : SC := (cX12_moves, "TwoLevelsModel", 6, 1, false, [70, 71, 72, 73], NoQ)
def d_M_moves : MD Unit := mth tt 6 (sq (sq (sI1 5 (eC (nI 0)))
 (loop (eh2 c_lt (lI 5) (lI 4))
 (sh3 (stI [70, 71, 72, 73]) (lR 2) (eh2 iaddF (lI 3) (lI 5)) (eh2 (aI .int) (lR 0) (eh2 iaddF (lI 1) (lI 5))))
 (sInc 5 (nI 1))))
 rtnU)
theorem m_M_moves : MJ 1 [70, 71, 72, 73] yX12_moves none eU (d_M_moves) := MJ_of (K := K_M_moves) (ri := .return_) (n1 := 0) (n2 := 0) (n3 := 0)
 (SJ_sq (p0 := 0) (p1 := 28) (nN := 0) (nB := 0) (nC := 0) (SJ_sq (p0 := 0) (p1 := 3) (nN := 28) (nB := 0) (nC := 0) (SJ_istore (i := 5) (p0 := 0) (p1 := 1) (EJ_iconst (n := 0) (v := (nI 0)) (pc := 0) D_M_moves_0 (by decide +kernel)) D_M_moves_1)
 (SJ_loop (p0 := 3) (pB := 10) (pS := 22) (pE := 28) (CJ_lt' (off := 21) (tgt := 28) (p0 := 3) (p1 := 5) (p2 := 7) (EJ_iload (i := 5) (pc := 3) D_M_moves_3) (EJ_iload (i := 4) (pc := 5) D_M_moves_5) D_M_moves_7 rfl)
 (SJ_iast (ws := [70, 71, 72, 73]) (p0 := 10) (p1 := 11) (p2 := 15) (p3 := 21) (EJ_aload_n (j := 2) (i := 2) (pc := 10) D_M_moves_10 rfl) (EJ_iadd (p0 := 11) (p1 := 12) (p2 := 14) (EJ_iload_n (j := 3) (i := 3) (pc := 11) D_M_moves_11 rfl) (EJ_iload (i := 5) (pc := 12) D_M_moves_12) D_M_moves_14) (EJ_iald (p0 := 15) (p1 := 16) (p2 := 20) (EJ_aload_n (j := 0) (i := 0) (pc := 15) D_M_moves_15 rfl) (EJ_iadd (p0 := 16) (p1 := 17) (p2 := 19) (EJ_iload_n (j := 1) (i := 1) (pc := 16) D_M_moves_16 rfl) (EJ_iload (i := 5) (pc := 17) D_M_moves_17) D_M_moves_19) D_M_moves_20) D_M_moves_21 (show ∀ x_ ∈ ([70, 71, 72, 73] : List Nat), x_ ∈ ([70, 71, 72, 73] : List Nat) from by decide))
 (SJ_post (SJ_iinc (i := 5) (n := 1) (v := (nI 1)) (pc := 22) D_M_moves_22 (by decide +kernel)) (Lead.goto (K := K_M_moves) (pc := 25) (tgt := 3) D_M_moves_25 rfl))))
 (SJ_retU (pc := 28) D_M_moves_28))
 RTm_void q_1100 (by decide +kernel) rfl (fun h => by cases h) (show 6 ≤ 40 from by decide) (fun _ => trivial)
theorem D_M_back_0 : decode cX12_back 0 = .ok (.iload_n 1, 1) := by decide +kernel
theorem D_M_back_1 : decode cX12_back 1 = .ok (.iconst (0), 1) := by decide +kernel
theorem D_M_back_2 : decode cX12_back 2 = .ok (.iconst (1), 1) := by decide +kernel
theorem D_M_back_3 : decode cX12_back 3 = .ok (.invokestatic 108, 3) := by decide +kernel
theorem D_M_back_6 : decode cX12_back 6 = .ok (.ifCond .ne (5), 3) := by decide +kernel
theorem D_M_back_9 : decode cX12_back 9 = .ok (.iconst (-1), 1) := by decide +kernel
theorem D_M_back_10 : decode cX12_back 10 = .ok (.ireturn, 1) := by decide +kernel
theorem D_M_back_11 : decode cX12_back 11 = .ok (.aload_n 0, 1) := by decide +kernel
theorem D_M_back_12 : decode cX12_back 12 = .ok (.getfield 22, 3) := by decide +kernel
theorem D_M_back_15 : decode cX12_back 15 = .ok (.iload_n 1, 1) := by decide +kernel
theorem D_M_back_16 : decode cX12_back 16 = .ok (.baload, 1) := by decide +kernel
theorem D_M_back_17 : decode cX12_back 17 = .ok (.ifCond .ne (6), 3) := by decide +kernel
theorem D_M_back_20 : decode cX12_back 20 = .ok (.bipush (-2), 2) := by decide +kernel
theorem D_M_back_22 : decode cX12_back 22 = .ok (.ireturn, 1) := by decide +kernel
theorem D_M_back_23 : decode cX12_back 23 = .ok (.aload_n 0, 1) := by decide +kernel
theorem D_M_back_24 : decode cX12_back 24 = .ok (.getfield 19, 3) := by decide +kernel
theorem D_M_back_27 : decode cX12_back 27 = .ok (.sipush (1684), 3) := by decide +kernel
theorem D_M_back_30 : decode cX12_back 30 = .ok (.iload_n 1, 1) := by decide +kernel
theorem D_M_back_31 : decode cX12_back 31 = .ok (.imul, 1) := by decide +kernel
theorem D_M_back_32 : decode cX12_back 32 = .ok (.aload_n 0, 1) := by decide +kernel
theorem D_M_back_33 : decode cX12_back 33 = .ok (.getfield 9, 3) := by decide +kernel
theorem D_M_back_36 : decode cX12_back 36 = .ok (.iconst (0), 1) := by decide +kernel
theorem D_M_back_37 : decode cX12_back 37 = .ok (.sipush (1684), 3) := by decide +kernel
theorem D_M_back_40 : decode cX12_back 40 = .ok (.invokestatic 179, 3) := by decide +kernel
theorem D_M_back_43 : decode cX12_back 43 = .ok (.aload_n 0, 1) := by decide +kernel
theorem D_M_back_44 : decode cX12_back 44 = .ok (.iconst (0), 1) := by decide +kernel
theorem D_M_back_45 : decode cX12_back 45 = .ok (.putfield 198, 3) := by decide +kernel
theorem D_M_back_48 : decode cX12_back 48 = .ok (.aload_n 0, 1) := by decide +kernel
theorem D_M_back_49 : decode cX12_back 49 = .ok (.invokevirtual 201, 3) := by decide +kernel
theorem D_M_back_52 : decode cX12_back 52 = .ok (.aload_n 0, 1) := by decide +kernel
theorem D_M_back_53 : decode cX12_back 53 = .ok (.getfield 9, 3) := by decide +kernel
theorem D_M_back_56 : decode cX12_back 56 = .ok (.iconst (1), 1) := by decide +kernel
theorem D_M_back_57 : decode cX12_back 57 = .ok (.iaload, 1) := by decide +kernel
theorem D_M_back_58 : decode cX12_back 58 = .ok (.ireturn, 1) := by decide +kernel
def K_M_back : SC := (cX12_back, "TwoLevelsModel", 2, 2, false, [13, 70, 71, 72, 73], NoQ)
def d_M_back : MD Int32 := mth tt 2 (sq (sIf (cNot (eh1 z_ne (kS d_M_in [vI (lI 1), vI (eC (nI 0)), vI (eC (nI 1))]))) (rtn (eC (-1))) sk)
 (sq (sIf (cNot (eh1 z_ne (eh2 (aI .boolean) (eh1 (gR 13 4) (lR 0)) (lI 1)))) (rtn (eC (-2))) sk)
 (sq (sE (kS d_M_moves [vR (eh1 (gR 13 3) (lR 0)), vI (eh2 imulF (eC (nI 1684)) (lI 1)), vR (eh1 (gR 13 0) (lR 0)), vI (eC (nI 0)), vI (eC (nI 1684))]))
 (sq (sh2 (pI false 13 5) (lR 0) (eC (nI 0)))
 (sq (sE (kV 13 d_M_changes (lR 0) []))
 (rtn (eh2 (aI .int) (eh1 (gR 13 0) (lR 0)) (eC (nI 1)))))))))
theorem m_M_back : MJ 2 [13, 70, 71, 72, 73] yX12_back (some .int) eI (d_M_back) := MJ_of (K := K_M_back) (ri := .ireturn) (n1 := 0) (n2 := 0) (n3 := 0)
 (SJ_sq (p0 := 0) (p1 := 11) (nN := 0) (nB := 0) (nC := 0) (SJ_if (p0 := 0) (pT := 9) (pF := 11) (nN := 11) (nB := 0) (nC := 0) (CJ_not (p0 := 0) (pT := 9) (pF := 11) (CZ_ne (off := 5) (tgt := 11) (p0 := 0) (p1 := 6) (EJ_callS (p0 := 0) (p1 := 3) (AJ_I (p0 := 0) (p1 := 1) (p2 := 3) (EJ_iload_n (j := 1) (i := 1) (pc := 0) D_M_back_0 rfl) (AJ_I (p0 := 1) (p1 := 2) (p2 := 3) (EJ_iconst (n := 0) (v := (nI 0)) (pc := 1) D_M_back_1 (by decide +kernel)) (AJ_I (p0 := 2) (p1 := 3) (p2 := 3) (EJ_iconst (n := 1) (v := (nI 1)) (pc := 2) D_M_back_2 (by decide +kernel)) AJ_nil))) m_M_in E1_I D_M_back_3 q_1071 q_1072 q_97 ⟨by decide +kernel, by decide +kernel, by decide +kernel⟩ (by decide) (show 1 + 1 ≤ 2 from by decide) (fun _ h => absurd h List.not_mem_nil)) D_M_back_6 rfl)) (SJ_ret (p0 := 9) (p1 := 10) (EJ_iconst (n := -1) (v := (-1)) (pc := 9) D_M_back_9 (by decide +kernel)) D_M_back_10) SJ_sk)
 (SJ_sq (p0 := 11) (p1 := 23) (nN := 0) (nB := 0) (nC := 0) (SJ_if (p0 := 11) (pT := 20) (pF := 23) (nN := 23) (nB := 0) (nC := 0) (CJ_not (p0 := 11) (pT := 20) (pF := 23) (CZ_ne (off := 6) (tgt := 23) (p0 := 11) (p1 := 17) (EJ_zald (p0 := 11) (p1 := 15) (p2 := 16) (EJ_getR (t := 13) (c := 12) (kf := 4) (r := (RX12, TX12, 52)) (p0 := 11) (p1 := 12) (EJ_aload_n (j := 0) (i := 0) (pc := 11) D_M_back_11 rfl) D_M_back_12 ⟨rfl, rfl, by decide, q_936⟩ (fun _ _ => rfl)) (EJ_iload_n (j := 1) (i := 1) (pc := 15) D_M_back_15 rfl) D_M_back_16) D_M_back_17 rfl)) (SJ_ret (p0 := 20) (p1 := 22) (EJ_bipush (n := -2) (v := (-2)) (pc := 20) D_M_back_20 (by decide +kernel)) D_M_back_22) SJ_sk)
 (SJ_sq (p0 := 23) (p1 := 43) (nN := 0) (nB := 0) (nC := 0) (SJ_void (p0 := 23) (p1 := 43) (EJ_callS (p0 := 23) (p1 := 40) (AJ_R (p0 := 23) (p1 := 27) (p2 := 40) (EJ_getR (t := 13) (c := 12) (kf := 3) (r := (RX12, TX12, 52)) (p0 := 23) (p1 := 24) (EJ_aload_n (j := 0) (i := 0) (pc := 23) D_M_back_23 rfl) D_M_back_24 ⟨rfl, rfl, by decide, q_935⟩ (fun _ _ => rfl)) (AJ_I (p0 := 27) (p1 := 32) (p2 := 40) (EJ_imul (p0 := 27) (p1 := 30) (p2 := 31) (EJ_sipush (n := 1684) (v := (nI 1684)) (pc := 27) D_M_back_27 (by decide +kernel)) (EJ_iload_n (j := 1) (i := 1) (pc := 30) D_M_back_30 rfl) D_M_back_31) (AJ_R (p0 := 32) (p1 := 36) (p2 := 40) (EJ_getR (t := 13) (c := 12) (kf := 0) (r := (RX12, TX12, 52)) (p0 := 32) (p1 := 33) (EJ_aload_n (j := 0) (i := 0) (pc := 32) D_M_back_32 rfl) D_M_back_33 ⟨rfl, rfl, by decide, q_932⟩ (fun _ _ => rfl)) (AJ_I (p0 := 36) (p1 := 37) (p2 := 40) (EJ_iconst (n := 0) (v := (nI 0)) (pc := 36) D_M_back_36 (by decide +kernel)) (AJ_I (p0 := 37) (p1 := 40) (p2 := 40) (EJ_sipush (n := 1684) (v := (nI 1684)) (pc := 37) D_M_back_37 (by decide +kernel)) AJ_nil))))) m_M_moves E1_U D_M_back_40 q_1098 q_1099 q_97 ⟨by decide +kernel, by decide +kernel, by decide +kernel⟩ (by decide) (show 1 + 1 ≤ 2 from by decide) (show ∀ x_ ∈ ([70, 71, 72, 73] : List Nat), x_ ∈ ([13, 70, 71, 72, 73] : List Nat) from by decide)))
 (SJ_sq (p0 := 43) (p1 := 48) (nN := 0) (nB := 0) (nC := 0) (SJ_putI (z := false) (t := 13) (c := 12) (kf := 5) (r := (RX12, TX12, 52)) (p0 := 43) (p1 := 44) (p2 := 45) (EJ_aload_n (j := 0) (i := 0) (pc := 43) D_M_back_43 rfl) (EJ_iconst (n := 0) (v := (nI 0)) (pc := 44) D_M_back_44 (by decide +kernel)) D_M_back_45 ⟨rfl, rfl, by decide, q_937⟩ (Or.inl rfl) (fun _ _ => ⟨rfl, rfl⟩) (fun _ _ => rfl) (show (13 : Nat) ∈ ([13, 70, 71, 72, 73] : List Nat) from by decide))
 (SJ_sq (p0 := 48) (p1 := 52) (nN := 0) (nB := 0) (nC := 0) (SJ_void (p0 := 48) (p1 := 52) (EJ_callV (t := 13) (c := 12) (r := (RX12, TX12, 52)) (p0 := 48) (p1 := 49) (p2 := 49) (EJ_aload_n (j := 0) (i := 0) (pc := 48) D_M_back_48 rfl) AJ_nil m_M_changes E1_U D_M_back_49 rfl rfl rfl q_1113 q_1114 q_52 q_97 ⟨by decide +kernel, by decide +kernel, by decide +kernel⟩ (by decide) (show 1 + 1 ≤ 2 from by decide) (show ∀ x_ ∈ ([13] : List Nat), x_ ∈ ([13, 70, 71, 72, 73] : List Nat) from by decide)))
 (SJ_ret (p0 := 52) (p1 := 58) (EJ_iald (p0 := 52) (p1 := 56) (p2 := 57) (EJ_getR (t := 13) (c := 12) (kf := 0) (r := (RX12, TX12, 52)) (p0 := 52) (p1 := 53) (EJ_aload_n (j := 0) (i := 0) (pc := 52) D_M_back_52 rfl) D_M_back_53 ⟨rfl, rfl, by decide, q_932⟩ (fun _ _ => rfl)) (EJ_iconst (n := 1) (v := (nI 1)) (pc := 56) D_M_back_56 (by decide +kernel)) D_M_back_57) D_M_back_58))))))
 RTm_int q_1138 (by decide +kernel) rfl (fun h => by cases h) (show 2 ≤ 40 from by decide) (fun _ => trivial)
theorem D_M_blind_0 : decode cX12_blind 0 = .ok (.iconst (0), 1) := by decide +kernel
theorem D_M_blind_1 : decode cX12_blind 1 = .ok (.istore_n 1, 1) := by decide +kernel
theorem D_M_blind_2 : decode cX12_blind 2 = .ok (.iconst (0), 1) := by decide +kernel
theorem D_M_blind_3 : decode cX12_blind 3 = .ok (.istore_n 2, 1) := by decide +kernel
theorem D_M_blind_4 : decode cX12_blind 4 = .ok (.iload_n 2, 1) := by decide +kernel
theorem D_M_blind_5 : decode cX12_blind 5 = .ok (.aload_n 0, 1) := by decide +kernel
theorem D_M_blind_6 : decode cX12_blind 6 = .ok (.getfield 9, 3) := by decide +kernel
theorem D_M_blind_9 : decode cX12_blind 9 = .ok (.iconst (1), 1) := by decide +kernel
theorem D_M_blind_10 : decode cX12_blind 10 = .ok (.iaload, 1) := by decide +kernel
theorem D_M_blind_11 : decode cX12_blind 11 = .ok (.if_icmp .ge (28), 3) := by decide +kernel
theorem D_M_blind_14 : decode cX12_blind 14 = .ok (.iload_n 1, 1) := by decide +kernel
theorem D_M_blind_15 : decode cX12_blind 15 = .ok (.aload_n 0, 1) := by decide +kernel
theorem D_M_blind_16 : decode cX12_blind 16 = .ok (.iload_n 2, 1) := by decide +kernel
theorem D_M_blind_17 : decode cX12_blind 17 = .ok (.iconst (-1), 1) := by decide +kernel
theorem D_M_blind_18 : decode cX12_blind 18 = .ok (.invokevirtual 317, 3) := by decide +kernel
theorem D_M_blind_21 : decode cX12_blind 21 = .ok (.ifCond .le (9), 3) := by decide +kernel
theorem D_M_blind_24 : decode cX12_blind 24 = .ok (.iconst (1), 1) := by decide +kernel
theorem D_M_blind_25 : decode cX12_blind 25 = .ok (.iload_n 2, 1) := by decide +kernel
theorem D_M_blind_26 : decode cX12_blind 26 = .ok (.ishl, 1) := by decide +kernel
theorem D_M_blind_27 : decode cX12_blind 27 = .ok (.goto (4), 3) := by decide +kernel
theorem D_M_blind_30 : decode cX12_blind 30 = .ok (.iconst (0), 1) := by decide +kernel
theorem D_M_blind_31 : decode cX12_blind 31 = .ok (.ior, 1) := by decide +kernel
theorem D_M_blind_32 : decode cX12_blind 32 = .ok (.istore_n 1, 1) := by decide +kernel
theorem D_M_blind_33 : decode cX12_blind 33 = .ok (.iinc 2 (1), 3) := by decide +kernel
theorem D_M_blind_36 : decode cX12_blind 36 = .ok (.goto (-32), 3) := by decide +kernel
theorem D_M_blind_39 : decode cX12_blind 39 = .ok (.iload_n 1, 1) := by decide +kernel
theorem D_M_blind_40 : decode cX12_blind 40 = .ok (.ireturn, 1) := by decide +kernel
def K_M_blind : SC := (cX12_blind, "TwoLevelsModel", 3, 204, false, [13, 79, 80, 81, 88, 89, 90, 91], NoQ)
def d_M_blind : MD Int32 := mth tt 3 (sq (sI1 1 (eC (nI 0)))
 (sq (sq (sI1 2 (eC (nI 0)))
 (loop (eh2 c_lt (lI 2) (eh2 (aI .int) (eh1 (gR 13 0) (lR 0)) (eC (nI 1))))
 (sI1 1 (eh2 iorF (lI 1) (eIf (eh1 z_gt (kV 13 d_M_assignments (lR 0) [vI (lI 2), vI (eC (-1))])) (eh2 ishlF (eC (nI 1)) (lI 2)) (eC (nI 0)))))
 (sInc 2 (nI 1))))
 (rtn (lI 1))))
theorem m_M_blind : MJ 204 [13, 79, 80, 81, 88, 89, 90, 91] yX12_blind (some .int) eI (d_M_blind) := MJ_of (K := K_M_blind) (ri := .ireturn) (n1 := 0) (n2 := 0) (n3 := 0)
 (SJ_sq (p0 := 0) (p1 := 2) (nN := 0) (nB := 0) (nC := 0) (SJ_istore_n (i := 1) (j := 1) (p0 := 0) (p1 := 1) (EJ_iconst (n := 0) (v := (nI 0)) (pc := 0) D_M_blind_0 (by decide +kernel)) D_M_blind_1 rfl)
 (SJ_sq (p0 := 2) (p1 := 39) (nN := 0) (nB := 0) (nC := 0) (SJ_sq (p0 := 2) (p1 := 4) (nN := 39) (nB := 0) (nC := 0) (SJ_istore_n (i := 2) (j := 2) (p0 := 2) (p1 := 3) (EJ_iconst (n := 0) (v := (nI 0)) (pc := 2) D_M_blind_2 (by decide +kernel)) D_M_blind_3 rfl)
 (SJ_loop (p0 := 4) (pB := 14) (pS := 33) (pE := 39) (CJ_lt' (off := 28) (tgt := 39) (p0 := 4) (p1 := 5) (p2 := 11) (EJ_iload_n (j := 2) (i := 2) (pc := 4) D_M_blind_4 rfl) (EJ_iald (p0 := 5) (p1 := 9) (p2 := 10) (EJ_getR (t := 13) (c := 12) (kf := 0) (r := (RX12, TX12, 52)) (p0 := 5) (p1 := 6) (EJ_aload_n (j := 0) (i := 0) (pc := 5) D_M_blind_5 rfl) D_M_blind_6 ⟨rfl, rfl, by decide, q_932⟩ (fun _ _ => rfl)) (EJ_iconst (n := 1) (v := (nI 1)) (pc := 9) D_M_blind_9 (by decide +kernel)) D_M_blind_10) D_M_blind_11 rfl)
 (SJ_istore_n (i := 1) (j := 1) (p0 := 14) (p1 := 32) (EJ_ior (p0 := 14) (p1 := 15) (p2 := 31) (EJ_iload_n (j := 1) (i := 1) (pc := 14) D_M_blind_14 rfl) (EJ_if (p0 := 15) (pT := 24) (pF := 30) (pE := 27) (p1 := 31) (CZ_gt' (off := 9) (tgt := 30) (p0 := 15) (p1 := 21) (EJ_callV (t := 13) (c := 12) (r := (RX12, TX12, 52)) (p0 := 15) (p1 := 16) (p2 := 18) (EJ_aload_n (j := 0) (i := 0) (pc := 15) D_M_blind_15 rfl) (AJ_I (p0 := 16) (p1 := 17) (p2 := 18) (EJ_iload_n (j := 2) (i := 2) (pc := 16) D_M_blind_16 rfl) (AJ_I (p0 := 17) (p1 := 18) (p2 := 18) (EJ_iconst (n := -1) (v := (-1)) (pc := 17) D_M_blind_17 (by decide +kernel)) AJ_nil)) m_M_assignments E1_I D_M_blind_18 rfl rfl rfl q_1266 q_1267 q_74 q_97 ⟨by decide +kernel, by decide +kernel, by decide +kernel⟩ (by decide) (show 203 + 1 ≤ 204 from by decide) (show ∀ x_ ∈ ([13, 79, 80, 81, 88, 89, 90, 91] : List Nat), x_ ∈ ([13, 79, 80, 81, 88, 89, 90, 91] : List Nat) from by decide)) D_M_blind_21 rfl) (EJ_ishl (p0 := 24) (p1 := 25) (p2 := 26) (EJ_iconst (n := 1) (v := (nI 1)) (pc := 24) D_M_blind_24 (by decide +kernel)) (EJ_iload_n (j := 2) (i := 2) (pc := 25) D_M_blind_25 rfl) D_M_blind_26) (Lead.goto (K := K_M_blind) (pc := 27) (tgt := 31) D_M_blind_27 rfl) (EJ_iconst (n := 0) (v := (nI 0)) (pc := 30) D_M_blind_30 (by decide +kernel))) D_M_blind_31) D_M_blind_32 rfl)
 (SJ_post (SJ_iinc (i := 2) (n := 1) (v := (nI 1)) (pc := 33) D_M_blind_33 (by decide +kernel)) (Lead.goto (K := K_M_blind) (pc := 36) (tgt := 4) D_M_blind_36 rfl))))
 (SJ_ret (p0 := 39) (p1 := 40) (EJ_iload_n (j := 1) (i := 1) (pc := 39) D_M_blind_39 rfl) D_M_blind_40)))
 RTm_int q_1285 (by decide +kernel) rfl (fun h => by cases h) (show 3 ≤ 40 from by decide) (fun _ => trivial)
theorem D_M_laysNode_0 : decode cX12_laysNode 0 = .ok (.bipush (12), 2) := by decide +kernel
theorem D_M_laysNode_2 : decode cX12_laysNode 2 = .ok (.aload_n 0, 1) := by decide +kernel
theorem D_M_laysNode_3 : decode cX12_laysNode 3 = .ok (.getfield 320, 3) := by decide +kernel
theorem D_M_laysNode_6 : decode cX12_laysNode 6 = .ok (.imul, 1) := by decide +kernel
theorem D_M_laysNode_7 : decode cX12_laysNode 7 = .ok (.istore_n 2, 1) := by decide +kernel
theorem D_M_laysNode_8 : decode cX12_laysNode 8 = .ok (.aload_n 0, 1) := by decide +kernel
theorem D_M_laysNode_9 : decode cX12_laysNode 9 = .ok (.getfield 99, 3) := by decide +kernel
theorem D_M_laysNode_12 : decode cX12_laysNode 12 = .ok (.iload_n 2, 1) := by decide +kernel
theorem D_M_laysNode_13 : decode cX12_laysNode 13 = .ok (.iconst (3), 1) := by decide +kernel
theorem D_M_laysNode_14 : decode cX12_laysNode 14 = .ok (.iadd, 1) := by decide +kernel
theorem D_M_laysNode_15 : decode cX12_laysNode 15 = .ok (.aload_n 0, 1) := by decide +kernel
theorem D_M_laysNode_16 : decode cX12_laysNode 16 = .ok (.getfield 78, 3) := by decide +kernel
theorem D_M_laysNode_19 : decode cX12_laysNode 19 = .ok (.iload_n 1, 1) := by decide +kernel
theorem D_M_laysNode_20 : decode cX12_laysNode 20 = .ok (.iaload, 1) := by decide +kernel
theorem D_M_laysNode_21 : decode cX12_laysNode 21 = .ok (.iastore, 1) := by decide +kernel
theorem D_M_laysNode_22 : decode cX12_laysNode 22 = .ok (.aload_n 0, 1) := by decide +kernel
theorem D_M_laysNode_23 : decode cX12_laysNode 23 = .ok (.getfield 99, 3) := by decide +kernel
theorem D_M_laysNode_26 : decode cX12_laysNode 26 = .ok (.iload_n 2, 1) := by decide +kernel
theorem D_M_laysNode_27 : decode cX12_laysNode 27 = .ok (.iconst (4), 1) := by decide +kernel
theorem D_M_laysNode_28 : decode cX12_laysNode 28 = .ok (.iadd, 1) := by decide +kernel
theorem D_M_laysNode_29 : decode cX12_laysNode 29 = .ok (.aload_n 0, 1) := by decide +kernel
theorem D_M_laysNode_30 : decode cX12_laysNode 30 = .ok (.getfield 81, 3) := by decide +kernel
theorem D_M_laysNode_33 : decode cX12_laysNode 33 = .ok (.iload_n 1, 1) := by decide +kernel
theorem D_M_laysNode_34 : decode cX12_laysNode 34 = .ok (.iaload, 1) := by decide +kernel
theorem D_M_laysNode_35 : decode cX12_laysNode 35 = .ok (.aload_n 0, 1) := by decide +kernel
theorem D_M_laysNode_36 : decode cX12_laysNode 36 = .ok (.getfield 78, 3) := by decide +kernel
theorem D_M_laysNode_39 : decode cX12_laysNode 39 = .ok (.iload_n 1, 1) := by decide +kernel
theorem D_M_laysNode_40 : decode cX12_laysNode 40 = .ok (.iaload, 1) := by decide +kernel
theorem D_M_laysNode_41 : decode cX12_laysNode 41 = .ok (.isub, 1) := by decide +kernel
theorem D_M_laysNode_42 : decode cX12_laysNode 42 = .ok (.iastore, 1) := by decide +kernel
theorem D_M_laysNode_43 : decode cX12_laysNode 43 = .ok (.aload_n 0, 1) := by decide +kernel
theorem D_M_laysNode_44 : decode cX12_laysNode 44 = .ok (.getfield 99, 3) := by decide +kernel
theorem D_M_laysNode_47 : decode cX12_laysNode 47 = .ok (.iload_n 2, 1) := by decide +kernel
theorem D_M_laysNode_48 : decode cX12_laysNode 48 = .ok (.iconst (5), 1) := by decide +kernel
theorem D_M_laysNode_49 : decode cX12_laysNode 49 = .ok (.iadd, 1) := by decide +kernel
theorem D_M_laysNode_50 : decode cX12_laysNode 50 = .ok (.iload_n 1, 1) := by decide +kernel
theorem D_M_laysNode_51 : decode cX12_laysNode 51 = .ok (.ifCond .ne (7), 3) := by decide +kernel
theorem D_M_laysNode_54 : decode cX12_laysNode 54 = .ok (.iconst (-1), 1) := by decide +kernel
theorem D_M_laysNode_55 : decode cX12_laysNode 55 = .ok (.goto (11), 3) := by decide +kernel
theorem D_M_laysNode_58 : decode cX12_laysNode 58 = .ok (.aload_n 0, 1) := by decide +kernel
theorem D_M_laysNode_59 : decode cX12_laysNode 59 = .ok (.getfield 90, 3) := by decide +kernel
theorem D_M_laysNode_62 : decode cX12_laysNode 62 = .ok (.iload_n 1, 1) := by decide +kernel
theorem D_M_laysNode_63 : decode cX12_laysNode 63 = .ok (.iconst (1), 1) := by decide +kernel
theorem D_M_laysNode_64 : decode cX12_laysNode 64 = .ok (.isub, 1) := by decide +kernel
theorem D_M_laysNode_65 : decode cX12_laysNode 65 = .ok (.iaload, 1) := by decide +kernel
theorem D_M_laysNode_66 : decode cX12_laysNode 66 = .ok (.iastore, 1) := by decide +kernel
theorem D_M_laysNode_67 : decode cX12_laysNode 67 = .ok (.aload_n 0, 1) := by decide +kernel
theorem D_M_laysNode_68 : decode cX12_laysNode 68 = .ok (.getfield 99, 3) := by decide +kernel
theorem D_M_laysNode_71 : decode cX12_laysNode 71 = .ok (.iload_n 2, 1) := by decide +kernel
theorem D_M_laysNode_72 : decode cX12_laysNode 72 = .ok (.bipush (6), 2) := by decide +kernel
theorem D_M_laysNode_74 : decode cX12_laysNode 74 = .ok (.iadd, 1) := by decide +kernel
theorem D_M_laysNode_75 : decode cX12_laysNode 75 = .ok (.aload_n 0, 1) := by decide +kernel
theorem D_M_laysNode_76 : decode cX12_laysNode 76 = .ok (.getfield 42, 3) := by decide +kernel
theorem D_M_laysNode_79 : decode cX12_laysNode 79 = .ok (.iload_n 1, 1) := by decide +kernel
theorem D_M_laysNode_80 : decode cX12_laysNode 80 = .ok (.iaload, 1) := by decide +kernel
theorem D_M_laysNode_81 : decode cX12_laysNode 81 = .ok (.iastore, 1) := by decide +kernel
theorem D_M_laysNode_82 : decode cX12_laysNode 82 = .ok (.aload_n 0, 1) := by decide +kernel
theorem D_M_laysNode_83 : decode cX12_laysNode 83 = .ok (.getfield 99, 3) := by decide +kernel
theorem D_M_laysNode_86 : decode cX12_laysNode 86 = .ok (.iload_n 2, 1) := by decide +kernel
theorem D_M_laysNode_87 : decode cX12_laysNode 87 = .ok (.bipush (7), 2) := by decide +kernel
theorem D_M_laysNode_89 : decode cX12_laysNode 89 = .ok (.iadd, 1) := by decide +kernel
theorem D_M_laysNode_90 : decode cX12_laysNode 90 = .ok (.iload_n 1, 1) := by decide +kernel
theorem D_M_laysNode_91 : decode cX12_laysNode 91 = .ok (.iastore, 1) := by decide +kernel
theorem D_M_laysNode_92 : decode cX12_laysNode 92 = .ok (.iconst (0), 1) := by decide +kernel
theorem D_M_laysNode_93 : decode cX12_laysNode 93 = .ok (.istore_n 3, 1) := by decide +kernel
theorem D_M_laysNode_94 : decode cX12_laysNode 94 = .ok (.iload_n 3, 1) := by decide +kernel
theorem D_M_laysNode_95 : decode cX12_laysNode 95 = .ok (.aload_n 0, 1) := by decide +kernel
theorem D_M_laysNode_96 : decode cX12_laysNode 96 = .ok (.getfield 42, 3) := by decide +kernel
theorem D_M_laysNode_99 : decode cX12_laysNode 99 = .ok (.iload_n 1, 1) := by decide +kernel
theorem D_M_laysNode_100 : decode cX12_laysNode 100 = .ok (.iaload, 1) := by decide +kernel
theorem D_M_laysNode_101 : decode cX12_laysNode 101 = .ok (.if_icmp .ge (29), 3) := by decide +kernel
theorem D_M_laysNode_104 : decode cX12_laysNode 104 = .ok (.aload_n 0, 1) := by decide +kernel
theorem D_M_laysNode_105 : decode cX12_laysNode 105 = .ok (.getfield 102, 3) := by decide +kernel
theorem D_M_laysNode_108 : decode cX12_laysNode 108 = .ok (.bipush (10), 2) := by decide +kernel
theorem D_M_laysNode_110 : decode cX12_laysNode 110 = .ok (.aload_n 0, 1) := by decide +kernel
theorem D_M_laysNode_111 : decode cX12_laysNode 111 = .ok (.getfield 320, 3) := by decide +kernel
theorem D_M_laysNode_114 : decode cX12_laysNode 114 = .ok (.imul, 1) := by decide +kernel
theorem D_M_laysNode_115 : decode cX12_laysNode 115 = .ok (.iload_n 3, 1) := by decide +kernel
theorem D_M_laysNode_116 : decode cX12_laysNode 116 = .ok (.iadd, 1) := by decide +kernel
theorem D_M_laysNode_117 : decode cX12_laysNode 117 = .ok (.aload_n 0, 1) := by decide +kernel
theorem D_M_laysNode_118 : decode cX12_laysNode 118 = .ok (.iload_n 1, 1) := by decide +kernel
theorem D_M_laysNode_119 : decode cX12_laysNode 119 = .ok (.iload_n 3, 1) := by decide +kernel
theorem D_M_laysNode_120 : decode cX12_laysNode 120 = .ok (.invokevirtual 230, 3) := by decide +kernel
theorem D_M_laysNode_123 : decode cX12_laysNode 123 = .ok (.iastore, 1) := by decide +kernel
theorem D_M_laysNode_124 : decode cX12_laysNode 124 = .ok (.iinc 3 (1), 3) := by decide +kernel
theorem D_M_laysNode_127 : decode cX12_laysNode 127 = .ok (.goto (-33), 3) := by decide +kernel
theorem D_M_laysNode_130 : decode cX12_laysNode 130 = .ok (.aload_n 0, 1) := by decide +kernel
theorem D_M_laysNode_131 : decode cX12_laysNode 131 = .ok (.getfield 90, 3) := by decide +kernel
theorem D_M_laysNode_134 : decode cX12_laysNode 134 = .ok (.iload_n 1, 1) := by decide +kernel
theorem D_M_laysNode_135 : decode cX12_laysNode 135 = .ok (.aload_n 0, 1) := by decide +kernel
theorem D_M_laysNode_136 : decode cX12_laysNode 136 = .ok (.getfield 320, 3) := by decide +kernel
theorem D_M_laysNode_139 : decode cX12_laysNode 139 = .ok (.iastore, 1) := by decide +kernel
theorem D_M_laysNode_140 : decode cX12_laysNode 140 = .ok (.aload_n 0, 1) := by decide +kernel
theorem D_M_laysNode_141 : decode cX12_laysNode 141 = .ok (.dup, 1) := by decide +kernel
theorem D_M_laysNode_142 : decode cX12_laysNode 142 = .ok (.getfield 320, 3) := by decide +kernel
theorem D_M_laysNode_145 : decode cX12_laysNode 145 = .ok (.iconst (1), 1) := by decide +kernel
theorem D_M_laysNode_146 : decode cX12_laysNode 146 = .ok (.iadd, 1) := by decide +kernel
theorem D_M_laysNode_147 : decode cX12_laysNode 147 = .ok (.putfield 320, 3) := by decide +kernel
theorem D_M_laysNode_150 : decode cX12_laysNode 150 = .ok (.return_, 1) := by decide +kernel
def K_M_laysNode : SC := (cX12_laysNode, "TwoLevelsModel", 4, 2, false, [13, 96, 99, 100], NoQ)
def d_M_laysNode : MD Unit := mth tt 4 (sq (sI1 2 (eh2 imulF (eC (nI 12)) (eh1 (gI 13 47) (lR 0))))
 (sq (sh3 (stI [99]) (eh1 (gR 13 45) (lR 0)) (eh2 iaddF (lI 2) (eC (nI 3))) (eh2 (aI .int) (eh1 (gR 13 38) (lR 0)) (lI 1)))
 (sq (sh3 (stI [99]) (eh1 (gR 13 45) (lR 0)) (eh2 iaddF (lI 2) (eC (nI 4))) (eh2 isubF (eh2 (aI .int) (eh1 (gR 13 39) (lR 0)) (lI 1)) (eh2 (aI .int) (eh1 (gR 13 38) (lR 0)) (lI 1))))
 (sq (sh3 (stI [99]) (eh1 (gR 13 45) (lR 0)) (eh2 iaddF (lI 2) (eC (nI 5))) (eIf (eh1 z_eq (lI 1)) (eC (-1)) (eh2 (aI .int) (eh1 (gR 13 42) (lR 0)) (eh2 isubF (lI 1) (eC (nI 1))))))
 (sq (sh3 (stI [99]) (eh1 (gR 13 45) (lR 0)) (eh2 iaddF (lI 2) (eC (nI 6))) (eh2 (aI .int) (eh1 (gR 13 16) (lR 0)) (lI 1)))
 (sq (sh3 (stI [99]) (eh1 (gR 13 45) (lR 0)) (eh2 iaddF (lI 2) (eC (nI 7))) (lI 1))
 (sq (sq (sI1 3 (eC (nI 0)))
 (loop (eh2 c_lt (lI 3) (eh2 (aI .int) (eh1 (gR 13 16) (lR 0)) (lI 1)))
 (sh3 (stI [100]) (eh1 (gR 13 46) (lR 0)) (eh2 iaddF (eh2 imulF (eC (nI 10)) (eh1 (gI 13 47) (lR 0))) (lI 3)) (kV 13 d_M_letterAt (lR 0) [vI (lI 1), vI (lI 3)]))
 (sInc 3 (nI 1))))
 (sq (sh3 (stI [96]) (eh1 (gR 13 42) (lR 0)) (lI 1) (eh1 (gI 13 47) (lR 0)))
 (sq (su2 (gI 13 47) (uF false 13 47 (fun x y => x + y)) (lR 0) (eC (nI 1)))
 rtnU)))))))))
theorem m_M_laysNode : MJ 2 [13, 96, 99, 100] yX12_laysNode none eU (d_M_laysNode) := MJ_of (K := K_M_laysNode) (ri := .return_) (n1 := 0) (n2 := 0) (n3 := 0)
 (SJ_sq (p0 := 0) (p1 := 8) (nN := 0) (nB := 0) (nC := 0) (SJ_istore_n (i := 2) (j := 2) (p0 := 0) (p1 := 7) (EJ_imul (p0 := 0) (p1 := 2) (p2 := 6) (EJ_bipush (n := 12) (v := (nI 12)) (pc := 0) D_M_laysNode_0 (by decide +kernel)) (EJ_getI (t := 13) (c := 12) (kf := 47) (r := (RX12, TX12, 52)) (p0 := 2) (p1 := 3) (EJ_aload_n (j := 0) (i := 0) (pc := 2) D_M_laysNode_2 rfl) D_M_laysNode_3 ⟨rfl, rfl, by decide, q_979⟩ (fun _ _ => rfl)) D_M_laysNode_6) D_M_laysNode_7 rfl)
 (SJ_sq (p0 := 8) (p1 := 22) (nN := 0) (nB := 0) (nC := 0) (SJ_iast (ws := [99]) (p0 := 8) (p1 := 12) (p2 := 15) (p3 := 21) (EJ_getR (t := 13) (c := 12) (kf := 45) (r := (RX12, TX12, 52)) (p0 := 8) (p1 := 9) (EJ_aload_n (j := 0) (i := 0) (pc := 8) D_M_laysNode_8 rfl) D_M_laysNode_9 ⟨rfl, rfl, by decide, q_977⟩ (fun _ _ => rfl)) (EJ_iadd (p0 := 12) (p1 := 13) (p2 := 14) (EJ_iload_n (j := 2) (i := 2) (pc := 12) D_M_laysNode_12 rfl) (EJ_iconst (n := 3) (v := (nI 3)) (pc := 13) D_M_laysNode_13 (by decide +kernel)) D_M_laysNode_14) (EJ_iald (p0 := 15) (p1 := 19) (p2 := 20) (EJ_getR (t := 13) (c := 12) (kf := 38) (r := (RX12, TX12, 52)) (p0 := 15) (p1 := 16) (EJ_aload_n (j := 0) (i := 0) (pc := 15) D_M_laysNode_15 rfl) D_M_laysNode_16 ⟨rfl, rfl, by decide, q_970⟩ (fun _ _ => rfl)) (EJ_iload_n (j := 1) (i := 1) (pc := 19) D_M_laysNode_19 rfl) D_M_laysNode_20) D_M_laysNode_21 (show ∀ x_ ∈ ([99] : List Nat), x_ ∈ ([13, 96, 99, 100] : List Nat) from by decide))
 (SJ_sq (p0 := 22) (p1 := 43) (nN := 0) (nB := 0) (nC := 0) (SJ_iast (ws := [99]) (p0 := 22) (p1 := 26) (p2 := 29) (p3 := 42) (EJ_getR (t := 13) (c := 12) (kf := 45) (r := (RX12, TX12, 52)) (p0 := 22) (p1 := 23) (EJ_aload_n (j := 0) (i := 0) (pc := 22) D_M_laysNode_22 rfl) D_M_laysNode_23 ⟨rfl, rfl, by decide, q_977⟩ (fun _ _ => rfl)) (EJ_iadd (p0 := 26) (p1 := 27) (p2 := 28) (EJ_iload_n (j := 2) (i := 2) (pc := 26) D_M_laysNode_26 rfl) (EJ_iconst (n := 4) (v := (nI 4)) (pc := 27) D_M_laysNode_27 (by decide +kernel)) D_M_laysNode_28) (EJ_isub (p0 := 29) (p1 := 35) (p2 := 41) (EJ_iald (p0 := 29) (p1 := 33) (p2 := 34) (EJ_getR (t := 13) (c := 12) (kf := 39) (r := (RX12, TX12, 52)) (p0 := 29) (p1 := 30) (EJ_aload_n (j := 0) (i := 0) (pc := 29) D_M_laysNode_29 rfl) D_M_laysNode_30 ⟨rfl, rfl, by decide, q_971⟩ (fun _ _ => rfl)) (EJ_iload_n (j := 1) (i := 1) (pc := 33) D_M_laysNode_33 rfl) D_M_laysNode_34) (EJ_iald (p0 := 35) (p1 := 39) (p2 := 40) (EJ_getR (t := 13) (c := 12) (kf := 38) (r := (RX12, TX12, 52)) (p0 := 35) (p1 := 36) (EJ_aload_n (j := 0) (i := 0) (pc := 35) D_M_laysNode_35 rfl) D_M_laysNode_36 ⟨rfl, rfl, by decide, q_970⟩ (fun _ _ => rfl)) (EJ_iload_n (j := 1) (i := 1) (pc := 39) D_M_laysNode_39 rfl) D_M_laysNode_40) D_M_laysNode_41) D_M_laysNode_42 (show ∀ x_ ∈ ([99] : List Nat), x_ ∈ ([13, 96, 99, 100] : List Nat) from by decide))
 (SJ_sq (p0 := 43) (p1 := 67) (nN := 0) (nB := 0) (nC := 0) (SJ_iast (ws := [99]) (p0 := 43) (p1 := 47) (p2 := 50) (p3 := 66) (EJ_getR (t := 13) (c := 12) (kf := 45) (r := (RX12, TX12, 52)) (p0 := 43) (p1 := 44) (EJ_aload_n (j := 0) (i := 0) (pc := 43) D_M_laysNode_43 rfl) D_M_laysNode_44 ⟨rfl, rfl, by decide, q_977⟩ (fun _ _ => rfl)) (EJ_iadd (p0 := 47) (p1 := 48) (p2 := 49) (EJ_iload_n (j := 2) (i := 2) (pc := 47) D_M_laysNode_47 rfl) (EJ_iconst (n := 5) (v := (nI 5)) (pc := 48) D_M_laysNode_48 (by decide +kernel)) D_M_laysNode_49) (EJ_if (p0 := 50) (pT := 54) (pF := 58) (pE := 55) (p1 := 66) (CZ_eq' (off := 7) (tgt := 58) (p0 := 50) (p1 := 51) (EJ_iload_n (j := 1) (i := 1) (pc := 50) D_M_laysNode_50 rfl) D_M_laysNode_51 rfl) (EJ_iconst (n := -1) (v := (-1)) (pc := 54) D_M_laysNode_54 (by decide +kernel)) (Lead.goto (K := K_M_laysNode) (pc := 55) (tgt := 66) D_M_laysNode_55 rfl) (EJ_iald (p0 := 58) (p1 := 62) (p2 := 65) (EJ_getR (t := 13) (c := 12) (kf := 42) (r := (RX12, TX12, 52)) (p0 := 58) (p1 := 59) (EJ_aload_n (j := 0) (i := 0) (pc := 58) D_M_laysNode_58 rfl) D_M_laysNode_59 ⟨rfl, rfl, by decide, q_974⟩ (fun _ _ => rfl)) (EJ_isub (p0 := 62) (p1 := 63) (p2 := 64) (EJ_iload_n (j := 1) (i := 1) (pc := 62) D_M_laysNode_62 rfl) (EJ_iconst (n := 1) (v := (nI 1)) (pc := 63) D_M_laysNode_63 (by decide +kernel)) D_M_laysNode_64) D_M_laysNode_65)) D_M_laysNode_66 (show ∀ x_ ∈ ([99] : List Nat), x_ ∈ ([13, 96, 99, 100] : List Nat) from by decide))
 (SJ_sq (p0 := 67) (p1 := 82) (nN := 0) (nB := 0) (nC := 0) (SJ_iast (ws := [99]) (p0 := 67) (p1 := 71) (p2 := 75) (p3 := 81) (EJ_getR (t := 13) (c := 12) (kf := 45) (r := (RX12, TX12, 52)) (p0 := 67) (p1 := 68) (EJ_aload_n (j := 0) (i := 0) (pc := 67) D_M_laysNode_67 rfl) D_M_laysNode_68 ⟨rfl, rfl, by decide, q_977⟩ (fun _ _ => rfl)) (EJ_iadd (p0 := 71) (p1 := 72) (p2 := 74) (EJ_iload_n (j := 2) (i := 2) (pc := 71) D_M_laysNode_71 rfl) (EJ_bipush (n := 6) (v := (nI 6)) (pc := 72) D_M_laysNode_72 (by decide +kernel)) D_M_laysNode_74) (EJ_iald (p0 := 75) (p1 := 79) (p2 := 80) (EJ_getR (t := 13) (c := 12) (kf := 16) (r := (RX12, TX12, 52)) (p0 := 75) (p1 := 76) (EJ_aload_n (j := 0) (i := 0) (pc := 75) D_M_laysNode_75 rfl) D_M_laysNode_76 ⟨rfl, rfl, by decide, q_948⟩ (fun _ _ => rfl)) (EJ_iload_n (j := 1) (i := 1) (pc := 79) D_M_laysNode_79 rfl) D_M_laysNode_80) D_M_laysNode_81 (show ∀ x_ ∈ ([99] : List Nat), x_ ∈ ([13, 96, 99, 100] : List Nat) from by decide))
 (SJ_sq (p0 := 82) (p1 := 92) (nN := 0) (nB := 0) (nC := 0) (SJ_iast (ws := [99]) (p0 := 82) (p1 := 86) (p2 := 90) (p3 := 91) (EJ_getR (t := 13) (c := 12) (kf := 45) (r := (RX12, TX12, 52)) (p0 := 82) (p1 := 83) (EJ_aload_n (j := 0) (i := 0) (pc := 82) D_M_laysNode_82 rfl) D_M_laysNode_83 ⟨rfl, rfl, by decide, q_977⟩ (fun _ _ => rfl)) (EJ_iadd (p0 := 86) (p1 := 87) (p2 := 89) (EJ_iload_n (j := 2) (i := 2) (pc := 86) D_M_laysNode_86 rfl) (EJ_bipush (n := 7) (v := (nI 7)) (pc := 87) D_M_laysNode_87 (by decide +kernel)) D_M_laysNode_89) (EJ_iload_n (j := 1) (i := 1) (pc := 90) D_M_laysNode_90 rfl) D_M_laysNode_91 (show ∀ x_ ∈ ([99] : List Nat), x_ ∈ ([13, 96, 99, 100] : List Nat) from by decide))
 (SJ_sq (p0 := 92) (p1 := 130) (nN := 0) (nB := 0) (nC := 0) (SJ_sq (p0 := 92) (p1 := 94) (nN := 130) (nB := 0) (nC := 0) (SJ_istore_n (i := 3) (j := 3) (p0 := 92) (p1 := 93) (EJ_iconst (n := 0) (v := (nI 0)) (pc := 92) D_M_laysNode_92 (by decide +kernel)) D_M_laysNode_93 rfl)
 (SJ_loop (p0 := 94) (pB := 104) (pS := 124) (pE := 130) (CJ_lt' (off := 29) (tgt := 130) (p0 := 94) (p1 := 95) (p2 := 101) (EJ_iload_n (j := 3) (i := 3) (pc := 94) D_M_laysNode_94 rfl) (EJ_iald (p0 := 95) (p1 := 99) (p2 := 100) (EJ_getR (t := 13) (c := 12) (kf := 16) (r := (RX12, TX12, 52)) (p0 := 95) (p1 := 96) (EJ_aload_n (j := 0) (i := 0) (pc := 95) D_M_laysNode_95 rfl) D_M_laysNode_96 ⟨rfl, rfl, by decide, q_948⟩ (fun _ _ => rfl)) (EJ_iload_n (j := 1) (i := 1) (pc := 99) D_M_laysNode_99 rfl) D_M_laysNode_100) D_M_laysNode_101 rfl)
 (SJ_iast (ws := [100]) (p0 := 104) (p1 := 108) (p2 := 117) (p3 := 123) (EJ_getR (t := 13) (c := 12) (kf := 46) (r := (RX12, TX12, 52)) (p0 := 104) (p1 := 105) (EJ_aload_n (j := 0) (i := 0) (pc := 104) D_M_laysNode_104 rfl) D_M_laysNode_105 ⟨rfl, rfl, by decide, q_978⟩ (fun _ _ => rfl)) (EJ_iadd (p0 := 108) (p1 := 115) (p2 := 116) (EJ_imul (p0 := 108) (p1 := 110) (p2 := 114) (EJ_bipush (n := 10) (v := (nI 10)) (pc := 108) D_M_laysNode_108 (by decide +kernel)) (EJ_getI (t := 13) (c := 12) (kf := 47) (r := (RX12, TX12, 52)) (p0 := 110) (p1 := 111) (EJ_aload_n (j := 0) (i := 0) (pc := 110) D_M_laysNode_110 rfl) D_M_laysNode_111 ⟨rfl, rfl, by decide, q_979⟩ (fun _ _ => rfl)) D_M_laysNode_114) (EJ_iload_n (j := 3) (i := 3) (pc := 115) D_M_laysNode_115 rfl) D_M_laysNode_116) (EJ_callV (t := 13) (c := 12) (r := (RX12, TX12, 52)) (p0 := 117) (p1 := 118) (p2 := 120) (EJ_aload_n (j := 0) (i := 0) (pc := 117) D_M_laysNode_117 rfl) (AJ_I (p0 := 118) (p1 := 119) (p2 := 120) (EJ_iload_n (j := 1) (i := 1) (pc := 118) D_M_laysNode_118 rfl) (AJ_I (p0 := 119) (p1 := 120) (p2 := 120) (EJ_iload_n (j := 3) (i := 3) (pc := 119) D_M_laysNode_119 rfl) AJ_nil)) m_M_letterAt E1_I D_M_laysNode_120 rfl rfl rfl q_1191 q_1192 q_63 q_97 ⟨by decide +kernel, by decide +kernel, by decide +kernel⟩ (by decide) (show 1 + 1 ≤ 2 from by decide) (fun _ h => absurd h List.not_mem_nil)) D_M_laysNode_123 (show ∀ x_ ∈ ([100] : List Nat), x_ ∈ ([13, 96, 99, 100] : List Nat) from by decide))
 (SJ_post (SJ_iinc (i := 3) (n := 1) (v := (nI 1)) (pc := 124) D_M_laysNode_124 (by decide +kernel)) (Lead.goto (K := K_M_laysNode) (pc := 127) (tgt := 94) D_M_laysNode_127 rfl))))
 (SJ_sq (p0 := 130) (p1 := 140) (nN := 0) (nB := 0) (nC := 0) (SJ_iast (ws := [96]) (p0 := 130) (p1 := 134) (p2 := 135) (p3 := 139) (EJ_getR (t := 13) (c := 12) (kf := 42) (r := (RX12, TX12, 52)) (p0 := 130) (p1 := 131) (EJ_aload_n (j := 0) (i := 0) (pc := 130) D_M_laysNode_130 rfl) D_M_laysNode_131 ⟨rfl, rfl, by decide, q_974⟩ (fun _ _ => rfl)) (EJ_iload_n (j := 1) (i := 1) (pc := 134) D_M_laysNode_134 rfl) (EJ_getI (t := 13) (c := 12) (kf := 47) (r := (RX12, TX12, 52)) (p0 := 135) (p1 := 136) (EJ_aload_n (j := 0) (i := 0) (pc := 135) D_M_laysNode_135 rfl) D_M_laysNode_136 ⟨rfl, rfl, by decide, q_979⟩ (fun _ _ => rfl)) D_M_laysNode_139 (show ∀ x_ ∈ ([96] : List Nat), x_ ∈ ([13, 96, 99, 100] : List Nat) from by decide))
 (SJ_sq (p0 := 140) (p1 := 150) (nN := 0) (nB := 0) (nC := 0) (SJ_upF (z := false) (t := 13) (c := 12) (kf := 47) (r := (RX12, TX12, 52)) (f := (fun x y => x + y)) (p0 := 140) (p1 := 141) (p3 := 146) (EJ_aload_n (j := 0) (i := 0) (pc := 140) D_M_laysNode_140 rfl) D_M_laysNode_141 D_M_laysNode_142 (EJ_iconst (n := 1) (v := (nI 1)) (pc := 145) D_M_laysNode_145 (by decide +kernel)) (Op2_iadd D_M_laysNode_146) D_M_laysNode_147 ⟨rfl, rfl, by decide, q_979⟩ ⟨rfl, rfl, by decide, q_979⟩ (Or.inl rfl) (fun _ _ => ⟨rfl, rfl⟩) (fun _ _ => rfl) (show (13 : Nat) ∈ ([13, 96, 99, 100] : List Nat) from by decide))
 (SJ_retU (pc := 150) D_M_laysNode_150))))))))))
 RTm_void q_1299 (by decide +kernel) rfl (fun h => by cases h) (show 4 ≤ 40 from by decide) (fun _ => trivial)
