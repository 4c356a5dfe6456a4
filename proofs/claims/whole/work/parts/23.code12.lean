/-! the program: part 12 -/
theorem D_M_truth_0 : decode cX12_truth 0 = .ok (.iload_n 0, 1) := by decide +kernel
theorem D_M_truth_1 : decode cX12_truth 1 = .ok (.ifCond .eq (7), 3) := by decide +kernel
theorem D_M_truth_4 : decode cX12_truth 4 = .ok (.iconst (1), 1) := by decide +kernel
theorem D_M_truth_5 : decode cX12_truth 5 = .ok (.goto (4), 3) := by decide +kernel
theorem D_M_truth_8 : decode cX12_truth 8 = .ok (.iconst (0), 1) := by decide +kernel
theorem D_M_truth_9 : decode cX12_truth 9 = .ok (.ireturn, 1) := by decide +kernel
def K_M_truth : SC := (cX12_truth, "TwoLevelsModel", 1, 1, false, [], NoQ)
def d_M_truth : MD Int32 := mth tt 1 (rtn (eIf (eh1 z_ne (lI 0)) (eC (nI 1)) (eC (nI 0))))
theorem m_M_truth : MJ 1 [] yX12_truth (some .int) eI (d_M_truth) := MJ_of (K := K_M_truth) (ri := .ireturn) (n1 := 0) (n2 := 0) (n3 := 0)
 (SJ_ret (p0 := 0) (p1 := 9) (EJ_if (p0 := 0) (pT := 4) (pF := 8) (pE := 5) (p1 := 9) (CZ_ne' (off := 7) (tgt := 8) (p0 := 0) (p1 := 1) (EJ_iload_n (j := 0) (i := 0) (pc := 0) D_M_truth_0 rfl) D_M_truth_1 rfl) (EJ_iconst (n := 1) (v := (nI 1)) (pc := 4) D_M_truth_4 (by decide +kernel)) (Lead.goto (K := K_M_truth) (pc := 5) (tgt := 9) D_M_truth_5 rfl) (EJ_iconst (n := 0) (v := (nI 0)) (pc := 8) D_M_truth_8 (by decide +kernel))) D_M_truth_9)
 RTm_int q_1109 (by decide +kernel) rfl (fun h => by cases h) (show 1 ≤ 40 from by decide) (fun _ => trivial)
theorem D_M_choices_0 : decode cX12_choices 0 = .ok (.aload_n 0, 1) := by decide +kernel
theorem D_M_choices_1 : decode cX12_choices 1 = .ok (.getfield 9, 3) := by decide +kernel
theorem D_M_choices_4 : decode cX12_choices 4 = .ok (.iload_n 1, 1) := by decide +kernel
theorem D_M_choices_5 : decode cX12_choices 5 = .ok (.invokestatic 255, 3) := by decide +kernel
theorem D_M_choices_8 : decode cX12_choices 8 = .ok (.bipush (7), 2) := by decide +kernel
theorem D_M_choices_10 : decode cX12_choices 10 = .ok (.iadd, 1) := by decide +kernel
theorem D_M_choices_11 : decode cX12_choices 11 = .ok (.iaload, 1) := by decide +kernel
theorem D_M_choices_12 : decode cX12_choices 12 = .ok (.ireturn, 1) := by decide +kernel
def K_M_choices : SC := (cX12_choices, "TwoLevelsModel", 2, 2, false, [], NoQ)
def d_M_choices : MD Int32 := mth tt 2 (rtn (eh2 (aI .int) (eh1 (gR 13 0) (lR 0)) (eh2 iaddF (kS d_M_ruleAt [vI (lI 1)]) (eC (nI 7)))))
theorem m_M_choices : MJ 2 [] yX12_choices (some .int) eI (d_M_choices) := MJ_of (K := K_M_choices) (ri := .ireturn) (n1 := 0) (n2 := 0) (n3 := 0)
 (SJ_ret (p0 := 0) (p1 := 12) (EJ_iald (p0 := 0) (p1 := 4) (p2 := 11) (EJ_getR (t := 13) (c := 12) (kf := 0) (r := (RX12, TX12, 52)) (p0 := 0) (p1 := 1) (EJ_aload_n (j := 0) (i := 0) (pc := 0) D_M_choices_0 rfl) D_M_choices_1 ⟨rfl, rfl, by decide, q_932⟩ (fun _ _ => rfl)) (EJ_iadd (p0 := 4) (p1 := 8) (p2 := 10) (EJ_callS (p0 := 4) (p1 := 5) (AJ_I (p0 := 4) (p1 := 5) (p2 := 5) (EJ_iload_n (j := 1) (i := 1) (pc := 4) D_M_choices_4 rfl) AJ_nil) m_M_ruleAt E1_I D_M_choices_5 q_1209 q_1210 q_97 ⟨by decide +kernel, by decide +kernel, by decide +kernel⟩ (by decide) (show 1 + 1 ≤ 2 from by decide) (fun _ h => absurd h List.not_mem_nil)) (EJ_bipush (n := 7) (v := (nI 7)) (pc := 8) D_M_choices_8 (by decide +kernel)) D_M_choices_10) D_M_choices_11) D_M_choices_12)
 RTm_int q_1217 (by decide +kernel) rfl (fun h => by cases h) (show 2 ≤ 40 from by decide) (fun _ => trivial)
theorem D_M_choiceAt_0 : decode cX12_choiceAt 0 = .ok (.iload_n 0, 1) := by decide +kernel
theorem D_M_choiceAt_1 : decode cX12_choiceAt 1 = .ok (.invokestatic 255, 3) := by decide +kernel
theorem D_M_choiceAt_4 : decode cX12_choiceAt 4 = .ok (.bipush (8), 2) := by decide +kernel
theorem D_M_choiceAt_6 : decode cX12_choiceAt 6 = .ok (.iadd, 1) := by decide +kernel
theorem D_M_choiceAt_7 : decode cX12_choiceAt 7 = .ok (.bipush (33), 2) := by decide +kernel
theorem D_M_choiceAt_9 : decode cX12_choiceAt 9 = .ok (.iload_n 1, 1) := by decide +kernel
theorem D_M_choiceAt_10 : decode cX12_choiceAt 10 = .ok (.imul, 1) := by decide +kernel
theorem D_M_choiceAt_11 : decode cX12_choiceAt 11 = .ok (.iadd, 1) := by decide +kernel
theorem D_M_choiceAt_12 : decode cX12_choiceAt 12 = .ok (.ireturn, 1) := by decide +kernel
def K_M_choiceAt : SC := (cX12_choiceAt, "TwoLevelsModel", 2, 2, false, [], NoQ)
def d_M_choiceAt : MD Int32 := mth tt 2 (rtn (eh2 iaddF (eh2 iaddF (kS d_M_ruleAt [vI (lI 0)]) (eC (nI 8))) (eh2 imulF (eC (nI 33)) (lI 1))))
theorem m_M_choiceAt : MJ 2 [] yX12_choiceAt (some .int) eI (d_M_choiceAt) := MJ_of (K := K_M_choiceAt) (ri := .ireturn) (n1 := 0) (n2 := 0) (n3 := 0)
 (SJ_ret (p0 := 0) (p1 := 12) (EJ_iadd (p0 := 0) (p1 := 7) (p2 := 11) (EJ_iadd (p0 := 0) (p1 := 4) (p2 := 6) (EJ_callS (p0 := 0) (p1 := 1) (AJ_I (p0 := 0) (p1 := 1) (p2 := 1) (EJ_iload_n (j := 0) (i := 0) (pc := 0) D_M_choiceAt_0 rfl) AJ_nil) m_M_ruleAt E1_I D_M_choiceAt_1 q_1209 q_1210 q_97 ⟨by decide +kernel, by decide +kernel, by decide +kernel⟩ (by decide) (show 1 + 1 ≤ 2 from by decide) (fun _ h => absurd h List.not_mem_nil)) (EJ_bipush (n := 8) (v := (nI 8)) (pc := 4) D_M_choiceAt_4 (by decide +kernel)) D_M_choiceAt_6) (EJ_imul (p0 := 7) (p1 := 9) (p2 := 10) (EJ_bipush (n := 33) (v := (nI 33)) (pc := 7) D_M_choiceAt_7 (by decide +kernel)) (EJ_iload_n (j := 1) (i := 1) (pc := 9) D_M_choiceAt_9 rfl) D_M_choiceAt_10) D_M_choiceAt_11) D_M_choiceAt_12)
 RTm_int q_1220 (by decide +kernel) rfl (fun h => by cases h) (show 2 ≤ 40 from by decide) (fun _ => trivial)
theorem D_M_memberAt_0 : decode cX12_memberAt 0 = .ok (.iload_n 0, 1) := by decide +kernel
theorem D_M_memberAt_1 : decode cX12_memberAt 1 = .ok (.iload_n 1, 1) := by decide +kernel
theorem D_M_memberAt_2 : decode cX12_memberAt 2 = .ok (.invokestatic 258, 3) := by decide +kernel
theorem D_M_memberAt_5 : decode cX12_memberAt 5 = .ok (.iconst (1), 1) := by decide +kernel
theorem D_M_memberAt_6 : decode cX12_memberAt 6 = .ok (.iadd, 1) := by decide +kernel
theorem D_M_memberAt_7 : decode cX12_memberAt 7 = .ok (.bipush (8), 2) := by decide +kernel
theorem D_M_memberAt_9 : decode cX12_memberAt 9 = .ok (.iload_n 2, 1) := by decide +kernel
theorem D_M_memberAt_10 : decode cX12_memberAt 10 = .ok (.imul, 1) := by decide +kernel
theorem D_M_memberAt_11 : decode cX12_memberAt 11 = .ok (.iadd, 1) := by decide +kernel
theorem D_M_memberAt_12 : decode cX12_memberAt 12 = .ok (.ireturn, 1) := by decide +kernel
def K_M_memberAt : SC := (cX12_memberAt, "TwoLevelsModel", 3, 3, false, [], NoQ)
def d_M_memberAt : MD Int32 := mth tt 3 (rtn (eh2 iaddF (eh2 iaddF (kS d_M_choiceAt [vI (lI 0), vI (lI 1)]) (eC (nI 1))) (eh2 imulF (eC (nI 8)) (lI 2))))
theorem m_M_memberAt : MJ 3 [] yX12_memberAt (some .int) eI (d_M_memberAt) := MJ_of (K := K_M_memberAt) (ri := .ireturn) (n1 := 0) (n2 := 0) (n3 := 0)
 (SJ_ret (p0 := 0) (p1 := 12) (EJ_iadd (p0 := 0) (p1 := 7) (p2 := 11) (EJ_iadd (p0 := 0) (p1 := 5) (p2 := 6) (EJ_callS (p0 := 0) (p1 := 2) (AJ_I (p0 := 0) (p1 := 1) (p2 := 2) (EJ_iload_n (j := 0) (i := 0) (pc := 0) D_M_memberAt_0 rfl) (AJ_I (p0 := 1) (p1 := 2) (p2 := 2) (EJ_iload_n (j := 1) (i := 1) (pc := 1) D_M_memberAt_1 rfl) AJ_nil)) m_M_choiceAt E1_I D_M_memberAt_2 q_1218 q_1219 q_97 ⟨by decide +kernel, by decide +kernel, by decide +kernel⟩ (by decide) (show 2 + 1 ≤ 3 from by decide) (fun _ h => absurd h List.not_mem_nil)) (EJ_iconst (n := 1) (v := (nI 1)) (pc := 5) D_M_memberAt_5 (by decide +kernel)) D_M_memberAt_6) (EJ_imul (p0 := 7) (p1 := 9) (p2 := 10) (EJ_bipush (n := 8) (v := (nI 8)) (pc := 7) D_M_memberAt_7 (by decide +kernel)) (EJ_iload_n (j := 2) (i := 2) (pc := 9) D_M_memberAt_9 rfl) D_M_memberAt_10) D_M_memberAt_11) D_M_memberAt_12)
 RTm_int q_1223 (by decide +kernel) rfl (fun h => by cases h) (show 3 ≤ 40 from by decide) (fun _ => trivial)
theorem D_M_laysFree_0 : decode cX12_laysFree 0 = .ok (.aload_n 0, 1) := by decide +kernel
theorem D_M_laysFree_1 : decode cX12_laysFree 1 = .ok (.iconst (0), 1) := by decide +kernel
theorem D_M_laysFree_2 : decode cX12_laysFree 2 = .ok (.putfield 294, 3) := by decide +kernel
theorem D_M_laysFree_5 : decode cX12_laysFree 5 = .ok (.iconst (0), 1) := by decide +kernel
theorem D_M_laysFree_6 : decode cX12_laysFree 6 = .ok (.istore_n 3, 1) := by decide +kernel
theorem D_M_laysFree_7 : decode cX12_laysFree 7 = .ok (.iload_n 3, 1) := by decide +kernel
theorem D_M_laysFree_8 : decode cX12_laysFree 8 = .ok (.aload_n 0, 1) := by decide +kernel
theorem D_M_laysFree_9 : decode cX12_laysFree 9 = .ok (.getfield 9, 3) := by decide +kernel
theorem D_M_laysFree_12 : decode cX12_laysFree 12 = .ok (.iload_n 1, 1) := by decide +kernel
theorem D_M_laysFree_13 : decode cX12_laysFree 13 = .ok (.iload_n 2, 1) := by decide +kernel
theorem D_M_laysFree_14 : decode cX12_laysFree 14 = .ok (.invokestatic 258, 3) := by decide +kernel
theorem D_M_laysFree_17 : decode cX12_laysFree 17 = .ok (.iaload, 1) := by decide +kernel
theorem D_M_laysFree_18 : decode cX12_laysFree 18 = .ok (.if_icmp .ge (156), 3) := by decide +kernel
theorem D_M_laysFree_21 : decode cX12_laysFree 21 = .ok (.iload_n 1, 1) := by decide +kernel
theorem D_M_laysFree_22 : decode cX12_laysFree 22 = .ok (.iload_n 2, 1) := by decide +kernel
theorem D_M_laysFree_23 : decode cX12_laysFree 23 = .ok (.iload_n 3, 1) := by decide +kernel
theorem D_M_laysFree_24 : decode cX12_laysFree 24 = .ok (.invokestatic 267, 3) := by decide +kernel
theorem D_M_laysFree_27 : decode cX12_laysFree 27 = .ok (.iconst (1), 1) := by decide +kernel
theorem D_M_laysFree_28 : decode cX12_laysFree 28 = .ok (.iadd, 1) := by decide +kernel
theorem D_M_laysFree_29 : decode cX12_laysFree 29 = .ok (.istore 4, 2) := by decide +kernel
theorem D_M_laysFree_31 : decode cX12_laysFree 31 = .ok (.iconst (1), 1) := by decide +kernel
theorem D_M_laysFree_32 : decode cX12_laysFree 32 = .ok (.istore 5, 2) := by decide +kernel
theorem D_M_laysFree_34 : decode cX12_laysFree 34 = .ok (.iload 5, 2) := by decide +kernel
theorem D_M_laysFree_36 : decode cX12_laysFree 36 = .ok (.aload_n 0, 1) := by decide +kernel
theorem D_M_laysFree_37 : decode cX12_laysFree 37 = .ok (.getfield 9, 3) := by decide +kernel
theorem D_M_laysFree_40 : decode cX12_laysFree 40 = .ok (.iload 4, 2) := by decide +kernel
theorem D_M_laysFree_42 : decode cX12_laysFree 42 = .ok (.iaload, 1) := by decide +kernel
theorem D_M_laysFree_43 : decode cX12_laysFree 43 = .ok (.if_icmp .gt (125), 3) := by decide +kernel
theorem D_M_laysFree_46 : decode cX12_laysFree 46 = .ok (.aload_n 0, 1) := by decide +kernel
theorem D_M_laysFree_47 : decode cX12_laysFree 47 = .ok (.getfield 9, 3) := by decide +kernel
theorem D_M_laysFree_50 : decode cX12_laysFree 50 = .ok (.iload 4, 2) := by decide +kernel
theorem D_M_laysFree_52 : decode cX12_laysFree 52 = .ok (.iload 5, 2) := by decide +kernel
theorem D_M_laysFree_54 : decode cX12_laysFree 54 = .ok (.iadd, 1) := by decide +kernel
theorem D_M_laysFree_55 : decode cX12_laysFree 55 = .ok (.iaload, 1) := by decide +kernel
theorem D_M_laysFree_56 : decode cX12_laysFree 56 = .ok (.istore 6, 2) := by decide +kernel
theorem D_M_laysFree_58 : decode cX12_laysFree 58 = .ok (.iload 6, 2) := by decide +kernel
theorem D_M_laysFree_60 : decode cX12_laysFree 60 = .ok (.invokestatic 141, 3) := by decide +kernel
theorem D_M_laysFree_63 : decode cX12_laysFree 63 = .ok (.ifCond .eq (20), 3) := by decide +kernel
theorem D_M_laysFree_66 : decode cX12_laysFree 66 = .ok (.aload_n 0, 1) := by decide +kernel
theorem D_M_laysFree_67 : decode cX12_laysFree 67 = .ok (.iload_n 1, 1) := by decide +kernel
theorem D_M_laysFree_68 : decode cX12_laysFree 68 = .ok (.invokestatic 255, 3) := by decide +kernel
theorem D_M_laysFree_71 : decode cX12_laysFree 71 = .ok (.iload 6, 2) := by decide +kernel
theorem D_M_laysFree_73 : decode cX12_laysFree 73 = .ok (.invokevirtual 261, 3) := by decide +kernel
theorem D_M_laysFree_76 : decode cX12_laysFree 76 = .ok (.ifCond .ne (7), 3) := by decide +kernel
theorem D_M_laysFree_79 : decode cX12_laysFree 79 = .ok (.iconst (1), 1) := by decide +kernel
theorem D_M_laysFree_80 : decode cX12_laysFree 80 = .ok (.goto (4), 3) := by decide +kernel
theorem D_M_laysFree_83 : decode cX12_laysFree 83 = .ok (.iconst (0), 1) := by decide +kernel
theorem D_M_laysFree_84 : decode cX12_laysFree 84 = .ok (.istore 7, 2) := by decide +kernel
theorem D_M_laysFree_86 : decode cX12_laysFree 86 = .ok (.iconst (0), 1) := by decide +kernel
theorem D_M_laysFree_87 : decode cX12_laysFree 87 = .ok (.istore 8, 2) := by decide +kernel
theorem D_M_laysFree_89 : decode cX12_laysFree 89 = .ok (.iload 8, 2) := by decide +kernel
theorem D_M_laysFree_91 : decode cX12_laysFree 91 = .ok (.aload_n 0, 1) := by decide +kernel
theorem D_M_laysFree_92 : decode cX12_laysFree 92 = .ok (.getfield 294, 3) := by decide +kernel
theorem D_M_laysFree_95 : decode cX12_laysFree 95 = .ok (.if_icmp .ge (37), 3) := by decide +kernel
theorem D_M_laysFree_98 : decode cX12_laysFree 98 = .ok (.iload 7, 2) := by decide +kernel
theorem D_M_laysFree_100 : decode cX12_laysFree 100 = .ok (.ifCond .eq (23), 3) := by decide +kernel
theorem D_M_laysFree_103 : decode cX12_laysFree 103 = .ok (.aload_n 0, 1) := by decide +kernel
theorem D_M_laysFree_104 : decode cX12_laysFree 104 = .ok (.getfield 63, 3) := by decide +kernel
theorem D_M_laysFree_107 : decode cX12_laysFree 107 = .ok (.iload 8, 2) := by decide +kernel
theorem D_M_laysFree_109 : decode cX12_laysFree 109 = .ok (.iaload, 1) := by decide +kernel
theorem D_M_laysFree_110 : decode cX12_laysFree 110 = .ok (.aload_n 0, 1) := by decide +kernel
theorem D_M_laysFree_111 : decode cX12_laysFree 111 = .ok (.iload 6, 2) := by decide +kernel
theorem D_M_laysFree_113 : decode cX12_laysFree 113 = .ok (.invokevirtual 220, 3) := by decide +kernel
theorem D_M_laysFree_116 : decode cX12_laysFree 116 = .ok (.if_icmp .eq (7), 3) := by decide +kernel
theorem D_M_laysFree_119 : decode cX12_laysFree 119 = .ok (.iconst (1), 1) := by decide +kernel
theorem D_M_laysFree_120 : decode cX12_laysFree 120 = .ok (.goto (4), 3) := by decide +kernel
theorem D_M_laysFree_123 : decode cX12_laysFree 123 = .ok (.iconst (0), 1) := by decide +kernel
theorem D_M_laysFree_124 : decode cX12_laysFree 124 = .ok (.istore 7, 2) := by decide +kernel
theorem D_M_laysFree_126 : decode cX12_laysFree 126 = .ok (.iinc 8 (1), 3) := by decide +kernel
theorem D_M_laysFree_129 : decode cX12_laysFree 129 = .ok (.goto (-40), 3) := by decide +kernel
theorem D_M_laysFree_132 : decode cX12_laysFree 132 = .ok (.iload 7, 2) := by decide +kernel
theorem D_M_laysFree_134 : decode cX12_laysFree 134 = .ok (.ifCond .eq (28), 3) := by decide +kernel
theorem D_M_laysFree_137 : decode cX12_laysFree 137 = .ok (.aload_n 0, 1) := by decide +kernel
theorem D_M_laysFree_138 : decode cX12_laysFree 138 = .ok (.getfield 63, 3) := by decide +kernel
theorem D_M_laysFree_141 : decode cX12_laysFree 141 = .ok (.aload_n 0, 1) := by decide +kernel
theorem D_M_laysFree_142 : decode cX12_laysFree 142 = .ok (.getfield 294, 3) := by decide +kernel
theorem D_M_laysFree_145 : decode cX12_laysFree 145 = .ok (.aload_n 0, 1) := by decide +kernel
theorem D_M_laysFree_146 : decode cX12_laysFree 146 = .ok (.iload 6, 2) := by decide +kernel
theorem D_M_laysFree_148 : decode cX12_laysFree 148 = .ok (.invokevirtual 220, 3) := by decide +kernel
theorem D_M_laysFree_151 : decode cX12_laysFree 151 = .ok (.iastore, 1) := by decide +kernel
theorem D_M_laysFree_152 : decode cX12_laysFree 152 = .ok (.aload_n 0, 1) := by decide +kernel
theorem D_M_laysFree_153 : decode cX12_laysFree 153 = .ok (.dup, 1) := by decide +kernel
theorem D_M_laysFree_154 : decode cX12_laysFree 154 = .ok (.getfield 294, 3) := by decide +kernel
theorem D_M_laysFree_157 : decode cX12_laysFree 157 = .ok (.iconst (1), 1) := by decide +kernel
theorem D_M_laysFree_158 : decode cX12_laysFree 158 = .ok (.iadd, 1) := by decide +kernel
theorem D_M_laysFree_159 : decode cX12_laysFree 159 = .ok (.putfield 294, 3) := by decide +kernel
theorem D_M_laysFree_162 : decode cX12_laysFree 162 = .ok (.iinc 5 (1), 3) := by decide +kernel
theorem D_M_laysFree_165 : decode cX12_laysFree 165 = .ok (.goto (-131), 3) := by decide +kernel
theorem D_M_laysFree_168 : decode cX12_laysFree 168 = .ok (.iinc 3 (1), 3) := by decide +kernel
theorem D_M_laysFree_171 : decode cX12_laysFree 171 = .ok (.goto (-164), 3) := by decide +kernel
theorem D_M_laysFree_174 : decode cX12_laysFree 174 = .ok (.return_, 1) := by decide +kernel
def K_M_laysFree : SC := (cX12_laysFree, "TwoLevelsModel", 9, 4, false, [13, 87], NoQ)
def d_M_laysFree : MD Unit := mth tt 9 (sq (sh2 (pI false 13 25) (lR 0) (eC (nI 0)))
 (sq (sq (sI1 3 (eC (nI 0)))
 (loop (eh2 c_lt (lI 3) (eh2 (aI .int) (eh1 (gR 13 0) (lR 0)) (kS d_M_choiceAt [vI (lI 1), vI (lI 2)])))
 (sq (sI1 4 (eh2 iaddF (kS d_M_memberAt [vI (lI 1), vI (lI 2), vI (lI 3)]) (eC (nI 1))))
 (sq (sI1 5 (eC (nI 1)))
 (loop (eh2 c_le (lI 5) (eh2 (aI .int) (eh1 (gR 13 0) (lR 0)) (lI 4)))
 (sq (sI1 6 (eh2 (aI .int) (eh1 (gR 13 0) (lR 0)) (eh2 iaddF (lI 4) (lI 5))))
 (sq (sI1 7 (eIf (cAnd (eh1 z_ne (kS d_M_isCapital [vI (lI 6)])) (cNot (eh1 z_ne (kV 13 d_M_rowHas (lR 0) [vI (kS d_M_ruleAt [vI (lI 1)]), vI (lI 6)])))) (eC (nI 1)) (eC (nI 0))))
 (sq (sq (sI1 8 (eC (nI 0)))
 (loop (eh2 c_lt (lI 8) (eh1 (gI 13 25) (lR 0)))
 (sI1 7 (eIf (cAnd (eh1 z_ne (lI 7)) (eh2 c_ne (eh2 (aI .int) (eh1 (gR 13 24) (lR 0)) (lI 8)) (kV 13 d_M_metaOf (lR 0) [vI (lI 6)]))) (eC (nI 1)) (eC (nI 0))))
 (sInc 8 (nI 1))))
 (sIf (eh1 z_ne (lI 7)) (sq (sh3 (stI [87]) (eh1 (gR 13 24) (lR 0)) (eh1 (gI 13 25) (lR 0)) (kV 13 d_M_metaOf (lR 0) [vI (lI 6)]))
 (su2 (gI 13 25) (uF false 13 25 (fun x y => x + y)) (lR 0) (eC (nI 1)))) sk))))
 (sInc 5 (nI 1)))))
 (sInc 3 (nI 1))))
 rtnU))
theorem m_M_laysFree : MJ 4 [13, 87] yX12_laysFree none eU (d_M_laysFree) := MJ_of (K := K_M_laysFree) (ri := .return_) (n1 := 0) (n2 := 0) (n3 := 0)
 (SJ_sq (p0 := 0) (p1 := 5) (nN := 0) (nB := 0) (nC := 0) (SJ_putI (z := false) (t := 13) (c := 12) (kf := 25) (r := (RX12, TX12, 52)) (p0 := 0) (p1 := 1) (p2 := 2) (EJ_aload_n (j := 0) (i := 0) (pc := 0) D_M_laysFree_0 rfl) (EJ_iconst (n := 0) (v := (nI 0)) (pc := 1) D_M_laysFree_1 (by decide +kernel)) D_M_laysFree_2 ⟨rfl, rfl, by decide, q_957⟩ (Or.inl rfl) (fun _ _ => ⟨rfl, rfl⟩) (fun _ _ => rfl) (show (13 : Nat) ∈ ([13, 87] : List Nat) from by decide))
 (SJ_sq (p0 := 5) (p1 := 174) (nN := 0) (nB := 0) (nC := 0) (SJ_sq (p0 := 5) (p1 := 7) (nN := 174) (nB := 0) (nC := 0) (SJ_istore_n (i := 3) (j := 3) (p0 := 5) (p1 := 6) (EJ_iconst (n := 0) (v := (nI 0)) (pc := 5) D_M_laysFree_5 (by decide +kernel)) D_M_laysFree_6 rfl)
 (SJ_loop (p0 := 7) (pB := 21) (pS := 168) (pE := 174) (CJ_lt' (off := 156) (tgt := 174) (p0 := 7) (p1 := 8) (p2 := 18) (EJ_iload_n (j := 3) (i := 3) (pc := 7) D_M_laysFree_7 rfl) (EJ_iald (p0 := 8) (p1 := 12) (p2 := 17) (EJ_getR (t := 13) (c := 12) (kf := 0) (r := (RX12, TX12, 52)) (p0 := 8) (p1 := 9) (EJ_aload_n (j := 0) (i := 0) (pc := 8) D_M_laysFree_8 rfl) D_M_laysFree_9 ⟨rfl, rfl, by decide, q_932⟩ (fun _ _ => rfl)) (EJ_callS (p0 := 12) (p1 := 14) (AJ_I (p0 := 12) (p1 := 13) (p2 := 14) (EJ_iload_n (j := 1) (i := 1) (pc := 12) D_M_laysFree_12 rfl) (AJ_I (p0 := 13) (p1 := 14) (p2 := 14) (EJ_iload_n (j := 2) (i := 2) (pc := 13) D_M_laysFree_13 rfl) AJ_nil)) m_M_choiceAt E1_I D_M_laysFree_14 q_1218 q_1219 q_97 ⟨by decide +kernel, by decide +kernel, by decide +kernel⟩ (by decide) (show 2 + 1 ≤ 4 from by decide) (fun _ h => absurd h List.not_mem_nil)) D_M_laysFree_17) D_M_laysFree_18 rfl)
 (SJ_sq (p0 := 21) (p1 := 31) (nN := 168) (nB := 174) (nC := 168) (SJ_istore (i := 4) (p0 := 21) (p1 := 29) (EJ_iadd (p0 := 21) (p1 := 27) (p2 := 28) (EJ_callS (p0 := 21) (p1 := 24) (AJ_I (p0 := 21) (p1 := 22) (p2 := 24) (EJ_iload_n (j := 1) (i := 1) (pc := 21) D_M_laysFree_21 rfl) (AJ_I (p0 := 22) (p1 := 23) (p2 := 24) (EJ_iload_n (j := 2) (i := 2) (pc := 22) D_M_laysFree_22 rfl) (AJ_I (p0 := 23) (p1 := 24) (p2 := 24) (EJ_iload_n (j := 3) (i := 3) (pc := 23) D_M_laysFree_23 rfl) AJ_nil))) m_M_memberAt E1_I D_M_laysFree_24 q_1221 q_1222 q_97 ⟨by decide +kernel, by decide +kernel, by decide +kernel⟩ (by decide) (show 3 + 1 ≤ 4 from by decide) (fun _ h => absurd h List.not_mem_nil)) (EJ_iconst (n := 1) (v := (nI 1)) (pc := 27) D_M_laysFree_27 (by decide +kernel)) D_M_laysFree_28) D_M_laysFree_29)
 (SJ_sq (p0 := 31) (p1 := 34) (nN := 168) (nB := 174) (nC := 168) (SJ_istore (i := 5) (p0 := 31) (p1 := 32) (EJ_iconst (n := 1) (v := (nI 1)) (pc := 31) D_M_laysFree_31 (by decide +kernel)) D_M_laysFree_32)
 (SJ_loop (p0 := 34) (pB := 46) (pS := 162) (pE := 168) (CJ_le' (off := 125) (tgt := 168) (p0 := 34) (p1 := 36) (p2 := 43) (EJ_iload (i := 5) (pc := 34) D_M_laysFree_34) (EJ_iald (p0 := 36) (p1 := 40) (p2 := 42) (EJ_getR (t := 13) (c := 12) (kf := 0) (r := (RX12, TX12, 52)) (p0 := 36) (p1 := 37) (EJ_aload_n (j := 0) (i := 0) (pc := 36) D_M_laysFree_36 rfl) D_M_laysFree_37 ⟨rfl, rfl, by decide, q_932⟩ (fun _ _ => rfl)) (EJ_iload (i := 4) (pc := 40) D_M_laysFree_40) D_M_laysFree_42) D_M_laysFree_43 rfl)
 (SJ_sq (p0 := 46) (p1 := 58) (nN := 162) (nB := 168) (nC := 162) (SJ_istore (i := 6) (p0 := 46) (p1 := 56) (EJ_iald (p0 := 46) (p1 := 50) (p2 := 55) (EJ_getR (t := 13) (c := 12) (kf := 0) (r := (RX12, TX12, 52)) (p0 := 46) (p1 := 47) (EJ_aload_n (j := 0) (i := 0) (pc := 46) D_M_laysFree_46 rfl) D_M_laysFree_47 ⟨rfl, rfl, by decide, q_932⟩ (fun _ _ => rfl)) (EJ_iadd (p0 := 50) (p1 := 52) (p2 := 54) (EJ_iload (i := 4) (pc := 50) D_M_laysFree_50) (EJ_iload (i := 5) (pc := 52) D_M_laysFree_52) D_M_laysFree_54) D_M_laysFree_55) D_M_laysFree_56)
 (SJ_sq (p0 := 58) (p1 := 86) (nN := 162) (nB := 168) (nC := 162) (SJ_istore (i := 7) (p0 := 58) (p1 := 84) (EJ_if (p0 := 58) (pT := 79) (pF := 83) (pE := 80) (p1 := 84) (CJ_and (p0 := 58) (pM := 66) (pT := 79) (pF := 83) (CZ_ne' (off := 20) (tgt := 83) (p0 := 58) (p1 := 63) (EJ_callS (p0 := 58) (p1 := 60) (AJ_I (p0 := 58) (p1 := 60) (p2 := 60) (EJ_iload (i := 6) (pc := 58) D_M_laysFree_58) AJ_nil) m_M_isCapital E1_I D_M_laysFree_60 q_1074 q_1075 q_97 ⟨by decide +kernel, by decide +kernel, by decide +kernel⟩ (by decide) (show 2 + 1 ≤ 4 from by decide) (fun _ h => absurd h List.not_mem_nil)) D_M_laysFree_63 rfl) (CJ_not (p0 := 66) (pT := 79) (pF := 83) (CZ_ne (off := 7) (tgt := 83) (p0 := 66) (p1 := 76) (EJ_callV (t := 13) (c := 12) (r := (RX12, TX12, 52)) (p0 := 66) (p1 := 67) (p2 := 73) (EJ_aload_n (j := 0) (i := 0) (pc := 66) D_M_laysFree_66 rfl) (AJ_I (p0 := 67) (p1 := 71) (p2 := 73) (EJ_callS (p0 := 67) (p1 := 68) (AJ_I (p0 := 67) (p1 := 68) (p2 := 68) (EJ_iload_n (j := 1) (i := 1) (pc := 67) D_M_laysFree_67 rfl) AJ_nil) m_M_ruleAt E1_I D_M_laysFree_68 q_1209 q_1210 q_97 ⟨by decide +kernel, by decide +kernel, by decide +kernel⟩ (by decide) (show 1 + 1 ≤ 4 from by decide) (fun _ h => absurd h List.not_mem_nil)) (AJ_I (p0 := 71) (p1 := 73) (p2 := 73) (EJ_iload (i := 6) (pc := 71) D_M_laysFree_71) AJ_nil)) m_M_rowHas E1_I D_M_laysFree_73 rfl rfl rfl q_1212 q_1213 q_69 q_97 ⟨by decide +kernel, by decide +kernel, by decide +kernel⟩ (by decide) (show 1 + 1 ≤ 4 from by decide) (fun _ h => absurd h List.not_mem_nil)) D_M_laysFree_76 rfl))) (EJ_iconst (n := 1) (v := (nI 1)) (pc := 79) D_M_laysFree_79 (by decide +kernel)) (Lead.goto (K := K_M_laysFree) (pc := 80) (tgt := 84) D_M_laysFree_80 rfl) (EJ_iconst (n := 0) (v := (nI 0)) (pc := 83) D_M_laysFree_83 (by decide +kernel))) D_M_laysFree_84)
 (SJ_sq (p0 := 86) (p1 := 132) (nN := 162) (nB := 168) (nC := 162) (SJ_sq (p0 := 86) (p1 := 89) (nN := 132) (nB := 168) (nC := 162) (SJ_istore (i := 8) (p0 := 86) (p1 := 87) (EJ_iconst (n := 0) (v := (nI 0)) (pc := 86) D_M_laysFree_86 (by decide +kernel)) D_M_laysFree_87)
 (SJ_loop (p0 := 89) (pB := 98) (pS := 126) (pE := 132) (CJ_lt' (off := 37) (tgt := 132) (p0 := 89) (p1 := 91) (p2 := 95) (EJ_iload (i := 8) (pc := 89) D_M_laysFree_89) (EJ_getI (t := 13) (c := 12) (kf := 25) (r := (RX12, TX12, 52)) (p0 := 91) (p1 := 92) (EJ_aload_n (j := 0) (i := 0) (pc := 91) D_M_laysFree_91 rfl) D_M_laysFree_92 ⟨rfl, rfl, by decide, q_957⟩ (fun _ _ => rfl)) D_M_laysFree_95 rfl)
 (SJ_istore (i := 7) (p0 := 98) (p1 := 124) (EJ_if (p0 := 98) (pT := 119) (pF := 123) (pE := 120) (p1 := 124) (CJ_and (p0 := 98) (pM := 103) (pT := 119) (pF := 123) (CZ_ne' (off := 23) (tgt := 123) (p0 := 98) (p1 := 100) (EJ_iload (i := 7) (pc := 98) D_M_laysFree_98) D_M_laysFree_100 rfl) (CJ_ne' (off := 7) (tgt := 123) (p0 := 103) (p1 := 110) (p2 := 116) (EJ_iald (p0 := 103) (p1 := 107) (p2 := 109) (EJ_getR (t := 13) (c := 12) (kf := 24) (r := (RX12, TX12, 52)) (p0 := 103) (p1 := 104) (EJ_aload_n (j := 0) (i := 0) (pc := 103) D_M_laysFree_103 rfl) D_M_laysFree_104 ⟨rfl, rfl, by decide, q_956⟩ (fun _ _ => rfl)) (EJ_iload (i := 8) (pc := 107) D_M_laysFree_107) D_M_laysFree_109) (EJ_callV (t := 13) (c := 12) (r := (RX12, TX12, 52)) (p0 := 110) (p1 := 111) (p2 := 113) (EJ_aload_n (j := 0) (i := 0) (pc := 110) D_M_laysFree_110 rfl) (AJ_I (p0 := 111) (p1 := 113) (p2 := 113) (EJ_iload (i := 6) (pc := 111) D_M_laysFree_111) AJ_nil) m_M_metaOf E1_I D_M_laysFree_113 rfl rfl rfl q_1161 q_1162 q_56 q_97 ⟨by decide +kernel, by decide +kernel, by decide +kernel⟩ (by decide) (show 1 + 1 ≤ 4 from by decide) (fun _ h => absurd h List.not_mem_nil)) D_M_laysFree_116 rfl)) (EJ_iconst (n := 1) (v := (nI 1)) (pc := 119) D_M_laysFree_119 (by decide +kernel)) (Lead.goto (K := K_M_laysFree) (pc := 120) (tgt := 124) D_M_laysFree_120 rfl) (EJ_iconst (n := 0) (v := (nI 0)) (pc := 123) D_M_laysFree_123 (by decide +kernel))) D_M_laysFree_124)
 (SJ_post (SJ_iinc (i := 8) (n := 1) (v := (nI 1)) (pc := 126) D_M_laysFree_126 (by decide +kernel)) (Lead.goto (K := K_M_laysFree) (pc := 129) (tgt := 89) D_M_laysFree_129 rfl))))
 (SJ_if (p0 := 132) (pT := 137) (pF := 162) (nN := 162) (nB := 168) (nC := 162) (CZ_ne' (off := 28) (tgt := 162) (p0 := 132) (p1 := 134) (EJ_iload (i := 7) (pc := 132) D_M_laysFree_132) D_M_laysFree_134 rfl) (SJ_sq (p0 := 137) (p1 := 152) (nN := 162) (nB := 168) (nC := 162) (SJ_iast (ws := [87]) (p0 := 137) (p1 := 141) (p2 := 145) (p3 := 151) (EJ_getR (t := 13) (c := 12) (kf := 24) (r := (RX12, TX12, 52)) (p0 := 137) (p1 := 138) (EJ_aload_n (j := 0) (i := 0) (pc := 137) D_M_laysFree_137 rfl) D_M_laysFree_138 ⟨rfl, rfl, by decide, q_956⟩ (fun _ _ => rfl)) (EJ_getI (t := 13) (c := 12) (kf := 25) (r := (RX12, TX12, 52)) (p0 := 141) (p1 := 142) (EJ_aload_n (j := 0) (i := 0) (pc := 141) D_M_laysFree_141 rfl) D_M_laysFree_142 ⟨rfl, rfl, by decide, q_957⟩ (fun _ _ => rfl)) (EJ_callV (t := 13) (c := 12) (r := (RX12, TX12, 52)) (p0 := 145) (p1 := 146) (p2 := 148) (EJ_aload_n (j := 0) (i := 0) (pc := 145) D_M_laysFree_145 rfl) (AJ_I (p0 := 146) (p1 := 148) (p2 := 148) (EJ_iload (i := 6) (pc := 146) D_M_laysFree_146) AJ_nil) m_M_metaOf E1_I D_M_laysFree_148 rfl rfl rfl q_1161 q_1162 q_56 q_97 ⟨by decide +kernel, by decide +kernel, by decide +kernel⟩ (by decide) (show 1 + 1 ≤ 4 from by decide) (fun _ h => absurd h List.not_mem_nil)) D_M_laysFree_151 (show ∀ x_ ∈ ([87] : List Nat), x_ ∈ ([13, 87] : List Nat) from by decide))
 (SJ_upF (z := false) (t := 13) (c := 12) (kf := 25) (r := (RX12, TX12, 52)) (f := (fun x y => x + y)) (p0 := 152) (p1 := 153) (p3 := 158) (EJ_aload_n (j := 0) (i := 0) (pc := 152) D_M_laysFree_152 rfl) D_M_laysFree_153 D_M_laysFree_154 (EJ_iconst (n := 1) (v := (nI 1)) (pc := 157) D_M_laysFree_157 (by decide +kernel)) (Op2_iadd D_M_laysFree_158) D_M_laysFree_159 ⟨rfl, rfl, by decide, q_957⟩ ⟨rfl, rfl, by decide, q_957⟩ (Or.inl rfl) (fun _ _ => ⟨rfl, rfl⟩) (fun _ _ => rfl) (show (13 : Nat) ∈ ([13, 87] : List Nat) from by decide))) SJ_sk))))
 (SJ_post (SJ_iinc (i := 5) (n := 1) (v := (nI 1)) (pc := 162) D_M_laysFree_162 (by decide +kernel)) (Lead.goto (K := K_M_laysFree) (pc := 165) (tgt := 34) D_M_laysFree_165 rfl)))))
 (SJ_post (SJ_iinc (i := 3) (n := 1) (v := (nI 1)) (pc := 168) D_M_laysFree_168 (by decide +kernel)) (Lead.goto (K := K_M_laysFree) (pc := 171) (tgt := 7) D_M_laysFree_171 rfl))))
 (SJ_retU (pc := 174) D_M_laysFree_174)))
 RTm_void q_1261 (by decide +kernel) rfl (fun h => by cases h) (show 9 ≤ 40 from by decide) (fun _ => trivial)
theorem D_M_isWord_0 : decode cX12_isWord 0 = .ok (.sipush (1596), 3) := by decide +kernel
theorem D_M_isWord_3 : decode cX12_isWord 3 = .ok (.bipush (11), 2) := by decide +kernel
theorem D_M_isWord_5 : decode cX12_isWord 5 = .ok (.iload_n 1, 1) := by decide +kernel
theorem D_M_isWord_6 : decode cX12_isWord 6 = .ok (.imul, 1) := by decide +kernel
theorem D_M_isWord_7 : decode cX12_isWord 7 = .ok (.iadd, 1) := by decide +kernel
theorem D_M_isWord_8 : decode cX12_isWord 8 = .ok (.istore_n 2, 1) := by decide +kernel
theorem D_M_isWord_9 : decode cX12_isWord 9 = .ok (.aload_n 0, 1) := by decide +kernel
theorem D_M_isWord_10 : decode cX12_isWord 10 = .ok (.getfield 357, 3) := by decide +kernel
theorem D_M_isWord_13 : decode cX12_isWord 13 = .ok (.aload_n 0, 1) := by decide +kernel
theorem D_M_isWord_14 : decode cX12_isWord 14 = .ok (.getfield 9, 3) := by decide +kernel
theorem D_M_isWord_17 : decode cX12_isWord 17 = .ok (.iload_n 2, 1) := by decide +kernel
theorem D_M_isWord_18 : decode cX12_isWord 18 = .ok (.iaload, 1) := by decide +kernel
theorem D_M_isWord_19 : decode cX12_isWord 19 = .ok (.if_icmp .ne (7), 3) := by decide +kernel
theorem D_M_isWord_22 : decode cX12_isWord 22 = .ok (.iconst (1), 1) := by decide +kernel
theorem D_M_isWord_23 : decode cX12_isWord 23 = .ok (.goto (4), 3) := by decide +kernel
theorem D_M_isWord_26 : decode cX12_isWord 26 = .ok (.iconst (0), 1) := by decide +kernel
theorem D_M_isWord_27 : decode cX12_isWord 27 = .ok (.istore_n 3, 1) := by decide +kernel
theorem D_M_isWord_28 : decode cX12_isWord 28 = .ok (.iconst (0), 1) := by decide +kernel
theorem D_M_isWord_29 : decode cX12_isWord 29 = .ok (.istore 4, 2) := by decide +kernel
theorem D_M_isWord_31 : decode cX12_isWord 31 = .ok (.iload 4, 2) := by decide +kernel
theorem D_M_isWord_33 : decode cX12_isWord 33 = .ok (.aload_n 0, 1) := by decide +kernel
theorem D_M_isWord_34 : decode cX12_isWord 34 = .ok (.getfield 357, 3) := by decide +kernel
theorem D_M_isWord_37 : decode cX12_isWord 37 = .ok (.if_icmp .ge (40), 3) := by decide +kernel
theorem D_M_isWord_40 : decode cX12_isWord 40 = .ok (.iload_n 3, 1) := by decide +kernel
theorem D_M_isWord_41 : decode cX12_isWord 41 = .ok (.ifCond .eq (36), 3) := by decide +kernel
theorem D_M_isWord_44 : decode cX12_isWord 44 = .ok (.aload_n 0, 1) := by decide +kernel
theorem D_M_isWord_45 : decode cX12_isWord 45 = .ok (.getfield 105, 3) := by decide +kernel
theorem D_M_isWord_48 : decode cX12_isWord 48 = .ok (.iload 4, 2) := by decide +kernel
theorem D_M_isWord_50 : decode cX12_isWord 50 = .ok (.iaload, 1) := by decide +kernel
theorem D_M_isWord_51 : decode cX12_isWord 51 = .ok (.aload_n 0, 1) := by decide +kernel
theorem D_M_isWord_52 : decode cX12_isWord 52 = .ok (.getfield 9, 3) := by decide +kernel
theorem D_M_isWord_55 : decode cX12_isWord 55 = .ok (.iload_n 2, 1) := by decide +kernel
theorem D_M_isWord_56 : decode cX12_isWord 56 = .ok (.iconst (1), 1) := by decide +kernel
theorem D_M_isWord_57 : decode cX12_isWord 57 = .ok (.iadd, 1) := by decide +kernel
theorem D_M_isWord_58 : decode cX12_isWord 58 = .ok (.iload 4, 2) := by decide +kernel
theorem D_M_isWord_60 : decode cX12_isWord 60 = .ok (.iadd, 1) := by decide +kernel
theorem D_M_isWord_61 : decode cX12_isWord 61 = .ok (.iaload, 1) := by decide +kernel
theorem D_M_isWord_62 : decode cX12_isWord 62 = .ok (.if_icmp .ne (7), 3) := by decide +kernel
theorem D_M_isWord_65 : decode cX12_isWord 65 = .ok (.iconst (1), 1) := by decide +kernel
theorem D_M_isWord_66 : decode cX12_isWord 66 = .ok (.goto (4), 3) := by decide +kernel
theorem D_M_isWord_69 : decode cX12_isWord 69 = .ok (.iconst (0), 1) := by decide +kernel
theorem D_M_isWord_70 : decode cX12_isWord 70 = .ok (.istore_n 3, 1) := by decide +kernel
theorem D_M_isWord_71 : decode cX12_isWord 71 = .ok (.iinc 4 (1), 3) := by decide +kernel
theorem D_M_isWord_74 : decode cX12_isWord 74 = .ok (.goto (-43), 3) := by decide +kernel
theorem D_M_isWord_77 : decode cX12_isWord 77 = .ok (.iload_n 3, 1) := by decide +kernel
theorem D_M_isWord_78 : decode cX12_isWord 78 = .ok (.ireturn, 1) := by decide +kernel
def K_M_isWord : SC := (cX12_isWord, "TwoLevelsModel", 5, 1, false, [], NoQ)
def d_M_isWord : MD Int32 := mth zz 5 (sq (sI1 2 (eh2 iaddF (eC (nI 1596)) (eh2 imulF (eC (nI 11)) (lI 1))))
 (sq (sI1 3 (eIf (eh2 c_eq (eh1 (gI 13 49) (lR 0)) (eh2 (aI .int) (eh1 (gR 13 0) (lR 0)) (lI 2))) (eC (nI 1)) (eC (nI 0))))
 (sq (sq (sI1 4 (eC (nI 0)))
 (loop (cAnd (eh2 c_lt (lI 4) (eh1 (gI 13 49) (lR 0))) (eh1 z_ne (lI 3)))
 (sI1 3 (eIf (eh2 c_eq (eh2 (aI .int) (eh1 (gR 13 48) (lR 0)) (lI 4)) (eh2 (aI .int) (eh1 (gR 13 0) (lR 0)) (eh2 iaddF (eh2 iaddF (lI 2) (eC (nI 1))) (lI 4)))) (eC (nI 1)) (eC (nI 0))))
 (sInc 4 (nI 1))))
 (rtn (lI 3)))))
theorem m_M_isWord : MJ 1 [] yX12_isWord (some .boolean) eI (d_M_isWord) := MJ_of (K := K_M_isWord) (ri := .ireturn) (n1 := 0) (n2 := 0) (n3 := 0)
 (SJ_sq (p0 := 0) (p1 := 9) (nN := 0) (nB := 0) (nC := 0) (SJ_istore_n (i := 2) (j := 2) (p0 := 0) (p1 := 8) (EJ_iadd (p0 := 0) (p1 := 3) (p2 := 7) (EJ_sipush (n := 1596) (v := (nI 1596)) (pc := 0) D_M_isWord_0 (by decide +kernel)) (EJ_imul (p0 := 3) (p1 := 5) (p2 := 6) (EJ_bipush (n := 11) (v := (nI 11)) (pc := 3) D_M_isWord_3 (by decide +kernel)) (EJ_iload_n (j := 1) (i := 1) (pc := 5) D_M_isWord_5 rfl) D_M_isWord_6) D_M_isWord_7) D_M_isWord_8 rfl)
 (SJ_sq (p0 := 9) (p1 := 28) (nN := 0) (nB := 0) (nC := 0) (SJ_istore_n (i := 3) (j := 3) (p0 := 9) (p1 := 27) (EJ_if (p0 := 9) (pT := 22) (pF := 26) (pE := 23) (p1 := 27) (CJ_eq' (off := 7) (tgt := 26) (p0 := 9) (p1 := 13) (p2 := 19) (EJ_getI (t := 13) (c := 12) (kf := 49) (r := (RX12, TX12, 52)) (p0 := 9) (p1 := 10) (EJ_aload_n (j := 0) (i := 0) (pc := 9) D_M_isWord_9 rfl) D_M_isWord_10 ⟨rfl, rfl, by decide, q_981⟩ (fun _ _ => rfl)) (EJ_iald (p0 := 13) (p1 := 17) (p2 := 18) (EJ_getR (t := 13) (c := 12) (kf := 0) (r := (RX12, TX12, 52)) (p0 := 13) (p1 := 14) (EJ_aload_n (j := 0) (i := 0) (pc := 13) D_M_isWord_13 rfl) D_M_isWord_14 ⟨rfl, rfl, by decide, q_932⟩ (fun _ _ => rfl)) (EJ_iload_n (j := 2) (i := 2) (pc := 17) D_M_isWord_17 rfl) D_M_isWord_18) D_M_isWord_19 rfl) (EJ_iconst (n := 1) (v := (nI 1)) (pc := 22) D_M_isWord_22 (by decide +kernel)) (Lead.goto (K := K_M_isWord) (pc := 23) (tgt := 27) D_M_isWord_23 rfl) (EJ_iconst (n := 0) (v := (nI 0)) (pc := 26) D_M_isWord_26 (by decide +kernel))) D_M_isWord_27 rfl)
 (SJ_sq (p0 := 28) (p1 := 77) (nN := 0) (nB := 0) (nC := 0) (SJ_sq (p0 := 28) (p1 := 31) (nN := 77) (nB := 0) (nC := 0) (SJ_istore (i := 4) (p0 := 28) (p1 := 29) (EJ_iconst (n := 0) (v := (nI 0)) (pc := 28) D_M_isWord_28 (by decide +kernel)) D_M_isWord_29)
 (SJ_loop (p0 := 31) (pB := 44) (pS := 71) (pE := 77) (CJ_and (p0 := 31) (pM := 40) (pT := 44) (pF := 77) (CJ_lt' (off := 40) (tgt := 77) (p0 := 31) (p1 := 33) (p2 := 37) (EJ_iload (i := 4) (pc := 31) D_M_isWord_31) (EJ_getI (t := 13) (c := 12) (kf := 49) (r := (RX12, TX12, 52)) (p0 := 33) (p1 := 34) (EJ_aload_n (j := 0) (i := 0) (pc := 33) D_M_isWord_33 rfl) D_M_isWord_34 ⟨rfl, rfl, by decide, q_981⟩ (fun _ _ => rfl)) D_M_isWord_37 rfl) (CZ_ne' (off := 36) (tgt := 77) (p0 := 40) (p1 := 41) (EJ_iload_n (j := 3) (i := 3) (pc := 40) D_M_isWord_40 rfl) D_M_isWord_41 rfl))
 (SJ_istore_n (i := 3) (j := 3) (p0 := 44) (p1 := 70) (EJ_if (p0 := 44) (pT := 65) (pF := 69) (pE := 66) (p1 := 70) (CJ_eq' (off := 7) (tgt := 69) (p0 := 44) (p1 := 51) (p2 := 62) (EJ_iald (p0 := 44) (p1 := 48) (p2 := 50) (EJ_getR (t := 13) (c := 12) (kf := 48) (r := (RX12, TX12, 52)) (p0 := 44) (p1 := 45) (EJ_aload_n (j := 0) (i := 0) (pc := 44) D_M_isWord_44 rfl) D_M_isWord_45 ⟨rfl, rfl, by decide, q_980⟩ (fun _ _ => rfl)) (EJ_iload (i := 4) (pc := 48) D_M_isWord_48) D_M_isWord_50) (EJ_iald (p0 := 51) (p1 := 55) (p2 := 61) (EJ_getR (t := 13) (c := 12) (kf := 0) (r := (RX12, TX12, 52)) (p0 := 51) (p1 := 52) (EJ_aload_n (j := 0) (i := 0) (pc := 51) D_M_isWord_51 rfl) D_M_isWord_52 ⟨rfl, rfl, by decide, q_932⟩ (fun _ _ => rfl)) (EJ_iadd (p0 := 55) (p1 := 58) (p2 := 60) (EJ_iadd (p0 := 55) (p1 := 56) (p2 := 57) (EJ_iload_n (j := 2) (i := 2) (pc := 55) D_M_isWord_55 rfl) (EJ_iconst (n := 1) (v := (nI 1)) (pc := 56) D_M_isWord_56 (by decide +kernel)) D_M_isWord_57) (EJ_iload (i := 4) (pc := 58) D_M_isWord_58) D_M_isWord_60) D_M_isWord_61) D_M_isWord_62 rfl) (EJ_iconst (n := 1) (v := (nI 1)) (pc := 65) D_M_isWord_65 (by decide +kernel)) (Lead.goto (K := K_M_isWord) (pc := 66) (tgt := 70) D_M_isWord_66 rfl) (EJ_iconst (n := 0) (v := (nI 0)) (pc := 69) D_M_isWord_69 (by decide +kernel))) D_M_isWord_70 rfl)
 (SJ_post (SJ_iinc (i := 4) (n := 1) (v := (nI 1)) (pc := 71) D_M_isWord_71 (by decide +kernel)) (Lead.goto (K := K_M_isWord) (pc := 74) (tgt := 31) D_M_isWord_74 rfl))))
 (SJ_ret (p0 := 77) (p1 := 78) (EJ_iload_n (j := 3) (i := 3) (pc := 77) D_M_isWord_77 rfl) D_M_isWord_78))))
 RTm_bool q_1314 (by decide +kernel) rfl (fun h => by cases h) (show 5 ≤ 40 from by decide) (fun _ => trivial)
theorem D_M_makes_0 : decode cX12_makes 0 = .ok (.aload_n 0, 1) := by decide +kernel
theorem D_M_makes_1 : decode cX12_makes 1 = .ok (.iconst (0), 1) := by decide +kernel
theorem D_M_makes_2 : decode cX12_makes 2 = .ok (.putfield 357, 3) := by decide +kernel
theorem D_M_makes_5 : decode cX12_makes 5 = .ok (.iconst (1), 1) := by decide +kernel
theorem D_M_makes_6 : decode cX12_makes 6 = .ok (.istore_n 3, 1) := by decide +kernel
theorem D_M_makes_7 : decode cX12_makes 7 = .ok (.iload_n 3, 1) := by decide +kernel
theorem D_M_makes_8 : decode cX12_makes 8 = .ok (.aload_n 0, 1) := by decide +kernel
theorem D_M_makes_9 : decode cX12_makes 9 = .ok (.getfield 9, 3) := by decide +kernel
theorem D_M_makes_12 : decode cX12_makes 12 = .ok (.iload_n 2, 1) := by decide +kernel
theorem D_M_makes_13 : decode cX12_makes 13 = .ok (.iaload, 1) := by decide +kernel
theorem D_M_makes_14 : decode cX12_makes 14 = .ok (.if_icmp .gt (206), 3) := by decide +kernel
theorem D_M_makes_17 : decode cX12_makes 17 = .ok (.aload_n 0, 1) := by decide +kernel
theorem D_M_makes_18 : decode cX12_makes 18 = .ok (.getfield 9, 3) := by decide +kernel
theorem D_M_makes_21 : decode cX12_makes 21 = .ok (.iload_n 2, 1) := by decide +kernel
theorem D_M_makes_22 : decode cX12_makes 22 = .ok (.iload_n 3, 1) := by decide +kernel
theorem D_M_makes_23 : decode cX12_makes 23 = .ok (.iadd, 1) := by decide +kernel
theorem D_M_makes_24 : decode cX12_makes 24 = .ok (.iaload, 1) := by decide +kernel
theorem D_M_makes_25 : decode cX12_makes 25 = .ok (.istore 4, 2) := by decide +kernel
theorem D_M_makes_27 : decode cX12_makes 27 = .ok (.iload 4, 2) := by decide +kernel
theorem D_M_makes_29 : decode cX12_makes 29 = .ok (.invokestatic 137, 3) := by decide +kernel
theorem D_M_makes_32 : decode cX12_makes 32 = .ok (.ifCond .eq (27), 3) := by decide +kernel
theorem D_M_makes_35 : decode cX12_makes 35 = .ok (.aload_n 0, 1) := by decide +kernel
theorem D_M_makes_36 : decode cX12_makes 36 = .ok (.getfield 105, 3) := by decide +kernel
theorem D_M_makes_39 : decode cX12_makes 39 = .ok (.aload_n 0, 1) := by decide +kernel
theorem D_M_makes_40 : decode cX12_makes 40 = .ok (.getfield 357, 3) := by decide +kernel
theorem D_M_makes_43 : decode cX12_makes 43 = .ok (.iload 4, 2) := by decide +kernel
theorem D_M_makes_45 : decode cX12_makes 45 = .ok (.iastore, 1) := by decide +kernel
theorem D_M_makes_46 : decode cX12_makes 46 = .ok (.aload_n 0, 1) := by decide +kernel
theorem D_M_makes_47 : decode cX12_makes 47 = .ok (.dup, 1) := by decide +kernel
theorem D_M_makes_48 : decode cX12_makes 48 = .ok (.getfield 357, 3) := by decide +kernel
theorem D_M_makes_51 : decode cX12_makes 51 = .ok (.iconst (1), 1) := by decide +kernel
theorem D_M_makes_52 : decode cX12_makes 52 = .ok (.iadd, 1) := by decide +kernel
theorem D_M_makes_53 : decode cX12_makes 53 = .ok (.putfield 357, 3) := by decide +kernel
theorem D_M_makes_56 : decode cX12_makes 56 = .ok (.goto (158), 3) := by decide +kernel
theorem D_M_makes_59 : decode cX12_makes 59 = .ok (.aload_n 0, 1) := by decide +kernel
theorem D_M_makes_60 : decode cX12_makes 60 = .ok (.iload 4, 2) := by decide +kernel
theorem D_M_makes_62 : decode cX12_makes 62 = .ok (.invokevirtual 220, 3) := by decide +kernel
theorem D_M_makes_65 : decode cX12_makes 65 = .ok (.istore 5, 2) := by decide +kernel
theorem D_M_makes_67 : decode cX12_makes 67 = .ok (.aload_n 0, 1) := by decide +kernel
theorem D_M_makes_68 : decode cX12_makes 68 = .ok (.getfield 69, 3) := by decide +kernel
theorem D_M_makes_71 : decode cX12_makes 71 = .ok (.bipush (6), 2) := by decide +kernel
theorem D_M_makes_73 : decode cX12_makes 73 = .ok (.iload_n 1, 1) := by decide +kernel
theorem D_M_makes_74 : decode cX12_makes 74 = .ok (.imul, 1) := by decide +kernel
theorem D_M_makes_75 : decode cX12_makes 75 = .ok (.iload 5, 2) := by decide +kernel
theorem D_M_makes_77 : decode cX12_makes 77 = .ok (.iadd, 1) := by decide +kernel
theorem D_M_makes_78 : decode cX12_makes 78 = .ok (.iaload, 1) := by decide +kernel
theorem D_M_makes_79 : decode cX12_makes 79 = .ok (.iconst (-1), 1) := by decide +kernel
theorem D_M_makes_80 : decode cX12_makes 80 = .ok (.if_icmp .ne (7), 3) := by decide +kernel
theorem D_M_makes_83 : decode cX12_makes 83 = .ok (.iconst (1), 1) := by decide +kernel
theorem D_M_makes_84 : decode cX12_makes 84 = .ok (.goto (4), 3) := by decide +kernel
theorem D_M_makes_87 : decode cX12_makes 87 = .ok (.iconst (0), 1) := by decide +kernel
theorem D_M_makes_88 : decode cX12_makes 88 = .ok (.istore 6, 2) := by decide +kernel
theorem D_M_makes_90 : decode cX12_makes 90 = .ok (.bipush (20), 2) := by decide +kernel
theorem D_M_makes_92 : decode cX12_makes 92 = .ok (.iload 5, 2) := by decide +kernel
theorem D_M_makes_94 : decode cX12_makes 94 = .ok (.imul, 1) := by decide +kernel
theorem D_M_makes_95 : decode cX12_makes 95 = .ok (.aload_n 0, 1) := by decide +kernel
theorem D_M_makes_96 : decode cX12_makes 96 = .ok (.getfield 93, 3) := by decide +kernel
theorem D_M_makes_99 : decode cX12_makes 99 = .ok (.bipush (6), 2) := by decide +kernel
theorem D_M_makes_101 : decode cX12_makes 101 = .ok (.iload_n 1, 1) := by decide +kernel
theorem D_M_makes_102 : decode cX12_makes 102 = .ok (.imul, 1) := by decide +kernel
theorem D_M_makes_103 : decode cX12_makes 103 = .ok (.iload 5, 2) := by decide +kernel
theorem D_M_makes_105 : decode cX12_makes 105 = .ok (.iadd, 1) := by decide +kernel
theorem D_M_makes_106 : decode cX12_makes 106 = .ok (.iaload, 1) := by decide +kernel
theorem D_M_makes_107 : decode cX12_makes 107 = .ok (.iadd, 1) := by decide +kernel
theorem D_M_makes_108 : decode cX12_makes 108 = .ok (.istore 7, 2) := by decide +kernel
theorem D_M_makes_110 : decode cX12_makes 110 = .ok (.iload 6, 2) := by decide +kernel
theorem D_M_makes_112 : decode cX12_makes 112 = .ok (.ifCond .eq (13), 3) := by decide +kernel
theorem D_M_makes_115 : decode cX12_makes 115 = .ok (.aload_n 0, 1) := by decide +kernel
theorem D_M_makes_116 : decode cX12_makes 116 = .ok (.getfield 51, 3) := by decide +kernel
theorem D_M_makes_119 : decode cX12_makes 119 = .ok (.iload 7, 2) := by decide +kernel
theorem D_M_makes_121 : decode cX12_makes 121 = .ok (.iaload, 1) := by decide +kernel
theorem D_M_makes_122 : decode cX12_makes 122 = .ok (.goto (15), 3) := by decide +kernel
theorem D_M_makes_125 : decode cX12_makes 125 = .ok (.aload_n 0, 1) := by decide +kernel
theorem D_M_makes_126 : decode cX12_makes 126 = .ok (.getfield 69, 3) := by decide +kernel
theorem D_M_makes_129 : decode cX12_makes 129 = .ok (.bipush (6), 2) := by decide +kernel
theorem D_M_makes_131 : decode cX12_makes 131 = .ok (.iload_n 1, 1) := by decide +kernel
theorem D_M_makes_132 : decode cX12_makes 132 = .ok (.imul, 1) := by decide +kernel
theorem D_M_makes_133 : decode cX12_makes 133 = .ok (.iload 5, 2) := by decide +kernel
theorem D_M_makes_135 : decode cX12_makes 135 = .ok (.iadd, 1) := by decide +kernel
theorem D_M_makes_136 : decode cX12_makes 136 = .ok (.iaload, 1) := by decide +kernel
theorem D_M_makes_137 : decode cX12_makes 137 = .ok (.istore 8, 2) := by decide +kernel
theorem D_M_makes_139 : decode cX12_makes 139 = .ok (.iconst (0), 1) := by decide +kernel
theorem D_M_makes_140 : decode cX12_makes 140 = .ok (.istore 9, 2) := by decide +kernel
theorem D_M_makes_142 : decode cX12_makes 142 = .ok (.iload 9, 2) := by decide +kernel
theorem D_M_makes_144 : decode cX12_makes 144 = .ok (.iload 8, 2) := by decide +kernel
theorem D_M_makes_146 : decode cX12_makes 146 = .ok (.if_icmp .ge (68), 3) := by decide +kernel
theorem D_M_makes_149 : decode cX12_makes 149 = .ok (.aload_n 0, 1) := by decide +kernel
theorem D_M_makes_150 : decode cX12_makes 150 = .ok (.getfield 105, 3) := by decide +kernel
theorem D_M_makes_153 : decode cX12_makes 153 = .ok (.aload_n 0, 1) := by decide +kernel
theorem D_M_makes_154 : decode cX12_makes 154 = .ok (.getfield 357, 3) := by decide +kernel
theorem D_M_makes_157 : decode cX12_makes 157 = .ok (.iload 6, 2) := by decide +kernel
theorem D_M_makes_159 : decode cX12_makes 159 = .ok (.ifCond .eq (18), 3) := by decide +kernel
theorem D_M_makes_162 : decode cX12_makes 162 = .ok (.aload_n 0, 1) := by decide +kernel
theorem D_M_makes_163 : decode cX12_makes 163 = .ok (.getfield 54, 3) := by decide +kernel
theorem D_M_makes_166 : decode cX12_makes 166 = .ok (.iconst (3), 1) := by decide +kernel
theorem D_M_makes_167 : decode cX12_makes 167 = .ok (.iload 7, 2) := by decide +kernel
theorem D_M_makes_169 : decode cX12_makes 169 = .ok (.imul, 1) := by decide +kernel
theorem D_M_makes_170 : decode cX12_makes 170 = .ok (.iload 9, 2) := by decide +kernel
theorem D_M_makes_172 : decode cX12_makes 172 = .ok (.iadd, 1) := by decide +kernel
theorem D_M_makes_173 : decode cX12_makes 173 = .ok (.iaload, 1) := by decide +kernel
theorem D_M_makes_174 : decode cX12_makes 174 = .ok (.goto (23), 3) := by decide +kernel
theorem D_M_makes_177 : decode cX12_makes 177 = .ok (.aload_n 0, 1) := by decide +kernel
theorem D_M_makes_178 : decode cX12_makes 178 = .ok (.iload_n 1, 1) := by decide +kernel
theorem D_M_makes_179 : decode cX12_makes 179 = .ok (.aload_n 0, 1) := by decide +kernel
theorem D_M_makes_180 : decode cX12_makes 180 = .ok (.getfield 66, 3) := by decide +kernel
theorem D_M_makes_183 : decode cX12_makes 183 = .ok (.bipush (6), 2) := by decide +kernel
theorem D_M_makes_185 : decode cX12_makes 185 = .ok (.iload_n 1, 1) := by decide +kernel
theorem D_M_makes_186 : decode cX12_makes 186 = .ok (.imul, 1) := by decide +kernel
theorem D_M_makes_187 : decode cX12_makes 187 = .ok (.iload 5, 2) := by decide +kernel
theorem D_M_makes_189 : decode cX12_makes 189 = .ok (.iadd, 1) := by decide +kernel
theorem D_M_makes_190 : decode cX12_makes 190 = .ok (.iaload, 1) := by decide +kernel
theorem D_M_makes_191 : decode cX12_makes 191 = .ok (.iload 9, 2) := by decide +kernel
theorem D_M_makes_193 : decode cX12_makes 193 = .ok (.iadd, 1) := by decide +kernel
theorem D_M_makes_194 : decode cX12_makes 194 = .ok (.invokevirtual 230, 3) := by decide +kernel
theorem D_M_makes_197 : decode cX12_makes 197 = .ok (.iastore, 1) := by decide +kernel
theorem D_M_makes_198 : decode cX12_makes 198 = .ok (.aload_n 0, 1) := by decide +kernel
theorem D_M_makes_199 : decode cX12_makes 199 = .ok (.dup, 1) := by decide +kernel
theorem D_M_makes_200 : decode cX12_makes 200 = .ok (.getfield 357, 3) := by decide +kernel
theorem D_M_makes_203 : decode cX12_makes 203 = .ok (.iconst (1), 1) := by decide +kernel
theorem D_M_makes_204 : decode cX12_makes 204 = .ok (.iadd, 1) := by decide +kernel
theorem D_M_makes_205 : decode cX12_makes 205 = .ok (.putfield 357, 3) := by decide +kernel
theorem D_M_makes_208 : decode cX12_makes 208 = .ok (.iinc 9 (1), 3) := by decide +kernel
theorem D_M_makes_211 : decode cX12_makes 211 = .ok (.goto (-69), 3) := by decide +kernel
theorem D_M_makes_214 : decode cX12_makes 214 = .ok (.iinc 3 (1), 3) := by decide +kernel
theorem D_M_makes_217 : decode cX12_makes 217 = .ok (.goto (-210), 3) := by decide +kernel
theorem D_M_makes_220 : decode cX12_makes 220 = .ok (.return_, 1) := by decide +kernel
def K_M_makes : SC := (cX12_makes, "TwoLevelsModel", 10, 3, false, [13, 101], NoQ)
def d_M_makes : MD Unit := mth tt 10 (sq (sh2 (pI false 13 49) (lR 0) (eC (nI 0)))
 (sq (sq (sI1 3 (eC (nI 1)))
 (loop (eh2 c_le (lI 3) (eh2 (aI .int) (eh1 (gR 13 0) (lR 0)) (lI 2)))
 (sq (sI1 4 (eh2 (aI .int) (eh1 (gR 13 0) (lR 0)) (eh2 iaddF (lI 2) (lI 3))))
 (sq (sIf (eh1 z_ne (kS d_M_isSmall [vI (lI 4)])) (sq (sh3 (stI [101]) (eh1 (gR 13 48) (lR 0)) (eh1 (gI 13 49) (lR 0)) (lI 4))
 (sq (su2 (gI 13 49) (uF false 13 49 (fun x y => x + y)) (lR 0) (eC (nI 1)))
 cnt)) sk)
 (sq (sI1 5 (kV 13 d_M_metaOf (lR 0) [vI (lI 4)]))
 (sq (sI1 6 (eIf (eh2 c_eq (eh2 (aI .int) (eh1 (gR 13 27) (lR 0)) (eh2 iaddF (eh2 imulF (eC (nI 6)) (lI 1)) (lI 5))) (eC (-1))) (eC (nI 1)) (eC (nI 0))))
 (sq (sI1 7 (eh2 iaddF (eh2 imulF (eC (nI 20)) (lI 5)) (eh2 (aI .int) (eh1 (gR 13 43) (lR 0)) (eh2 iaddF (eh2 imulF (eC (nI 6)) (lI 1)) (lI 5)))))
 (sq (sI1 8 (eIf (eh1 z_ne (lI 6)) (eh2 (aI .int) (eh1 (gR 13 20) (lR 0)) (lI 7)) (eh2 (aI .int) (eh1 (gR 13 27) (lR 0)) (eh2 iaddF (eh2 imulF (eC (nI 6)) (lI 1)) (lI 5)))))
 (sq (sI1 9 (eC (nI 0)))
 (loop (eh2 c_lt (lI 9) (lI 8))
 (sq (sh3 (stI [101]) (eh1 (gR 13 48) (lR 0)) (eh1 (gI 13 49) (lR 0)) (eIf (eh1 z_ne (lI 6)) (eh2 (aI .int) (eh1 (gR 13 21) (lR 0)) (eh2 iaddF (eh2 imulF (eC (nI 3)) (lI 7)) (lI 9))) (kV 13 d_M_letterAt (lR 0) [vI (lI 1), vI (eh2 iaddF (eh2 (aI .int) (eh1 (gR 13 26) (lR 0)) (eh2 iaddF (eh2 imulF (eC (nI 6)) (lI 1)) (lI 5))) (lI 9))])))
 (su2 (gI 13 49) (uF false 13 49 (fun x y => x + y)) (lR 0) (eC (nI 1))))
 (sInc 9 (nI 1))))))))))
 (sInc 3 (nI 1))))
 rtnU))
theorem m_M_makes : MJ 3 [13, 101] yX12_makes none eU (d_M_makes) := MJ_of (K := K_M_makes) (ri := .return_) (n1 := 0) (n2 := 0) (n3 := 0)
 (SJ_sq (p0 := 0) (p1 := 5) (nN := 0) (nB := 0) (nC := 0) (SJ_putI (z := false) (t := 13) (c := 12) (kf := 49) (r := (RX12, TX12, 52)) (p0 := 0) (p1 := 1) (p2 := 2) (EJ_aload_n (j := 0) (i := 0) (pc := 0) D_M_makes_0 rfl) (EJ_iconst (n := 0) (v := (nI 0)) (pc := 1) D_M_makes_1 (by decide +kernel)) D_M_makes_2 ⟨rfl, rfl, by decide, q_981⟩ (Or.inl rfl) (fun _ _ => ⟨rfl, rfl⟩) (fun _ _ => rfl) (show (13 : Nat) ∈ ([13, 101] : List Nat) from by decide))
 (SJ_sq (p0 := 5) (p1 := 220) (nN := 0) (nB := 0) (nC := 0) (SJ_sq (p0 := 5) (p1 := 7) (nN := 220) (nB := 0) (nC := 0) (SJ_istore_n (i := 3) (j := 3) (p0 := 5) (p1 := 6) (EJ_iconst (n := 1) (v := (nI 1)) (pc := 5) D_M_makes_5 (by decide +kernel)) D_M_makes_6 rfl)
 (SJ_loop (p0 := 7) (pB := 17) (pS := 214) (pE := 220) (CJ_le' (off := 206) (tgt := 220) (p0 := 7) (p1 := 8) (p2 := 14) (EJ_iload_n (j := 3) (i := 3) (pc := 7) D_M_makes_7 rfl) (EJ_iald (p0 := 8) (p1 := 12) (p2 := 13) (EJ_getR (t := 13) (c := 12) (kf := 0) (r := (RX12, TX12, 52)) (p0 := 8) (p1 := 9) (EJ_aload_n (j := 0) (i := 0) (pc := 8) D_M_makes_8 rfl) D_M_makes_9 ⟨rfl, rfl, by decide, q_932⟩ (fun _ _ => rfl)) (EJ_iload_n (j := 2) (i := 2) (pc := 12) D_M_makes_12 rfl) D_M_makes_13) D_M_makes_14 rfl)
 (SJ_sq (p0 := 17) (p1 := 27) (nN := 214) (nB := 220) (nC := 214) (SJ_istore (i := 4) (p0 := 17) (p1 := 25) (EJ_iald (p0 := 17) (p1 := 21) (p2 := 24) (EJ_getR (t := 13) (c := 12) (kf := 0) (r := (RX12, TX12, 52)) (p0 := 17) (p1 := 18) (EJ_aload_n (j := 0) (i := 0) (pc := 17) D_M_makes_17 rfl) D_M_makes_18 ⟨rfl, rfl, by decide, q_932⟩ (fun _ _ => rfl)) (EJ_iadd (p0 := 21) (p1 := 22) (p2 := 23) (EJ_iload_n (j := 2) (i := 2) (pc := 21) D_M_makes_21 rfl) (EJ_iload_n (j := 3) (i := 3) (pc := 22) D_M_makes_22 rfl) D_M_makes_23) D_M_makes_24) D_M_makes_25)
 (SJ_sq (p0 := 27) (p1 := 59) (nN := 214) (nB := 220) (nC := 214) (SJ_if (p0 := 27) (pT := 35) (pF := 59) (nN := 59) (nB := 220) (nC := 214) (CZ_ne' (off := 27) (tgt := 59) (p0 := 27) (p1 := 32) (EJ_callS (p0 := 27) (p1 := 29) (AJ_I (p0 := 27) (p1 := 29) (p2 := 29) (EJ_iload (i := 4) (pc := 27) D_M_makes_27) AJ_nil) m_M_isSmall E1_I D_M_makes_29 q_1068 q_1069 q_97 ⟨by decide +kernel, by decide +kernel, by decide +kernel⟩ (by decide) (show 2 + 1 ≤ 3 from by decide) (fun _ h => absurd h List.not_mem_nil)) D_M_makes_32 rfl) (SJ_sq (p0 := 35) (p1 := 46) (nN := 59) (nB := 220) (nC := 214) (SJ_iast (ws := [101]) (p0 := 35) (p1 := 39) (p2 := 43) (p3 := 45) (EJ_getR (t := 13) (c := 12) (kf := 48) (r := (RX12, TX12, 52)) (p0 := 35) (p1 := 36) (EJ_aload_n (j := 0) (i := 0) (pc := 35) D_M_makes_35 rfl) D_M_makes_36 ⟨rfl, rfl, by decide, q_980⟩ (fun _ _ => rfl)) (EJ_getI (t := 13) (c := 12) (kf := 49) (r := (RX12, TX12, 52)) (p0 := 39) (p1 := 40) (EJ_aload_n (j := 0) (i := 0) (pc := 39) D_M_makes_39 rfl) D_M_makes_40 ⟨rfl, rfl, by decide, q_981⟩ (fun _ _ => rfl)) (EJ_iload (i := 4) (pc := 43) D_M_makes_43) D_M_makes_45 (show ∀ x_ ∈ ([101] : List Nat), x_ ∈ ([13, 101] : List Nat) from by decide))
 (SJ_sq (p0 := 46) (p1 := 214) (nN := 59) (nB := 220) (nC := 214) (SJ_post (SJ_upF (z := false) (t := 13) (c := 12) (kf := 49) (r := (RX12, TX12, 52)) (f := (fun x y => x + y)) (p0 := 46) (p1 := 47) (p3 := 52) (EJ_aload_n (j := 0) (i := 0) (pc := 46) D_M_makes_46 rfl) D_M_makes_47 D_M_makes_48 (EJ_iconst (n := 1) (v := (nI 1)) (pc := 51) D_M_makes_51 (by decide +kernel)) (Op2_iadd D_M_makes_52) D_M_makes_53 ⟨rfl, rfl, by decide, q_981⟩ ⟨rfl, rfl, by decide, q_981⟩ (Or.inl rfl) (fun _ _ => ⟨rfl, rfl⟩) (fun _ _ => rfl) (show (13 : Nat) ∈ ([13, 101] : List Nat) from by decide)) (Lead.goto (K := K_M_makes) (pc := 56) (tgt := 214) D_M_makes_56 rfl))
 SJ_cnt)) SJ_sk)
 (SJ_sq (p0 := 59) (p1 := 67) (nN := 214) (nB := 220) (nC := 214) (SJ_istore (i := 5) (p0 := 59) (p1 := 65) (EJ_callV (t := 13) (c := 12) (r := (RX12, TX12, 52)) (p0 := 59) (p1 := 60) (p2 := 62) (EJ_aload_n (j := 0) (i := 0) (pc := 59) D_M_makes_59 rfl) (AJ_I (p0 := 60) (p1 := 62) (p2 := 62) (EJ_iload (i := 4) (pc := 60) D_M_makes_60) AJ_nil) m_M_metaOf E1_I D_M_makes_62 rfl rfl rfl q_1161 q_1162 q_56 q_97 ⟨by decide +kernel, by decide +kernel, by decide +kernel⟩ (by decide) (show 1 + 1 ≤ 3 from by decide) (fun _ h => absurd h List.not_mem_nil)) D_M_makes_65)
 (SJ_sq (p0 := 67) (p1 := 90) (nN := 214) (nB := 220) (nC := 214) (SJ_istore (i := 6) (p0 := 67) (p1 := 88) (EJ_if (p0 := 67) (pT := 83) (pF := 87) (pE := 84) (p1 := 88) (CJ_eq' (off := 7) (tgt := 87) (p0 := 67) (p1 := 79) (p2 := 80) (EJ_iald (p0 := 67) (p1 := 71) (p2 := 78) (EJ_getR (t := 13) (c := 12) (kf := 27) (r := (RX12, TX12, 52)) (p0 := 67) (p1 := 68) (EJ_aload_n (j := 0) (i := 0) (pc := 67) D_M_makes_67 rfl) D_M_makes_68 ⟨rfl, rfl, by decide, q_959⟩ (fun _ _ => rfl)) (EJ_iadd (p0 := 71) (p1 := 75) (p2 := 77) (EJ_imul (p0 := 71) (p1 := 73) (p2 := 74) (EJ_bipush (n := 6) (v := (nI 6)) (pc := 71) D_M_makes_71 (by decide +kernel)) (EJ_iload_n (j := 1) (i := 1) (pc := 73) D_M_makes_73 rfl) D_M_makes_74) (EJ_iload (i := 5) (pc := 75) D_M_makes_75) D_M_makes_77) D_M_makes_78) (EJ_iconst (n := -1) (v := (-1)) (pc := 79) D_M_makes_79 (by decide +kernel)) D_M_makes_80 rfl) (EJ_iconst (n := 1) (v := (nI 1)) (pc := 83) D_M_makes_83 (by decide +kernel)) (Lead.goto (K := K_M_makes) (pc := 84) (tgt := 88) D_M_makes_84 rfl) (EJ_iconst (n := 0) (v := (nI 0)) (pc := 87) D_M_makes_87 (by decide +kernel))) D_M_makes_88)
 (SJ_sq (p0 := 90) (p1 := 110) (nN := 214) (nB := 220) (nC := 214) (SJ_istore (i := 7) (p0 := 90) (p1 := 108) (EJ_iadd (p0 := 90) (p1 := 95) (p2 := 107) (EJ_imul (p0 := 90) (p1 := 92) (p2 := 94) (EJ_bipush (n := 20) (v := (nI 20)) (pc := 90) D_M_makes_90 (by decide +kernel)) (EJ_iload (i := 5) (pc := 92) D_M_makes_92) D_M_makes_94) (EJ_iald (p0 := 95) (p1 := 99) (p2 := 106) (EJ_getR (t := 13) (c := 12) (kf := 43) (r := (RX12, TX12, 52)) (p0 := 95) (p1 := 96) (EJ_aload_n (j := 0) (i := 0) (pc := 95) D_M_makes_95 rfl) D_M_makes_96 ⟨rfl, rfl, by decide, q_975⟩ (fun _ _ => rfl)) (EJ_iadd (p0 := 99) (p1 := 103) (p2 := 105) (EJ_imul (p0 := 99) (p1 := 101) (p2 := 102) (EJ_bipush (n := 6) (v := (nI 6)) (pc := 99) D_M_makes_99 (by decide +kernel)) (EJ_iload_n (j := 1) (i := 1) (pc := 101) D_M_makes_101 rfl) D_M_makes_102) (EJ_iload (i := 5) (pc := 103) D_M_makes_103) D_M_makes_105) D_M_makes_106) D_M_makes_107) D_M_makes_108)
 (SJ_sq (p0 := 110) (p1 := 139) (nN := 214) (nB := 220) (nC := 214) (SJ_istore (i := 8) (p0 := 110) (p1 := 137) (EJ_if (p0 := 110) (pT := 115) (pF := 125) (pE := 122) (p1 := 137) (CZ_ne' (off := 13) (tgt := 125) (p0 := 110) (p1 := 112) (EJ_iload (i := 6) (pc := 110) D_M_makes_110) D_M_makes_112 rfl) (EJ_iald (p0 := 115) (p1 := 119) (p2 := 121) (EJ_getR (t := 13) (c := 12) (kf := 20) (r := (RX12, TX12, 52)) (p0 := 115) (p1 := 116) (EJ_aload_n (j := 0) (i := 0) (pc := 115) D_M_makes_115 rfl) D_M_makes_116 ⟨rfl, rfl, by decide, q_952⟩ (fun _ _ => rfl)) (EJ_iload (i := 7) (pc := 119) D_M_makes_119) D_M_makes_121) (Lead.goto (K := K_M_makes) (pc := 122) (tgt := 137) D_M_makes_122 rfl) (EJ_iald (p0 := 125) (p1 := 129) (p2 := 136) (EJ_getR (t := 13) (c := 12) (kf := 27) (r := (RX12, TX12, 52)) (p0 := 125) (p1 := 126) (EJ_aload_n (j := 0) (i := 0) (pc := 125) D_M_makes_125 rfl) D_M_makes_126 ⟨rfl, rfl, by decide, q_959⟩ (fun _ _ => rfl)) (EJ_iadd (p0 := 129) (p1 := 133) (p2 := 135) (EJ_imul (p0 := 129) (p1 := 131) (p2 := 132) (EJ_bipush (n := 6) (v := (nI 6)) (pc := 129) D_M_makes_129 (by decide +kernel)) (EJ_iload_n (j := 1) (i := 1) (pc := 131) D_M_makes_131 rfl) D_M_makes_132) (EJ_iload (i := 5) (pc := 133) D_M_makes_133) D_M_makes_135) D_M_makes_136)) D_M_makes_137)
 (SJ_sq (p0 := 139) (p1 := 142) (nN := 214) (nB := 220) (nC := 214) (SJ_istore (i := 9) (p0 := 139) (p1 := 140) (EJ_iconst (n := 0) (v := (nI 0)) (pc := 139) D_M_makes_139 (by decide +kernel)) D_M_makes_140)
 (SJ_loop (p0 := 142) (pB := 149) (pS := 208) (pE := 214) (CJ_lt' (off := 68) (tgt := 214) (p0 := 142) (p1 := 144) (p2 := 146) (EJ_iload (i := 9) (pc := 142) D_M_makes_142) (EJ_iload (i := 8) (pc := 144) D_M_makes_144) D_M_makes_146 rfl)
 (SJ_sq (p0 := 149) (p1 := 198) (nN := 208) (nB := 214) (nC := 208) (SJ_iast (ws := [101]) (p0 := 149) (p1 := 153) (p2 := 157) (p3 := 197) (EJ_getR (t := 13) (c := 12) (kf := 48) (r := (RX12, TX12, 52)) (p0 := 149) (p1 := 150) (EJ_aload_n (j := 0) (i := 0) (pc := 149) D_M_makes_149 rfl) D_M_makes_150 ⟨rfl, rfl, by decide, q_980⟩ (fun _ _ => rfl)) (EJ_getI (t := 13) (c := 12) (kf := 49) (r := (RX12, TX12, 52)) (p0 := 153) (p1 := 154) (EJ_aload_n (j := 0) (i := 0) (pc := 153) D_M_makes_153 rfl) D_M_makes_154 ⟨rfl, rfl, by decide, q_981⟩ (fun _ _ => rfl)) (EJ_if (p0 := 157) (pT := 162) (pF := 177) (pE := 174) (p1 := 197) (CZ_ne' (off := 18) (tgt := 177) (p0 := 157) (p1 := 159) (EJ_iload (i := 6) (pc := 157) D_M_makes_157) D_M_makes_159 rfl) (EJ_iald (p0 := 162) (p1 := 166) (p2 := 173) (EJ_getR (t := 13) (c := 12) (kf := 21) (r := (RX12, TX12, 52)) (p0 := 162) (p1 := 163) (EJ_aload_n (j := 0) (i := 0) (pc := 162) D_M_makes_162 rfl) D_M_makes_163 ⟨rfl, rfl, by decide, q_953⟩ (fun _ _ => rfl)) (EJ_iadd (p0 := 166) (p1 := 170) (p2 := 172) (EJ_imul (p0 := 166) (p1 := 167) (p2 := 169) (EJ_iconst (n := 3) (v := (nI 3)) (pc := 166) D_M_makes_166 (by decide +kernel)) (EJ_iload (i := 7) (pc := 167) D_M_makes_167) D_M_makes_169) (EJ_iload (i := 9) (pc := 170) D_M_makes_170) D_M_makes_172) D_M_makes_173) (Lead.goto (K := K_M_makes) (pc := 174) (tgt := 197) D_M_makes_174 rfl) (EJ_callV (t := 13) (c := 12) (r := (RX12, TX12, 52)) (p0 := 177) (p1 := 178) (p2 := 194) (EJ_aload_n (j := 0) (i := 0) (pc := 177) D_M_makes_177 rfl) (AJ_I (p0 := 178) (p1 := 179) (p2 := 194) (EJ_iload_n (j := 1) (i := 1) (pc := 178) D_M_makes_178 rfl) (AJ_I (p0 := 179) (p1 := 194) (p2 := 194) (EJ_iadd (p0 := 179) (p1 := 191) (p2 := 193) (EJ_iald (p0 := 179) (p1 := 183) (p2 := 190) (EJ_getR (t := 13) (c := 12) (kf := 26) (r := (RX12, TX12, 52)) (p0 := 179) (p1 := 180) (EJ_aload_n (j := 0) (i := 0) (pc := 179) D_M_makes_179 rfl) D_M_makes_180 ⟨rfl, rfl, by decide, q_958⟩ (fun _ _ => rfl)) (EJ_iadd (p0 := 183) (p1 := 187) (p2 := 189) (EJ_imul (p0 := 183) (p1 := 185) (p2 := 186) (EJ_bipush (n := 6) (v := (nI 6)) (pc := 183) D_M_makes_183 (by decide +kernel)) (EJ_iload_n (j := 1) (i := 1) (pc := 185) D_M_makes_185 rfl) D_M_makes_186) (EJ_iload (i := 5) (pc := 187) D_M_makes_187) D_M_makes_189) D_M_makes_190) (EJ_iload (i := 9) (pc := 191) D_M_makes_191) D_M_makes_193) AJ_nil)) m_M_letterAt E1_I D_M_makes_194 rfl rfl rfl q_1191 q_1192 q_63 q_97 ⟨by decide +kernel, by decide +kernel, by decide +kernel⟩ (by decide) (show 1 + 1 ≤ 3 from by decide) (fun _ h => absurd h List.not_mem_nil))) D_M_makes_197 (show ∀ x_ ∈ ([101] : List Nat), x_ ∈ ([13, 101] : List Nat) from by decide))
 (SJ_upF (z := false) (t := 13) (c := 12) (kf := 49) (r := (RX12, TX12, 52)) (f := (fun x y => x + y)) (p0 := 198) (p1 := 199) (p3 := 204) (EJ_aload_n (j := 0) (i := 0) (pc := 198) D_M_makes_198 rfl) D_M_makes_199 D_M_makes_200 (EJ_iconst (n := 1) (v := (nI 1)) (pc := 203) D_M_makes_203 (by decide +kernel)) (Op2_iadd D_M_makes_204) D_M_makes_205 ⟨rfl, rfl, by decide, q_981⟩ ⟨rfl, rfl, by decide, q_981⟩ (Or.inl rfl) (fun _ _ => ⟨rfl, rfl⟩) (fun _ _ => rfl) (show (13 : Nat) ∈ ([13, 101] : List Nat) from by decide)))
 (SJ_post (SJ_iinc (i := 9) (n := 1) (v := (nI 1)) (pc := 208) D_M_makes_208 (by decide +kernel)) (Lead.goto (K := K_M_makes) (pc := 211) (tgt := 142) D_M_makes_211 rfl))))))))))
 (SJ_post (SJ_iinc (i := 3) (n := 1) (v := (nI 1)) (pc := 214) D_M_makes_214 (by decide +kernel)) (Lead.goto (K := K_M_makes) (pc := 217) (tgt := 7) D_M_makes_217 rfl))))
 (SJ_retU (pc := 220) D_M_makes_220)))
 RTm_void q_1311 (by decide +kernel) rfl (fun h => by cases h) (show 10 ≤ 40 from by decide) (fun _ => trivial)
theorem D_M_asks_0 : decode cX12_asks 0 = .ok (.aload_n 0, 1) := by decide +kernel
theorem D_M_asks_1 : decode cX12_asks 1 = .ok (.getfield 323, 3) := by decide +kernel
theorem D_M_asks_4 : decode cX12_asks 4 = .ok (.ifCond .ne (13), 3) := by decide +kernel
theorem D_M_asks_7 : decode cX12_asks 7 = .ok (.aload_n 0, 1) := by decide +kernel
theorem D_M_asks_8 : decode cX12_asks 8 = .ok (.getfield 326, 3) := by decide +kernel
theorem D_M_asks_11 : decode cX12_asks 11 = .ok (.sipush (500), 3) := by decide +kernel
theorem D_M_asks_14 : decode cX12_asks 14 = .ok (.if_icmp .ne (10), 3) := by decide +kernel
theorem D_M_asks_17 : decode cX12_asks 17 = .ok (.aload_n 0, 1) := by decide +kernel
theorem D_M_asks_18 : decode cX12_asks 18 = .ok (.iconst (1), 1) := by decide +kernel
theorem D_M_asks_19 : decode cX12_asks 19 = .ok (.putfield 323, 3) := by decide +kernel
theorem D_M_asks_22 : decode cX12_asks 22 = .ok (.iconst (0), 1) := by decide +kernel
theorem D_M_asks_23 : decode cX12_asks 23 = .ok (.ireturn, 1) := by decide +kernel
theorem D_M_asks_24 : decode cX12_asks 24 = .ok (.aload_n 0, 1) := by decide +kernel
theorem D_M_asks_25 : decode cX12_asks 25 = .ok (.dup, 1) := by decide +kernel
theorem D_M_asks_26 : decode cX12_asks 26 = .ok (.getfield 326, 3) := by decide +kernel
theorem D_M_asks_29 : decode cX12_asks 29 = .ok (.iconst (1), 1) := by decide +kernel
theorem D_M_asks_30 : decode cX12_asks 30 = .ok (.iadd, 1) := by decide +kernel
theorem D_M_asks_31 : decode cX12_asks 31 = .ok (.putfield 326, 3) := by decide +kernel
theorem D_M_asks_34 : decode cX12_asks 34 = .ok (.aload_n 0, 1) := by decide +kernel
theorem D_M_asks_35 : decode cX12_asks 35 = .ok (.aload_n 0, 1) := by decide +kernel
theorem D_M_asks_36 : decode cX12_asks 36 = .ok (.getfield 329, 3) := by decide +kernel
theorem D_M_asks_39 : decode cX12_asks 39 = .ok (.iload_n 1, 1) := by decide +kernel
theorem D_M_asks_40 : decode cX12_asks 40 = .ok (.invokestatic 332, 3) := by decide +kernel
theorem D_M_asks_43 : decode cX12_asks 43 = .ok (.putfield 329, 3) := by decide +kernel
theorem D_M_asks_46 : decode cX12_asks 46 = .ok (.iload_n 1, 1) := by decide +kernel
theorem D_M_asks_47 : decode cX12_asks 47 = .ok (.aload_n 0, 1) := by decide +kernel
theorem D_M_asks_48 : decode cX12_asks 48 = .ok (.getfield 337, 3) := by decide +kernel
theorem D_M_asks_51 : decode cX12_asks 51 = .ok (.if_icmp .ne (15), 3) := by decide +kernel
theorem D_M_asks_54 : decode cX12_asks 54 = .ok (.aload_n 0, 1) := by decide +kernel
theorem D_M_asks_55 : decode cX12_asks 55 = .ok (.dup, 1) := by decide +kernel
theorem D_M_asks_56 : decode cX12_asks 56 = .ok (.getfield 340, 3) := by decide +kernel
theorem D_M_asks_59 : decode cX12_asks 59 = .ok (.iconst (1), 1) := by decide +kernel
theorem D_M_asks_60 : decode cX12_asks 60 = .ok (.iadd, 1) := by decide +kernel
theorem D_M_asks_61 : decode cX12_asks 61 = .ok (.putfield 340, 3) := by decide +kernel
theorem D_M_asks_64 : decode cX12_asks 64 = .ok (.iconst (0), 1) := by decide +kernel
theorem D_M_asks_65 : decode cX12_asks 65 = .ok (.ireturn, 1) := by decide +kernel
theorem D_M_asks_66 : decode cX12_asks 66 = .ok (.aload_n 0, 1) := by decide +kernel
theorem D_M_asks_67 : decode cX12_asks 67 = .ok (.getfield 78, 3) := by decide +kernel
theorem D_M_asks_70 : decode cX12_asks 70 = .ok (.iload_n 1, 1) := by decide +kernel
theorem D_M_asks_71 : decode cX12_asks 71 = .ok (.iload_n 2, 1) := by decide +kernel
theorem D_M_asks_72 : decode cX12_asks 72 = .ok (.iastore, 1) := by decide +kernel
theorem D_M_asks_73 : decode cX12_asks 73 = .ok (.aload_n 0, 1) := by decide +kernel
theorem D_M_asks_74 : decode cX12_asks 74 = .ok (.getfield 81, 3) := by decide +kernel
theorem D_M_asks_77 : decode cX12_asks 77 = .ok (.iload_n 1, 1) := by decide +kernel
theorem D_M_asks_78 : decode cX12_asks 78 = .ok (.iload_n 3, 1) := by decide +kernel
theorem D_M_asks_79 : decode cX12_asks 79 = .ok (.iastore, 1) := by decide +kernel
theorem D_M_asks_80 : decode cX12_asks 80 = .ok (.aload_n 0, 1) := by decide +kernel
theorem D_M_asks_81 : decode cX12_asks 81 = .ok (.iload_n 1, 1) := by decide +kernel
theorem D_M_asks_82 : decode cX12_asks 82 = .ok (.invokevirtual 243, 3) := by decide +kernel
theorem D_M_asks_85 : decode cX12_asks 85 = .ok (.aload_n 0, 1) := by decide +kernel
theorem D_M_asks_86 : decode cX12_asks 86 = .ok (.getfield 320, 3) := by decide +kernel
theorem D_M_asks_89 : decode cX12_asks 89 = .ok (.istore 4, 2) := by decide +kernel
theorem D_M_asks_91 : decode cX12_asks 91 = .ok (.aload_n 0, 1) := by decide +kernel
theorem D_M_asks_92 : decode cX12_asks 92 = .ok (.iload_n 1, 1) := by decide +kernel
theorem D_M_asks_93 : decode cX12_asks 93 = .ok (.invokevirtual 343, 3) := by decide +kernel
theorem D_M_asks_96 : decode cX12_asks 96 = .ok (.aload_n 0, 1) := by decide +kernel
theorem D_M_asks_97 : decode cX12_asks 97 = .ok (.getfield 96, 3) := by decide +kernel
theorem D_M_asks_100 : decode cX12_asks 100 = .ok (.iload_n 1, 1) := by decide +kernel
theorem D_M_asks_101 : decode cX12_asks 101 = .ok (.iconst (0), 1) := by decide +kernel
theorem D_M_asks_102 : decode cX12_asks 102 = .ok (.bastore, 1) := by decide +kernel
theorem D_M_asks_103 : decode cX12_asks 103 = .ok (.iconst (0), 1) := by decide +kernel
theorem D_M_asks_104 : decode cX12_asks 104 = .ok (.istore 5, 2) := by decide +kernel
theorem D_M_asks_106 : decode cX12_asks 106 = .ok (.iload 5, 2) := by decide +kernel
theorem D_M_asks_108 : decode cX12_asks 108 = .ok (.aload_n 0, 1) := by decide +kernel
theorem D_M_asks_109 : decode cX12_asks 109 = .ok (.getfield 9, 3) := by decide +kernel
theorem D_M_asks_112 : decode cX12_asks 112 = .ok (.iconst (1), 1) := by decide +kernel
theorem D_M_asks_113 : decode cX12_asks 113 = .ok (.iaload, 1) := by decide +kernel
theorem D_M_asks_114 : decode cX12_asks 114 = .ok (.if_icmp .ge (48), 3) := by decide +kernel
theorem D_M_asks_117 : decode cX12_asks 117 = .ok (.aload_n 0, 1) := by decide +kernel
theorem D_M_asks_118 : decode cX12_asks 118 = .ok (.getfield 323, 3) := by decide +kernel
theorem D_M_asks_121 : decode cX12_asks 121 = .ok (.ifCond .ne (41), 3) := by decide +kernel
theorem D_M_asks_124 : decode cX12_asks 124 = .ok (.aload_n 0, 1) := by decide +kernel
theorem D_M_asks_125 : decode cX12_asks 125 = .ok (.getfield 84, 3) := by decide +kernel
theorem D_M_asks_128 : decode cX12_asks 128 = .ok (.iload_n 1, 1) := by decide +kernel
theorem D_M_asks_129 : decode cX12_asks 129 = .ok (.iload 5, 2) := by decide +kernel
theorem D_M_asks_131 : decode cX12_asks 131 = .ok (.iastore, 1) := by decide +kernel
theorem D_M_asks_132 : decode cX12_asks 132 = .ok (.aload_n 0, 1) := by decide +kernel
theorem D_M_asks_133 : decode cX12_asks 133 = .ok (.getfield 87, 3) := by decide +kernel
theorem D_M_asks_136 : decode cX12_asks 136 = .ok (.iload_n 1, 1) := by decide +kernel
theorem D_M_asks_137 : decode cX12_asks 137 = .ok (.iconst (0), 1) := by decide +kernel
theorem D_M_asks_138 : decode cX12_asks 138 = .ok (.iastore, 1) := by decide +kernel
theorem D_M_asks_139 : decode cX12_asks 139 = .ok (.aload_n 0, 1) := by decide +kernel
theorem D_M_asks_140 : decode cX12_asks 140 = .ok (.iload_n 1, 1) := by decide +kernel
theorem D_M_asks_141 : decode cX12_asks 141 = .ok (.invokevirtual 314, 3) := by decide +kernel
theorem D_M_asks_144 : decode cX12_asks 144 = .ok (.aload_n 0, 1) := by decide +kernel
theorem D_M_asks_145 : decode cX12_asks 145 = .ok (.iload_n 1, 1) := by decide +kernel
theorem D_M_asks_146 : decode cX12_asks 146 = .ok (.iconst (1), 1) := by decide +kernel
theorem D_M_asks_147 : decode cX12_asks 147 = .ok (.iconst (0), 1) := by decide +kernel
theorem D_M_asks_148 : decode cX12_asks 148 = .ok (.invokevirtual 346, 3) := by decide +kernel
theorem D_M_asks_151 : decode cX12_asks 151 = .ok (.ifCond .eq (5), 3) := by decide +kernel
theorem D_M_asks_154 : decode cX12_asks 154 = .ok (.iconst (1), 1) := by decide +kernel
theorem D_M_asks_155 : decode cX12_asks 155 = .ok (.ireturn, 1) := by decide +kernel
theorem D_M_asks_156 : decode cX12_asks 156 = .ok (.iinc 5 (1), 3) := by decide +kernel
theorem D_M_asks_159 : decode cX12_asks 159 = .ok (.goto (-53), 3) := by decide +kernel
theorem D_M_asks_162 : decode cX12_asks 162 = .ok (.aload_n 0, 1) := by decide +kernel
theorem D_M_asks_163 : decode cX12_asks 163 = .ok (.dup, 1) := by decide +kernel
theorem D_M_asks_164 : decode cX12_asks 164 = .ok (.getfield 349, 3) := by decide +kernel
theorem D_M_asks_167 : decode cX12_asks 167 = .ok (.aload_n 0, 1) := by decide +kernel
theorem D_M_asks_168 : decode cX12_asks 168 = .ok (.getfield 323, 3) := by decide +kernel
theorem D_M_asks_171 : decode cX12_asks 171 = .ok (.ifCond .ne (16), 3) := by decide +kernel
theorem D_M_asks_174 : decode cX12_asks 174 = .ok (.aload_n 0, 1) := by decide +kernel
theorem D_M_asks_175 : decode cX12_asks 175 = .ok (.getfield 96, 3) := by decide +kernel
theorem D_M_asks_178 : decode cX12_asks 178 = .ok (.iload_n 1, 1) := by decide +kernel
theorem D_M_asks_179 : decode cX12_asks 179 = .ok (.baload, 1) := by decide +kernel
theorem D_M_asks_180 : decode cX12_asks 180 = .ok (.ifCond .ne (7), 3) := by decide +kernel
theorem D_M_asks_183 : decode cX12_asks 183 = .ok (.iconst (1), 1) := by decide +kernel
theorem D_M_asks_184 : decode cX12_asks 184 = .ok (.goto (4), 3) := by decide +kernel
theorem D_M_asks_187 : decode cX12_asks 187 = .ok (.iconst (0), 1) := by decide +kernel
theorem D_M_asks_188 : decode cX12_asks 188 = .ok (.invokestatic 172, 3) := by decide +kernel
theorem D_M_asks_191 : decode cX12_asks 191 = .ok (.iadd, 1) := by decide +kernel
theorem D_M_asks_192 : decode cX12_asks 192 = .ok (.putfield 349, 3) := by decide +kernel
theorem D_M_asks_195 : decode cX12_asks 195 = .ok (.aload_n 0, 1) := by decide +kernel
theorem D_M_asks_196 : decode cX12_asks 196 = .ok (.iload 4, 2) := by decide +kernel
theorem D_M_asks_198 : decode cX12_asks 198 = .ok (.putfield 320, 3) := by decide +kernel
theorem D_M_asks_201 : decode cX12_asks 201 = .ok (.iconst (0), 1) := by decide +kernel
theorem D_M_asks_202 : decode cX12_asks 202 = .ok (.ireturn, 1) := by decide +kernel
def K_M_asks (n : Nat) : SC := (cX12_asks, "TwoLevelsModel", 6, 4 + n + 1, false, [13, 79, 80, 81, 87, 88, 89, 92, 93, 94, 95, 96, 97, 98, 99, 100, 101], NoQ)
def b_M_asks (R : Nat → MD Int32) : MD Int32 := mth zz 6 (sq (sIf (cOr (eh1 z_ne (eh1 (gI 13 37) (lR 0))) (eh2 c_eq (eh1 (gI 13 33) (lR 0)) (eC (nI 500)))) (sq (sh2 (pI true 13 37) (lR 0) (eC (nI 1)))
 (rtn (eC (nI 0)))) sk)
 (sq (su2 (gI 13 33) (uF false 13 33 (fun x y => x + y)) (lR 0) (eC (nI 1)))
 (sq (sh2 (pI false 13 36) (lR 0) (kS d_Math_max [vI (eh1 (gI 13 36) (lR 0)), vI (lI 1)]))
 (sq (sIf (eh2 c_eq (lI 1) (eh1 (gI 13 32) (lR 0))) (sq (su2 (gI 13 35) (uF false 13 35 (fun x y => x + y)) (lR 0) (eC (nI 1)))
 (rtn (eC (nI 0)))) sk)
 (sq (sh3 (stI [92]) (eh1 (gR 13 38) (lR 0)) (lI 1) (lI 2))
 (sq (sh3 (stI [93]) (eh1 (gR 13 39) (lR 0)) (lI 1) (lI 3))
 (sq (sE (kV 13 d_M_laysSpans (lR 0) [vI (lI 1)]))
 (sq (sI1 4 (eh1 (gI 13 47) (lR 0)))
 (sq (sE (kV 13 d_M_laysNode (lR 0) [vI (lI 1)]))
 (sq (sh3 (stZ [98]) (eh1 (gR 13 44) (lR 0)) (lI 1) (eC (nI 0)))
 (sq (sq (sI1 5 (eC (nI 0)))
 (loop (cAnd (eh2 c_lt (lI 5) (eh2 (aI .int) (eh1 (gR 13 0) (lR 0)) (eC (nI 1)))) (cNot (eh1 z_ne (eh1 (gI 13 37) (lR 0)))))
 (sq (sh3 (stI [94]) (eh1 (gR 13 40) (lR 0)) (lI 1) (lI 5))
 (sq (sh3 (stI [95]) (eh1 (gR 13 41) (lR 0)) (lI 1) (eC (nI 0)))
 (sq (sE (kV 13 d_M_clears (lR 0) [vI (lI 1)]))
 (sIf (eh1 z_ne (kV 13 (R 1) (lR 0) [vI (lI 1), vI (eC (nI 1)), vI (eC (nI 0))])) (rtn (eC (nI 1))) sk))))
 (sInc 5 (nI 1))))
 (sq (su2 (gI 13 34) (uF false 13 34 (fun x y => x + y)) (lR 0) (kS d_M_truth [vI (eIf (cAnd (cNot (eh1 z_ne (eh1 (gI 13 37) (lR 0)))) (cNot (eh1 z_ne (eh2 (aI .boolean) (eh1 (gR 13 44) (lR 0)) (lI 1))))) (eC (nI 1)) (eC (nI 0)))]))
 (sq (sh2 (pI false 13 47) (lR 0) (lI 4))
 (rtn (eC (nI 0))))))))))))))))
theorem s_M_asks (n : Nat) (R : Nat → MD Int32) (h1 : MJ (4 + n) [13, 79, 80, 81, 87, 88, 89, 92, 93, 94, 95, 96, 97, 98, 99, 100, 101] yX12_heads_ (some .boolean) eI (R 1)) : MJ (4 + n + 1) [13, 79, 80, 81, 87, 88, 89, 92, 93, 94, 95, 96, 97, 98, 99, 100, 101] yX12_asks (some .boolean) eI (b_M_asks R) := MJ_of (K := K_M_asks n) (ri := .ireturn) (n1 := 0) (n2 := 0) (n3 := 0)
 (SJ_sq (p0 := 0) (p1 := 24) (nN := 0) (nB := 0) (nC := 0) (SJ_if (p0 := 0) (pT := 17) (pF := 24) (nN := 24) (nB := 0) (nC := 0) (CJ_or (p0 := 0) (pM := 7) (pT := 17) (pF := 24) (CZ_ne (off := 13) (tgt := 17) (p0 := 0) (p1 := 4) (EJ_getI (t := 13) (c := 12) (kf := 37) (r := (RX12, TX12, 52)) (p0 := 0) (p1 := 1) (EJ_aload_n (j := 0) (i := 0) (pc := 0) D_M_asks_0 rfl) D_M_asks_1 ⟨rfl, rfl, by decide, q_969⟩ (fun _ _ => rfl)) D_M_asks_4 rfl) (CJ_eq' (off := 10) (tgt := 24) (p0 := 7) (p1 := 11) (p2 := 14) (EJ_getI (t := 13) (c := 12) (kf := 33) (r := (RX12, TX12, 52)) (p0 := 7) (p1 := 8) (EJ_aload_n (j := 0) (i := 0) (pc := 7) D_M_asks_7 rfl) D_M_asks_8 ⟨rfl, rfl, by decide, q_965⟩ (fun _ _ => rfl)) (EJ_sipush (n := 500) (v := (nI 500)) (pc := 11) D_M_asks_11 (by decide +kernel)) D_M_asks_14 rfl)) (SJ_sq (p0 := 17) (p1 := 22) (nN := 24) (nB := 0) (nC := 0) (SJ_putI (z := true) (t := 13) (c := 12) (kf := 37) (r := (RX12, TX12, 52)) (p0 := 17) (p1 := 18) (p2 := 19) (EJ_aload_n (j := 0) (i := 0) (pc := 17) D_M_asks_17 rfl) (EJ_iconst (n := 1) (v := (nI 1)) (pc := 18) D_M_asks_18 (by decide +kernel)) D_M_asks_19 ⟨rfl, rfl, by decide, q_969⟩ (Or.inl rfl) (okZ_bool rfl) (fun _ _ => rfl) (show (13 : Nat) ∈ ([13, 79, 80, 81, 87, 88, 89, 92, 93, 94, 95, 96, 97, 98, 99, 100, 101] : List Nat) from by decide))
 (SJ_ret (p0 := 22) (p1 := 23) (EJ_iconst (n := 0) (v := (nI 0)) (pc := 22) D_M_asks_22 (by decide +kernel)) D_M_asks_23)) SJ_sk)
 (SJ_sq (p0 := 24) (p1 := 34) (nN := 0) (nB := 0) (nC := 0) (SJ_upF (z := false) (t := 13) (c := 12) (kf := 33) (r := (RX12, TX12, 52)) (f := (fun x y => x + y)) (p0 := 24) (p1 := 25) (p3 := 30) (EJ_aload_n (j := 0) (i := 0) (pc := 24) D_M_asks_24 rfl) D_M_asks_25 D_M_asks_26 (EJ_iconst (n := 1) (v := (nI 1)) (pc := 29) D_M_asks_29 (by decide +kernel)) (Op2_iadd D_M_asks_30) D_M_asks_31 ⟨rfl, rfl, by decide, q_965⟩ ⟨rfl, rfl, by decide, q_965⟩ (Or.inl rfl) (fun _ _ => ⟨rfl, rfl⟩) (fun _ _ => rfl) (show (13 : Nat) ∈ ([13, 79, 80, 81, 87, 88, 89, 92, 93, 94, 95, 96, 97, 98, 99, 100, 101] : List Nat) from by decide))
 (SJ_sq (p0 := 34) (p1 := 46) (nN := 0) (nB := 0) (nC := 0) (SJ_putI (z := false) (t := 13) (c := 12) (kf := 36) (r := (RX12, TX12, 52)) (p0 := 34) (p1 := 35) (p2 := 43) (EJ_aload_n (j := 0) (i := 0) (pc := 34) D_M_asks_34 rfl) (EJ_callS (p0 := 35) (p1 := 40) (AJ_I (p0 := 35) (p1 := 39) (p2 := 40) (EJ_getI (t := 13) (c := 12) (kf := 36) (r := (RX12, TX12, 52)) (p0 := 35) (p1 := 36) (EJ_aload_n (j := 0) (i := 0) (pc := 35) D_M_asks_35 rfl) D_M_asks_36 ⟨rfl, rfl, by decide, q_968⟩ (fun _ _ => rfl)) (AJ_I (p0 := 39) (p1 := 40) (p2 := 40) (EJ_iload_n (j := 1) (i := 1) (pc := 39) D_M_asks_39 rfl) AJ_nil)) m_Math_max E1_I D_M_asks_40 q_1296 q_785 q_98 ⟨by decide +kernel, by decide +kernel, by decide +kernel⟩ (by decide) (show 1 + 1 ≤ 4 + n + 1 from by omega) (fun _ h => absurd h List.not_mem_nil)) D_M_asks_43 ⟨rfl, rfl, by decide, q_968⟩ (Or.inl rfl) (fun _ _ => ⟨rfl, rfl⟩) (fun _ _ => rfl) (show (13 : Nat) ∈ ([13, 79, 80, 81, 87, 88, 89, 92, 93, 94, 95, 96, 97, 98, 99, 100, 101] : List Nat) from by decide))
 (SJ_sq (p0 := 46) (p1 := 66) (nN := 0) (nB := 0) (nC := 0) (SJ_if (p0 := 46) (pT := 54) (pF := 66) (nN := 66) (nB := 0) (nC := 0) (CJ_eq' (off := 15) (tgt := 66) (p0 := 46) (p1 := 47) (p2 := 51) (EJ_iload_n (j := 1) (i := 1) (pc := 46) D_M_asks_46 rfl) (EJ_getI (t := 13) (c := 12) (kf := 32) (r := (RX12, TX12, 52)) (p0 := 47) (p1 := 48) (EJ_aload_n (j := 0) (i := 0) (pc := 47) D_M_asks_47 rfl) D_M_asks_48 ⟨rfl, rfl, by decide, q_964⟩ (fun _ _ => rfl)) D_M_asks_51 rfl) (SJ_sq (p0 := 54) (p1 := 64) (nN := 66) (nB := 0) (nC := 0) (SJ_upF (z := false) (t := 13) (c := 12) (kf := 35) (r := (RX12, TX12, 52)) (f := (fun x y => x + y)) (p0 := 54) (p1 := 55) (p3 := 60) (EJ_aload_n (j := 0) (i := 0) (pc := 54) D_M_asks_54 rfl) D_M_asks_55 D_M_asks_56 (EJ_iconst (n := 1) (v := (nI 1)) (pc := 59) D_M_asks_59 (by decide +kernel)) (Op2_iadd D_M_asks_60) D_M_asks_61 ⟨rfl, rfl, by decide, q_967⟩ ⟨rfl, rfl, by decide, q_967⟩ (Or.inl rfl) (fun _ _ => ⟨rfl, rfl⟩) (fun _ _ => rfl) (show (13 : Nat) ∈ ([13, 79, 80, 81, 87, 88, 89, 92, 93, 94, 95, 96, 97, 98, 99, 100, 101] : List Nat) from by decide))
 (SJ_ret (p0 := 64) (p1 := 65) (EJ_iconst (n := 0) (v := (nI 0)) (pc := 64) D_M_asks_64 (by decide +kernel)) D_M_asks_65)) SJ_sk)
 (SJ_sq (p0 := 66) (p1 := 73) (nN := 0) (nB := 0) (nC := 0) (SJ_iast (ws := [92]) (p0 := 66) (p1 := 70) (p2 := 71) (p3 := 72) (EJ_getR (t := 13) (c := 12) (kf := 38) (r := (RX12, TX12, 52)) (p0 := 66) (p1 := 67) (EJ_aload_n (j := 0) (i := 0) (pc := 66) D_M_asks_66 rfl) D_M_asks_67 ⟨rfl, rfl, by decide, q_970⟩ (fun _ _ => rfl)) (EJ_iload_n (j := 1) (i := 1) (pc := 70) D_M_asks_70 rfl) (EJ_iload_n (j := 2) (i := 2) (pc := 71) D_M_asks_71 rfl) D_M_asks_72 (show ∀ x_ ∈ ([92] : List Nat), x_ ∈ ([13, 79, 80, 81, 87, 88, 89, 92, 93, 94, 95, 96, 97, 98, 99, 100, 101] : List Nat) from by decide))
 (SJ_sq (p0 := 73) (p1 := 80) (nN := 0) (nB := 0) (nC := 0) (SJ_iast (ws := [93]) (p0 := 73) (p1 := 77) (p2 := 78) (p3 := 79) (EJ_getR (t := 13) (c := 12) (kf := 39) (r := (RX12, TX12, 52)) (p0 := 73) (p1 := 74) (EJ_aload_n (j := 0) (i := 0) (pc := 73) D_M_asks_73 rfl) D_M_asks_74 ⟨rfl, rfl, by decide, q_971⟩ (fun _ _ => rfl)) (EJ_iload_n (j := 1) (i := 1) (pc := 77) D_M_asks_77 rfl) (EJ_iload_n (j := 3) (i := 3) (pc := 78) D_M_asks_78 rfl) D_M_asks_79 (show ∀ x_ ∈ ([93] : List Nat), x_ ∈ ([13, 79, 80, 81, 87, 88, 89, 92, 93, 94, 95, 96, 97, 98, 99, 100, 101] : List Nat) from by decide))
 (SJ_sq (p0 := 80) (p1 := 85) (nN := 0) (nB := 0) (nC := 0) (SJ_void (p0 := 80) (p1 := 85) (EJ_callV (t := 13) (c := 12) (r := (RX12, TX12, 52)) (p0 := 80) (p1 := 81) (p2 := 82) (EJ_aload_n (j := 0) (i := 0) (pc := 80) D_M_asks_80 rfl) (AJ_I (p0 := 81) (p1 := 82) (p2 := 82) (EJ_iload_n (j := 1) (i := 1) (pc := 81) D_M_asks_81 rfl) AJ_nil) m_M_laysSpans E1_U D_M_asks_82 rfl rfl rfl q_1179 q_1180 q_61 q_97 ⟨by decide +kernel, by decide +kernel, by decide +kernel⟩ (by decide) (show 4 + 1 ≤ 4 + n + 1 from by omega) (show ∀ x_ ∈ ([81] : List Nat), x_ ∈ ([13, 79, 80, 81, 87, 88, 89, 92, 93, 94, 95, 96, 97, 98, 99, 100, 101] : List Nat) from by decide)))
 (SJ_sq (p0 := 85) (p1 := 91) (nN := 0) (nB := 0) (nC := 0) (SJ_istore (i := 4) (p0 := 85) (p1 := 89) (EJ_getI (t := 13) (c := 12) (kf := 47) (r := (RX12, TX12, 52)) (p0 := 85) (p1 := 86) (EJ_aload_n (j := 0) (i := 0) (pc := 85) D_M_asks_85 rfl) D_M_asks_86 ⟨rfl, rfl, by decide, q_979⟩ (fun _ _ => rfl)) D_M_asks_89)
 (SJ_sq (p0 := 91) (p1 := 96) (nN := 0) (nB := 0) (nC := 0) (SJ_void (p0 := 91) (p1 := 96) (EJ_callV (t := 13) (c := 12) (r := (RX12, TX12, 52)) (p0 := 91) (p1 := 92) (p2 := 93) (EJ_aload_n (j := 0) (i := 0) (pc := 91) D_M_asks_91 rfl) (AJ_I (p0 := 92) (p1 := 93) (p2 := 93) (EJ_iload_n (j := 1) (i := 1) (pc := 92) D_M_asks_92 rfl) AJ_nil) m_M_laysNode E1_U D_M_asks_93 rfl rfl rfl q_1297 q_1298 q_80 q_97 ⟨by decide +kernel, by decide +kernel, by decide +kernel⟩ (by decide) (show 2 + 1 ≤ 4 + n + 1 from by omega) (show ∀ x_ ∈ ([13, 96, 99, 100] : List Nat), x_ ∈ ([13, 79, 80, 81, 87, 88, 89, 92, 93, 94, 95, 96, 97, 98, 99, 100, 101] : List Nat) from by decide)))
 (SJ_sq (p0 := 96) (p1 := 103) (nN := 0) (nB := 0) (nC := 0) (SJ_zast (ws := [98]) (p0 := 96) (p1 := 100) (p2 := 101) (p3 := 102) (EJ_getR (t := 13) (c := 12) (kf := 44) (r := (RX12, TX12, 52)) (p0 := 96) (p1 := 97) (EJ_aload_n (j := 0) (i := 0) (pc := 96) D_M_asks_96 rfl) D_M_asks_97 ⟨rfl, rfl, by decide, q_976⟩ (fun _ _ => rfl)) (EJ_iload_n (j := 1) (i := 1) (pc := 100) D_M_asks_100 rfl) (EJ_iconst (n := 0) (v := (nI 0)) (pc := 101) D_M_asks_101 (by decide +kernel)) D_M_asks_102 (show ∀ x_ ∈ ([98] : List Nat), x_ ∈ ([13, 79, 80, 81, 87, 88, 89, 92, 93, 94, 95, 96, 97, 98, 99, 100, 101] : List Nat) from by decide))
 (SJ_sq (p0 := 103) (p1 := 162) (nN := 0) (nB := 0) (nC := 0) (SJ_sq (p0 := 103) (p1 := 106) (nN := 162) (nB := 0) (nC := 0) (SJ_istore (i := 5) (p0 := 103) (p1 := 104) (EJ_iconst (n := 0) (v := (nI 0)) (pc := 103) D_M_asks_103 (by decide +kernel)) D_M_asks_104)
 (SJ_loop (p0 := 106) (pB := 124) (pS := 156) (pE := 162) (CJ_and (p0 := 106) (pM := 117) (pT := 124) (pF := 162) (CJ_lt' (off := 48) (tgt := 162) (p0 := 106) (p1 := 108) (p2 := 114) (EJ_iload (i := 5) (pc := 106) D_M_asks_106) (EJ_iald (p0 := 108) (p1 := 112) (p2 := 113) (EJ_getR (t := 13) (c := 12) (kf := 0) (r := (RX12, TX12, 52)) (p0 := 108) (p1 := 109) (EJ_aload_n (j := 0) (i := 0) (pc := 108) D_M_asks_108 rfl) D_M_asks_109 ⟨rfl, rfl, by decide, q_932⟩ (fun _ _ => rfl)) (EJ_iconst (n := 1) (v := (nI 1)) (pc := 112) D_M_asks_112 (by decide +kernel)) D_M_asks_113) D_M_asks_114 rfl) (CJ_not (p0 := 117) (pT := 124) (pF := 162) (CZ_ne (off := 41) (tgt := 162) (p0 := 117) (p1 := 121) (EJ_getI (t := 13) (c := 12) (kf := 37) (r := (RX12, TX12, 52)) (p0 := 117) (p1 := 118) (EJ_aload_n (j := 0) (i := 0) (pc := 117) D_M_asks_117 rfl) D_M_asks_118 ⟨rfl, rfl, by decide, q_969⟩ (fun _ _ => rfl)) D_M_asks_121 rfl)))
 (SJ_sq (p0 := 124) (p1 := 132) (nN := 156) (nB := 162) (nC := 156) (SJ_iast (ws := [94]) (p0 := 124) (p1 := 128) (p2 := 129) (p3 := 131) (EJ_getR (t := 13) (c := 12) (kf := 40) (r := (RX12, TX12, 52)) (p0 := 124) (p1 := 125) (EJ_aload_n (j := 0) (i := 0) (pc := 124) D_M_asks_124 rfl) D_M_asks_125 ⟨rfl, rfl, by decide, q_972⟩ (fun _ _ => rfl)) (EJ_iload_n (j := 1) (i := 1) (pc := 128) D_M_asks_128 rfl) (EJ_iload (i := 5) (pc := 129) D_M_asks_129) D_M_asks_131 (show ∀ x_ ∈ ([94] : List Nat), x_ ∈ ([13, 79, 80, 81, 87, 88, 89, 92, 93, 94, 95, 96, 97, 98, 99, 100, 101] : List Nat) from by decide))
 (SJ_sq (p0 := 132) (p1 := 139) (nN := 156) (nB := 162) (nC := 156) (SJ_iast (ws := [95]) (p0 := 132) (p1 := 136) (p2 := 137) (p3 := 138) (EJ_getR (t := 13) (c := 12) (kf := 41) (r := (RX12, TX12, 52)) (p0 := 132) (p1 := 133) (EJ_aload_n (j := 0) (i := 0) (pc := 132) D_M_asks_132 rfl) D_M_asks_133 ⟨rfl, rfl, by decide, q_973⟩ (fun _ _ => rfl)) (EJ_iload_n (j := 1) (i := 1) (pc := 136) D_M_asks_136 rfl) (EJ_iconst (n := 0) (v := (nI 0)) (pc := 137) D_M_asks_137 (by decide +kernel)) D_M_asks_138 (show ∀ x_ ∈ ([95] : List Nat), x_ ∈ ([13, 79, 80, 81, 87, 88, 89, 92, 93, 94, 95, 96, 97, 98, 99, 100, 101] : List Nat) from by decide))
 (SJ_sq (p0 := 139) (p1 := 144) (nN := 156) (nB := 162) (nC := 156) (SJ_void (p0 := 139) (p1 := 144) (EJ_callV (t := 13) (c := 12) (r := (RX12, TX12, 52)) (p0 := 139) (p1 := 140) (p2 := 141) (EJ_aload_n (j := 0) (i := 0) (pc := 139) D_M_asks_139 rfl) (AJ_I (p0 := 140) (p1 := 141) (p2 := 141) (EJ_iload_n (j := 1) (i := 1) (pc := 140) D_M_asks_140 rfl) AJ_nil) m_M_clears E1_U D_M_asks_141 rfl rfl rfl q_1269 q_1270 q_75 q_97 ⟨by decide +kernel, by decide +kernel, by decide +kernel⟩ (by decide) (show 1 + 1 ≤ 4 + n + 1 from by omega) (show ∀ x_ ∈ ([89] : List Nat), x_ ∈ ([13, 79, 80, 81, 87, 88, 89, 92, 93, 94, 95, 96, 97, 98, 99, 100, 101] : List Nat) from by decide)))
 (SJ_if (p0 := 144) (pT := 154) (pF := 156) (nN := 156) (nB := 162) (nC := 156) (CZ_ne' (off := 5) (tgt := 156) (p0 := 144) (p1 := 151) (EJ_callV (t := 13) (c := 12) (r := (RX12, TX12, 52)) (p0 := 144) (p1 := 145) (p2 := 148) (EJ_aload_n (j := 0) (i := 0) (pc := 144) D_M_asks_144 rfl) (AJ_I (p0 := 145) (p1 := 146) (p2 := 148) (EJ_iload_n (j := 1) (i := 1) (pc := 145) D_M_asks_145 rfl) (AJ_I (p0 := 146) (p1 := 147) (p2 := 148) (EJ_iconst (n := 1) (v := (nI 1)) (pc := 146) D_M_asks_146 (by decide +kernel)) (AJ_I (p0 := 147) (p1 := 148) (p2 := 148) (EJ_iconst (n := 0) (v := (nI 0)) (pc := 147) D_M_asks_147 (by decide +kernel)) AJ_nil))) h1 E1_I D_M_asks_148 rfl rfl rfl q_1300 q_1301 q_81 q_97 ⟨by decide +kernel, by decide +kernel, by decide +kernel⟩ (by decide) (Nat.le_refl _) (show ∀ x_ ∈ ([13, 79, 80, 81, 87, 88, 89, 92, 93, 94, 95, 96, 97, 98, 99, 100, 101] : List Nat), x_ ∈ ([13, 79, 80, 81, 87, 88, 89, 92, 93, 94, 95, 96, 97, 98, 99, 100, 101] : List Nat) from by decide)) D_M_asks_151 rfl) (SJ_ret (p0 := 154) (p1 := 155) (EJ_iconst (n := 1) (v := (nI 1)) (pc := 154) D_M_asks_154 (by decide +kernel)) D_M_asks_155) SJ_sk))))
 (SJ_post (SJ_iinc (i := 5) (n := 1) (v := (nI 1)) (pc := 156) D_M_asks_156 (by decide +kernel)) (Lead.goto (K := (K_M_asks n)) (pc := 159) (tgt := 106) D_M_asks_159 rfl))))
 (SJ_sq (p0 := 162) (p1 := 195) (nN := 0) (nB := 0) (nC := 0) (SJ_upF (z := false) (t := 13) (c := 12) (kf := 34) (r := (RX12, TX12, 52)) (f := (fun x y => x + y)) (p0 := 162) (p1 := 163) (p3 := 191) (EJ_aload_n (j := 0) (i := 0) (pc := 162) D_M_asks_162 rfl) D_M_asks_163 D_M_asks_164 (EJ_callS (p0 := 167) (p1 := 188) (AJ_I (p0 := 167) (p1 := 188) (p2 := 188) (EJ_if (p0 := 167) (pT := 183) (pF := 187) (pE := 184) (p1 := 188) (CJ_and (p0 := 167) (pM := 174) (pT := 183) (pF := 187) (CJ_not (p0 := 167) (pT := 174) (pF := 187) (CZ_ne (off := 16) (tgt := 187) (p0 := 167) (p1 := 171) (EJ_getI (t := 13) (c := 12) (kf := 37) (r := (RX12, TX12, 52)) (p0 := 167) (p1 := 168) (EJ_aload_n (j := 0) (i := 0) (pc := 167) D_M_asks_167 rfl) D_M_asks_168 ⟨rfl, rfl, by decide, q_969⟩ (fun _ _ => rfl)) D_M_asks_171 rfl)) (CJ_not (p0 := 174) (pT := 183) (pF := 187) (CZ_ne (off := 7) (tgt := 187) (p0 := 174) (p1 := 180) (EJ_zald (p0 := 174) (p1 := 178) (p2 := 179) (EJ_getR (t := 13) (c := 12) (kf := 44) (r := (RX12, TX12, 52)) (p0 := 174) (p1 := 175) (EJ_aload_n (j := 0) (i := 0) (pc := 174) D_M_asks_174 rfl) D_M_asks_175 ⟨rfl, rfl, by decide, q_976⟩ (fun _ _ => rfl)) (EJ_iload_n (j := 1) (i := 1) (pc := 178) D_M_asks_178 rfl) D_M_asks_179) D_M_asks_180 rfl))) (EJ_iconst (n := 1) (v := (nI 1)) (pc := 183) D_M_asks_183 (by decide +kernel)) (Lead.goto (K := (K_M_asks n)) (pc := 184) (tgt := 188) D_M_asks_184 rfl) (EJ_iconst (n := 0) (v := (nI 0)) (pc := 187) D_M_asks_187 (by decide +kernel))) AJ_nil) m_M_truth E1_I D_M_asks_188 q_1107 q_1108 q_97 ⟨by decide +kernel, by decide +kernel, by decide +kernel⟩ (by decide) (show 1 + 1 ≤ 4 + n + 1 from by omega) (fun _ h => absurd h List.not_mem_nil)) (Op2_iadd D_M_asks_191) D_M_asks_192 ⟨rfl, rfl, by decide, q_966⟩ ⟨rfl, rfl, by decide, q_966⟩ (Or.inl rfl) (fun _ _ => ⟨rfl, rfl⟩) (fun _ _ => rfl) (show (13 : Nat) ∈ ([13, 79, 80, 81, 87, 88, 89, 92, 93, 94, 95, 96, 97, 98, 99, 100, 101] : List Nat) from by decide))
 (SJ_sq (p0 := 195) (p1 := 201) (nN := 0) (nB := 0) (nC := 0) (SJ_putI (z := false) (t := 13) (c := 12) (kf := 47) (r := (RX12, TX12, 52)) (p0 := 195) (p1 := 196) (p2 := 198) (EJ_aload_n (j := 0) (i := 0) (pc := 195) D_M_asks_195 rfl) (EJ_iload (i := 4) (pc := 196) D_M_asks_196) D_M_asks_198 ⟨rfl, rfl, by decide, q_979⟩ (Or.inl rfl) (fun _ _ => ⟨rfl, rfl⟩) (fun _ _ => rfl) (show (13 : Nat) ∈ ([13, 79, 80, 81, 87, 88, 89, 92, 93, 94, 95, 96, 97, 98, 99, 100, 101] : List Nat) from by decide))
 (SJ_ret (p0 := 201) (p1 := 202) (EJ_iconst (n := 0) (v := (nI 0)) (pc := 201) D_M_asks_201 (by decide +kernel)) D_M_asks_202))))))))))))))
 RTm_bool q_1295 (by decide +kernel) rfl (fun h => by cases h) (show 6 ≤ 40 from by decide) (fun _ => trivial)
theorem D_M_heads3_0 : decode cX12_heads_ 0 = .ok (.aload_n 0, 1) := by decide +kernel
theorem D_M_heads3_1 : decode cX12_heads_ 1 = .ok (.getfield 84, 3) := by decide +kernel
theorem D_M_heads3_4 : decode cX12_heads_ 4 = .ok (.iload_n 1, 1) := by decide +kernel
theorem D_M_heads3_5 : decode cX12_heads_ 5 = .ok (.iaload, 1) := by decide +kernel
theorem D_M_heads3_6 : decode cX12_heads_ 6 = .ok (.invokestatic 255, 3) := by decide +kernel
theorem D_M_heads3_9 : decode cX12_heads_ 9 = .ok (.istore 4, 2) := by decide +kernel
theorem D_M_heads3_11 : decode cX12_heads_ 11 = .ok (.iload_n 2, 1) := by decide +kernel
theorem D_M_heads3_12 : decode cX12_heads_ 12 = .ok (.aload_n 0, 1) := by decide +kernel
theorem D_M_heads3_13 : decode cX12_heads_ 13 = .ok (.getfield 9, 3) := by decide +kernel
theorem D_M_heads3_16 : decode cX12_heads_ 16 = .ok (.iload 4, 2) := by decide +kernel
theorem D_M_heads3_18 : decode cX12_heads_ 18 = .ok (.iaload, 1) := by decide +kernel
theorem D_M_heads3_19 : decode cX12_heads_ 19 = .ok (.if_icmp .le (46), 3) := by decide +kernel
theorem D_M_heads3_22 : decode cX12_heads_ 22 = .ok (.iload_n 3, 1) := by decide +kernel
theorem D_M_heads3_23 : decode cX12_heads_ 23 = .ok (.aload_n 0, 1) := by decide +kernel
theorem D_M_heads3_24 : decode cX12_heads_ 24 = .ok (.getfield 42, 3) := by decide +kernel
theorem D_M_heads3_27 : decode cX12_heads_ 27 = .ok (.iload_n 1, 1) := by decide +kernel
theorem D_M_heads3_28 : decode cX12_heads_ 28 = .ok (.iaload, 1) := by decide +kernel
theorem D_M_heads3_29 : decode cX12_heads_ 29 = .ok (.if_icmp .ge (5), 3) := by decide +kernel
theorem D_M_heads3_32 : decode cX12_heads_ 32 = .ok (.iconst (0), 1) := by decide +kernel
theorem D_M_heads3_33 : decode cX12_heads_ 33 = .ok (.ireturn, 1) := by decide +kernel
theorem D_M_heads3_34 : decode cX12_heads_ 34 = .ok (.aload_n 0, 1) := by decide +kernel
theorem D_M_heads3_35 : decode cX12_heads_ 35 = .ok (.getfield 96, 3) := by decide +kernel
theorem D_M_heads3_38 : decode cX12_heads_ 38 = .ok (.iload_n 1, 1) := by decide +kernel
theorem D_M_heads3_39 : decode cX12_heads_ 39 = .ok (.iconst (1), 1) := by decide +kernel
theorem D_M_heads3_40 : decode cX12_heads_ 40 = .ok (.bastore, 1) := by decide +kernel
theorem D_M_heads3_41 : decode cX12_heads_ 41 = .ok (.aload_n 0, 1) := by decide +kernel
theorem D_M_heads3_42 : decode cX12_heads_ 42 = .ok (.getfield 87, 3) := by decide +kernel
theorem D_M_heads3_45 : decode cX12_heads_ 45 = .ok (.iload_n 1, 1) := by decide +kernel
theorem D_M_heads3_46 : decode cX12_heads_ 46 = .ok (.dup2, 1) := by decide +kernel
theorem D_M_heads3_47 : decode cX12_heads_ 47 = .ok (.iaload, 1) := by decide +kernel
theorem D_M_heads3_48 : decode cX12_heads_ 48 = .ok (.iconst (1), 1) := by decide +kernel
theorem D_M_heads3_49 : decode cX12_heads_ 49 = .ok (.iadd, 1) := by decide +kernel
theorem D_M_heads3_50 : decode cX12_heads_ 50 = .ok (.iastore, 1) := by decide +kernel
theorem D_M_heads3_51 : decode cX12_heads_ 51 = .ok (.aload_n 0, 1) := by decide +kernel
theorem D_M_heads3_52 : decode cX12_heads_ 52 = .ok (.iload_n 1, 1) := by decide +kernel
theorem D_M_heads3_53 : decode cX12_heads_ 53 = .ok (.aload_n 0, 1) := by decide +kernel
theorem D_M_heads3_54 : decode cX12_heads_ 54 = .ok (.getfield 87, 3) := by decide +kernel
theorem D_M_heads3_57 : decode cX12_heads_ 57 = .ok (.iload_n 1, 1) := by decide +kernel
theorem D_M_heads3_58 : decode cX12_heads_ 58 = .ok (.iaload, 1) := by decide +kernel
theorem D_M_heads3_59 : decode cX12_heads_ 59 = .ok (.iconst (1), 1) := by decide +kernel
theorem D_M_heads3_60 : decode cX12_heads_ 60 = .ok (.isub, 1) := by decide +kernel
theorem D_M_heads3_61 : decode cX12_heads_ 61 = .ok (.invokevirtual 352, 3) := by decide +kernel
theorem D_M_heads3_64 : decode cX12_heads_ 64 = .ok (.ireturn, 1) := by decide +kernel
theorem D_M_heads3_65 : decode cX12_heads_ 65 = .ok (.aload_n 0, 1) := by decide +kernel
theorem D_M_heads3_66 : decode cX12_heads_ 66 = .ok (.getfield 9, 3) := by decide +kernel
theorem D_M_heads3_69 : decode cX12_heads_ 69 = .ok (.iload 4, 2) := by decide +kernel
theorem D_M_heads3_71 : decode cX12_heads_ 71 = .ok (.iload_n 2, 1) := by decide +kernel
theorem D_M_heads3_72 : decode cX12_heads_ 72 = .ok (.iadd, 1) := by decide +kernel
theorem D_M_heads3_73 : decode cX12_heads_ 73 = .ok (.iaload, 1) := by decide +kernel
theorem D_M_heads3_74 : decode cX12_heads_ 74 = .ok (.istore 5, 2) := by decide +kernel
theorem D_M_heads3_76 : decode cX12_heads_ 76 = .ok (.iload 5, 2) := by decide +kernel
theorem D_M_heads3_78 : decode cX12_heads_ 78 = .ok (.invokestatic 137, 3) := by decide +kernel
theorem D_M_heads3_81 : decode cX12_heads_ 81 = .ok (.ifCond .eq (44), 3) := by decide +kernel
theorem D_M_heads3_84 : decode cX12_heads_ 84 = .ok (.iload_n 3, 1) := by decide +kernel
theorem D_M_heads3_85 : decode cX12_heads_ 85 = .ok (.aload_n 0, 1) := by decide +kernel
theorem D_M_heads3_86 : decode cX12_heads_ 86 = .ok (.getfield 42, 3) := by decide +kernel
theorem D_M_heads3_89 : decode cX12_heads_ 89 = .ok (.iload_n 1, 1) := by decide +kernel
theorem D_M_heads3_90 : decode cX12_heads_ 90 = .ok (.iaload, 1) := by decide +kernel
theorem D_M_heads3_91 : decode cX12_heads_ 91 = .ok (.if_icmp .ge (32), 3) := by decide +kernel
theorem D_M_heads3_94 : decode cX12_heads_ 94 = .ok (.aload_n 0, 1) := by decide +kernel
theorem D_M_heads3_95 : decode cX12_heads_ 95 = .ok (.iload_n 1, 1) := by decide +kernel
theorem D_M_heads3_96 : decode cX12_heads_ 96 = .ok (.iload_n 3, 1) := by decide +kernel
theorem D_M_heads3_97 : decode cX12_heads_ 97 = .ok (.invokevirtual 230, 3) := by decide +kernel
theorem D_M_heads3_100 : decode cX12_heads_ 100 = .ok (.iload 5, 2) := by decide +kernel
theorem D_M_heads3_102 : decode cX12_heads_ 102 = .ok (.if_icmp .ne (21), 3) := by decide +kernel
theorem D_M_heads3_105 : decode cX12_heads_ 105 = .ok (.aload_n 0, 1) := by decide +kernel
theorem D_M_heads3_106 : decode cX12_heads_ 106 = .ok (.iload_n 1, 1) := by decide +kernel
theorem D_M_heads3_107 : decode cX12_heads_ 107 = .ok (.iload_n 2, 1) := by decide +kernel
theorem D_M_heads3_108 : decode cX12_heads_ 108 = .ok (.iconst (1), 1) := by decide +kernel
theorem D_M_heads3_109 : decode cX12_heads_ 109 = .ok (.iadd, 1) := by decide +kernel
theorem D_M_heads3_110 : decode cX12_heads_ 110 = .ok (.iload_n 3, 1) := by decide +kernel
theorem D_M_heads3_111 : decode cX12_heads_ 111 = .ok (.iconst (1), 1) := by decide +kernel
theorem D_M_heads3_112 : decode cX12_heads_ 112 = .ok (.iadd, 1) := by decide +kernel
theorem D_M_heads3_113 : decode cX12_heads_ 113 = .ok (.invokevirtual 346, 3) := by decide +kernel
theorem D_M_heads3_116 : decode cX12_heads_ 116 = .ok (.ifCond .eq (7), 3) := by decide +kernel
theorem D_M_heads3_119 : decode cX12_heads_ 119 = .ok (.iconst (1), 1) := by decide +kernel
theorem D_M_heads3_120 : decode cX12_heads_ 120 = .ok (.goto (4), 3) := by decide +kernel
theorem D_M_heads3_123 : decode cX12_heads_ 123 = .ok (.iconst (0), 1) := by decide +kernel
theorem D_M_heads3_124 : decode cX12_heads_ 124 = .ok (.ireturn, 1) := by decide +kernel
theorem D_M_heads3_125 : decode cX12_heads_ 125 = .ok (.bipush (6), 2) := by decide +kernel
theorem D_M_heads3_127 : decode cX12_heads_ 127 = .ok (.iload_n 1, 1) := by decide +kernel
theorem D_M_heads3_128 : decode cX12_heads_ 128 = .ok (.imul, 1) := by decide +kernel
theorem D_M_heads3_129 : decode cX12_heads_ 129 = .ok (.aload_n 0, 1) := by decide +kernel
theorem D_M_heads3_130 : decode cX12_heads_ 130 = .ok (.iload 5, 2) := by decide +kernel
theorem D_M_heads3_132 : decode cX12_heads_ 132 = .ok (.invokevirtual 220, 3) := by decide +kernel
theorem D_M_heads3_135 : decode cX12_heads_ 135 = .ok (.iadd, 1) := by decide +kernel
theorem D_M_heads3_136 : decode cX12_heads_ 136 = .ok (.istore 6, 2) := by decide +kernel
theorem D_M_heads3_138 : decode cX12_heads_ 138 = .ok (.aload_n 0, 1) := by decide +kernel
theorem D_M_heads3_139 : decode cX12_heads_ 139 = .ok (.getfield 69, 3) := by decide +kernel
theorem D_M_heads3_142 : decode cX12_heads_ 142 = .ok (.iload 6, 2) := by decide +kernel
theorem D_M_heads3_144 : decode cX12_heads_ 144 = .ok (.iaload, 1) := by decide +kernel
theorem D_M_heads3_145 : decode cX12_heads_ 145 = .ok (.iconst (-1), 1) := by decide +kernel
theorem D_M_heads3_146 : decode cX12_heads_ 146 = .ok (.if_icmp .eq (70), 3) := by decide +kernel
theorem D_M_heads3_149 : decode cX12_heads_ 149 = .ok (.iload_n 3, 1) := by decide +kernel
theorem D_M_heads3_150 : decode cX12_heads_ 150 = .ok (.aload_n 0, 1) := by decide +kernel
theorem D_M_heads3_151 : decode cX12_heads_ 151 = .ok (.getfield 69, 3) := by decide +kernel
theorem D_M_heads3_154 : decode cX12_heads_ 154 = .ok (.iload 6, 2) := by decide +kernel
theorem D_M_heads3_156 : decode cX12_heads_ 156 = .ok (.iaload, 1) := by decide +kernel
theorem D_M_heads3_157 : decode cX12_heads_ 157 = .ok (.iadd, 1) := by decide +kernel
theorem D_M_heads3_158 : decode cX12_heads_ 158 = .ok (.aload_n 0, 1) := by decide +kernel
theorem D_M_heads3_159 : decode cX12_heads_ 159 = .ok (.getfield 42, 3) := by decide +kernel
theorem D_M_heads3_162 : decode cX12_heads_ 162 = .ok (.iload_n 1, 1) := by decide +kernel
theorem D_M_heads3_163 : decode cX12_heads_ 163 = .ok (.iaload, 1) := by decide +kernel
theorem D_M_heads3_164 : decode cX12_heads_ 164 = .ok (.if_icmp .gt (50), 3) := by decide +kernel
theorem D_M_heads3_167 : decode cX12_heads_ 167 = .ok (.aload_n 0, 1) := by decide +kernel
theorem D_M_heads3_168 : decode cX12_heads_ 168 = .ok (.iload_n 1, 1) := by decide +kernel
theorem D_M_heads3_169 : decode cX12_heads_ 169 = .ok (.aload_n 0, 1) := by decide +kernel
theorem D_M_heads3_170 : decode cX12_heads_ 170 = .ok (.getfield 66, 3) := by decide +kernel
theorem D_M_heads3_173 : decode cX12_heads_ 173 = .ok (.iload 6, 2) := by decide +kernel
theorem D_M_heads3_175 : decode cX12_heads_ 175 = .ok (.iaload, 1) := by decide +kernel
theorem D_M_heads3_176 : decode cX12_heads_ 176 = .ok (.iload_n 3, 1) := by decide +kernel
theorem D_M_heads3_177 : decode cX12_heads_ 177 = .ok (.aload_n 0, 1) := by decide +kernel
theorem D_M_heads3_178 : decode cX12_heads_ 178 = .ok (.getfield 69, 3) := by decide +kernel
theorem D_M_heads3_181 : decode cX12_heads_ 181 = .ok (.iload 6, 2) := by decide +kernel
theorem D_M_heads3_183 : decode cX12_heads_ 183 = .ok (.iaload, 1) := by decide +kernel
theorem D_M_heads3_184 : decode cX12_heads_ 184 = .ok (.invokevirtual 310, 3) := by decide +kernel
theorem D_M_heads3_187 : decode cX12_heads_ 187 = .ok (.ifCond .eq (27), 3) := by decide +kernel
theorem D_M_heads3_190 : decode cX12_heads_ 190 = .ok (.aload_n 0, 1) := by decide +kernel
theorem D_M_heads3_191 : decode cX12_heads_ 191 = .ok (.iload_n 1, 1) := by decide +kernel
theorem D_M_heads3_192 : decode cX12_heads_ 192 = .ok (.iload_n 2, 1) := by decide +kernel
theorem D_M_heads3_193 : decode cX12_heads_ 193 = .ok (.iconst (1), 1) := by decide +kernel
theorem D_M_heads3_194 : decode cX12_heads_ 194 = .ok (.iadd, 1) := by decide +kernel
theorem D_M_heads3_195 : decode cX12_heads_ 195 = .ok (.iload_n 3, 1) := by decide +kernel
theorem D_M_heads3_196 : decode cX12_heads_ 196 = .ok (.aload_n 0, 1) := by decide +kernel
theorem D_M_heads3_197 : decode cX12_heads_ 197 = .ok (.getfield 69, 3) := by decide +kernel
theorem D_M_heads3_200 : decode cX12_heads_ 200 = .ok (.iload 6, 2) := by decide +kernel
theorem D_M_heads3_202 : decode cX12_heads_ 202 = .ok (.iaload, 1) := by decide +kernel
theorem D_M_heads3_203 : decode cX12_heads_ 203 = .ok (.iadd, 1) := by decide +kernel
theorem D_M_heads3_204 : decode cX12_heads_ 204 = .ok (.invokevirtual 346, 3) := by decide +kernel
theorem D_M_heads3_207 : decode cX12_heads_ 207 = .ok (.ifCond .eq (7), 3) := by decide +kernel
theorem D_M_heads3_210 : decode cX12_heads_ 210 = .ok (.iconst (1), 1) := by decide +kernel
theorem D_M_heads3_211 : decode cX12_heads_ 211 = .ok (.goto (4), 3) := by decide +kernel
theorem D_M_heads3_214 : decode cX12_heads_ 214 = .ok (.iconst (0), 1) := by decide +kernel
theorem D_M_heads3_215 : decode cX12_heads_ 215 = .ok (.ireturn, 1) := by decide +kernel
theorem D_M_heads3_216 : decode cX12_heads_ 216 = .ok (.iconst (0), 1) := by decide +kernel
theorem D_M_heads3_217 : decode cX12_heads_ 217 = .ok (.istore 7, 2) := by decide +kernel
theorem D_M_heads3_219 : decode cX12_heads_ 219 = .ok (.iload_n 3, 1) := by decide +kernel
theorem D_M_heads3_220 : decode cX12_heads_ 220 = .ok (.iload 7, 2) := by decide +kernel
theorem D_M_heads3_222 : decode cX12_heads_ 222 = .ok (.iadd, 1) := by decide +kernel
theorem D_M_heads3_223 : decode cX12_heads_ 223 = .ok (.aload_n 0, 1) := by decide +kernel
theorem D_M_heads3_224 : decode cX12_heads_ 224 = .ok (.getfield 42, 3) := by decide +kernel
theorem D_M_heads3_227 : decode cX12_heads_ 227 = .ok (.iload_n 1, 1) := by decide +kernel
theorem D_M_heads3_228 : decode cX12_heads_ 228 = .ok (.iaload, 1) := by decide +kernel
theorem D_M_heads3_229 : decode cX12_heads_ 229 = .ok (.if_icmp .gt (76), 3) := by decide +kernel
theorem D_M_heads3_232 : decode cX12_heads_ 232 = .ok (.aload_n 0, 1) := by decide +kernel
theorem D_M_heads3_233 : decode cX12_heads_ 233 = .ok (.getfield 323, 3) := by decide +kernel
theorem D_M_heads3_236 : decode cX12_heads_ 236 = .ok (.ifCond .ne (69), 3) := by decide +kernel
theorem D_M_heads3_239 : decode cX12_heads_ 239 = .ok (.aload_n 0, 1) := by decide +kernel
theorem D_M_heads3_240 : decode cX12_heads_ 240 = .ok (.getfield 45, 3) := by decide +kernel
theorem D_M_heads3_243 : decode cX12_heads_ 243 = .ok (.iload_n 1, 1) := by decide +kernel
theorem D_M_heads3_244 : decode cX12_heads_ 244 = .ok (.aload_n 0, 1) := by decide +kernel
theorem D_M_heads3_245 : decode cX12_heads_ 245 = .ok (.iload 5, 2) := by decide +kernel
theorem D_M_heads3_247 : decode cX12_heads_ 247 = .ok (.invokevirtual 220, 3) := by decide +kernel
theorem D_M_heads3_250 : decode cX12_heads_ 250 = .ok (.iload_n 3, 1) := by decide +kernel
theorem D_M_heads3_251 : decode cX12_heads_ 251 = .ok (.invokestatic 226, 3) := by decide +kernel
theorem D_M_heads3_254 : decode cX12_heads_ 254 = .ok (.iaload, 1) := by decide +kernel
theorem D_M_heads3_255 : decode cX12_heads_ 255 = .ok (.iload_n 3, 1) := by decide +kernel
theorem D_M_heads3_256 : decode cX12_heads_ 256 = .ok (.iload 7, 2) := by decide +kernel
theorem D_M_heads3_258 : decode cX12_heads_ 258 = .ok (.iadd, 1) := by decide +kernel
theorem D_M_heads3_259 : decode cX12_heads_ 259 = .ok (.invokestatic 223, 3) := by decide +kernel
theorem D_M_heads3_262 : decode cX12_heads_ 262 = .ok (.ifCond .eq (37), 3) := by decide +kernel
theorem D_M_heads3_265 : decode cX12_heads_ 265 = .ok (.aload_n 0, 1) := by decide +kernel
theorem D_M_heads3_266 : decode cX12_heads_ 266 = .ok (.getfield 66, 3) := by decide +kernel
theorem D_M_heads3_269 : decode cX12_heads_ 269 = .ok (.iload 6, 2) := by decide +kernel
theorem D_M_heads3_271 : decode cX12_heads_ 271 = .ok (.iload_n 3, 1) := by decide +kernel
theorem D_M_heads3_272 : decode cX12_heads_ 272 = .ok (.iastore, 1) := by decide +kernel
theorem D_M_heads3_273 : decode cX12_heads_ 273 = .ok (.aload_n 0, 1) := by decide +kernel
theorem D_M_heads3_274 : decode cX12_heads_ 274 = .ok (.getfield 69, 3) := by decide +kernel
theorem D_M_heads3_277 : decode cX12_heads_ 277 = .ok (.iload 6, 2) := by decide +kernel
theorem D_M_heads3_279 : decode cX12_heads_ 279 = .ok (.iload 7, 2) := by decide +kernel
theorem D_M_heads3_281 : decode cX12_heads_ 281 = .ok (.iastore, 1) := by decide +kernel
theorem D_M_heads3_282 : decode cX12_heads_ 282 = .ok (.aload_n 0, 1) := by decide +kernel
theorem D_M_heads3_283 : decode cX12_heads_ 283 = .ok (.iload_n 1, 1) := by decide +kernel
theorem D_M_heads3_284 : decode cX12_heads_ 284 = .ok (.iload_n 2, 1) := by decide +kernel
theorem D_M_heads3_285 : decode cX12_heads_ 285 = .ok (.iconst (1), 1) := by decide +kernel
theorem D_M_heads3_286 : decode cX12_heads_ 286 = .ok (.iadd, 1) := by decide +kernel
theorem D_M_heads3_287 : decode cX12_heads_ 287 = .ok (.iload_n 3, 1) := by decide +kernel
theorem D_M_heads3_288 : decode cX12_heads_ 288 = .ok (.iload 7, 2) := by decide +kernel
theorem D_M_heads3_290 : decode cX12_heads_ 290 = .ok (.iadd, 1) := by decide +kernel
theorem D_M_heads3_291 : decode cX12_heads_ 291 = .ok (.invokevirtual 346, 3) := by decide +kernel
theorem D_M_heads3_294 : decode cX12_heads_ 294 = .ok (.ifCond .eq (5), 3) := by decide +kernel
theorem D_M_heads3_297 : decode cX12_heads_ 297 = .ok (.iconst (1), 1) := by decide +kernel
theorem D_M_heads3_298 : decode cX12_heads_ 298 = .ok (.ireturn, 1) := by decide +kernel
theorem D_M_heads3_299 : decode cX12_heads_ 299 = .ok (.iinc 7 (1), 3) := by decide +kernel
theorem D_M_heads3_302 : decode cX12_heads_ 302 = .ok (.goto (-83), 3) := by decide +kernel
theorem D_M_heads3_305 : decode cX12_heads_ 305 = .ok (.aload_n 0, 1) := by decide +kernel
theorem D_M_heads3_306 : decode cX12_heads_ 306 = .ok (.getfield 69, 3) := by decide +kernel
theorem D_M_heads3_309 : decode cX12_heads_ 309 = .ok (.iload 6, 2) := by decide +kernel
theorem D_M_heads3_311 : decode cX12_heads_ 311 = .ok (.iconst (-1), 1) := by decide +kernel
theorem D_M_heads3_312 : decode cX12_heads_ 312 = .ok (.iastore, 1) := by decide +kernel
theorem D_M_heads3_313 : decode cX12_heads_ 313 = .ok (.iconst (0), 1) := by decide +kernel
theorem D_M_heads3_314 : decode cX12_heads_ 314 = .ok (.ireturn, 1) := by decide +kernel
def K_M_heads3 (n : Nat) : SC := (cX12_heads_, "TwoLevelsModel", 8, 4 + n + 1, false, [13, 79, 80, 81, 87, 88, 89, 92, 93, 94, 95, 96, 97, 98, 99, 100, 101], NoQ)
def b_M_heads3 (R : Nat → MD Int32) : MD Int32 := mth zz 8 (sq (sI1 4 (kS d_M_ruleAt [vI (eh2 (aI .int) (eh1 (gR 13 40) (lR 0)) (lI 1))]))
 (sq (sIf (eh2 c_gt (lI 2) (eh2 (aI .int) (eh1 (gR 13 0) (lR 0)) (lI 4))) (sq (sIf (eh2 c_lt (lI 3) (eh2 (aI .int) (eh1 (gR 13 16) (lR 0)) (lI 1))) (rtn (eC (nI 0))) sk)
 (sq (sh3 (stZ [98]) (eh1 (gR 13 44) (lR 0)) (lI 1) (eC (nI 1)))
 (sq (su3 (aI .int) (uA [95] (fun x y => x + y)) (eh1 (gR 13 41) (lR 0)) (lI 1) (eC (nI 1)))
 (rtn (kV 13 (R 2) (lR 0) [vI (lI 1), vI (eh2 isubF (eh2 (aI .int) (eh1 (gR 13 41) (lR 0)) (lI 1)) (eC (nI 1)))]))))) sk)
 (sq (sI1 5 (eh2 (aI .int) (eh1 (gR 13 0) (lR 0)) (eh2 iaddF (lI 4) (lI 2))))
 (sq (sIf (eh1 z_ne (kS d_M_isSmall [vI (lI 5)])) (rtn (eIf (cAnd (cAnd (eh2 c_lt (lI 3) (eh2 (aI .int) (eh1 (gR 13 16) (lR 0)) (lI 1))) (eh2 c_eq (kV 13 d_M_letterAt (lR 0) [vI (lI 1), vI (lI 3)]) (lI 5))) (eh1 z_ne (kV 13 (R 1) (lR 0) [vI (lI 1), vI (eh2 iaddF (lI 2) (eC (nI 1))), vI (eh2 iaddF (lI 3) (eC (nI 1)))]))) (eC (nI 1)) (eC (nI 0)))) sk)
 (sq (sI1 6 (eh2 iaddF (eh2 imulF (eC (nI 6)) (lI 1)) (kV 13 d_M_metaOf (lR 0) [vI (lI 5)])))
 (sq (sIf (eh2 c_ne (eh2 (aI .int) (eh1 (gR 13 27) (lR 0)) (lI 6)) (eC (-1))) (rtn (eIf (cAnd (cAnd (eh2 c_le (eh2 iaddF (lI 3) (eh2 (aI .int) (eh1 (gR 13 27) (lR 0)) (lI 6))) (eh2 (aI .int) (eh1 (gR 13 16) (lR 0)) (lI 1))) (eh1 z_ne (kV 13 d_M_isAlike (lR 0) [vI (lI 1), vI (eh2 (aI .int) (eh1 (gR 13 26) (lR 0)) (lI 6)), vI (lI 3), vI (eh2 (aI .int) (eh1 (gR 13 27) (lR 0)) (lI 6))]))) (eh1 z_ne (kV 13 (R 1) (lR 0) [vI (lI 1), vI (eh2 iaddF (lI 2) (eC (nI 1))), vI (eh2 iaddF (lI 3) (eh2 (aI .int) (eh1 (gR 13 27) (lR 0)) (lI 6)))]))) (eC (nI 1)) (eC (nI 0)))) sk)
 (sq (sq (sI1 7 (eC (nI 0)))
 (loop (cAnd (eh2 c_le (eh2 iaddF (lI 3) (lI 7)) (eh2 (aI .int) (eh1 (gR 13 16) (lR 0)) (lI 1))) (cNot (eh1 z_ne (eh1 (gI 13 37) (lR 0)))))
 (sIf (eh1 z_ne (kS d_M_has [vI (eh2 (aI .int) (eh1 (gR 13 17) (lR 0)) (kS d_M_spanAt [vI (lI 1), vI (kV 13 d_M_metaOf (lR 0) [vI (lI 5)]), vI (lI 3)])), vI (eh2 iaddF (lI 3) (lI 7))])) (sq (sh3 (stI [88]) (eh1 (gR 13 26) (lR 0)) (lI 6) (lI 3))
 (sq (sh3 (stI [89]) (eh1 (gR 13 27) (lR 0)) (lI 6) (lI 7))
 (sIf (eh1 z_ne (kV 13 (R 1) (lR 0) [vI (lI 1), vI (eh2 iaddF (lI 2) (eC (nI 1))), vI (eh2 iaddF (lI 3) (lI 7))])) (rtn (eC (nI 1))) sk))) sk)
 (sInc 7 (nI 1))))
 (sq (sh3 (stI [89]) (eh1 (gR 13 27) (lR 0)) (lI 6) (eC (-1)))
 (rtn (eC (nI 0)))))))))))
theorem s_M_heads3 (n : Nat) (R : Nat → MD Int32) (h1 : MJ (4 + n) [13, 79, 80, 81, 87, 88, 89, 92, 93, 94, 95, 96, 97, 98, 99, 100, 101] yX12_heads_ (some .boolean) eI (R 1)) (h2 : MJ (4 + n) [13, 79, 80, 81, 87, 88, 89, 92, 93, 94, 95, 96, 97, 98, 99, 100, 101] yX12_choices_ (some .boolean) eI (R 2)) : MJ (4 + n + 1) [13, 79, 80, 81, 87, 88, 89, 92, 93, 94, 95, 96, 97, 98, 99, 100, 101] yX12_heads_ (some .boolean) eI (b_M_heads3 R) := MJ_of (K := K_M_heads3 n) (ri := .ireturn) (n1 := 0) (n2 := 0) (n3 := 0)
 (SJ_sq (p0 := 0) (p1 := 11) (nN := 0) (nB := 0) (nC := 0) (SJ_istore (i := 4) (p0 := 0) (p1 := 9) (EJ_callS (p0 := 0) (p1 := 6) (AJ_I (p0 := 0) (p1 := 6) (p2 := 6) (EJ_iald (p0 := 0) (p1 := 4) (p2 := 5) (EJ_getR (t := 13) (c := 12) (kf := 40) (r := (RX12, TX12, 52)) (p0 := 0) (p1 := 1) (EJ_aload_n (j := 0) (i := 0) (pc := 0) D_M_heads3_0 rfl) D_M_heads3_1 ⟨rfl, rfl, by decide, q_972⟩ (fun _ _ => rfl)) (EJ_iload_n (j := 1) (i := 1) (pc := 4) D_M_heads3_4 rfl) D_M_heads3_5) AJ_nil) m_M_ruleAt E1_I D_M_heads3_6 q_1209 q_1210 q_97 ⟨by decide +kernel, by decide +kernel, by decide +kernel⟩ (by decide) (show 1 + 1 ≤ 4 + n + 1 from by omega) (fun _ h => absurd h List.not_mem_nil)) D_M_heads3_9)
 (SJ_sq (p0 := 11) (p1 := 65) (nN := 0) (nB := 0) (nC := 0) (SJ_if (p0 := 11) (pT := 22) (pF := 65) (nN := 65) (nB := 0) (nC := 0) (CJ_gt' (off := 46) (tgt := 65) (p0 := 11) (p1 := 12) (p2 := 19) (EJ_iload_n (j := 2) (i := 2) (pc := 11) D_M_heads3_11 rfl) (EJ_iald (p0 := 12) (p1 := 16) (p2 := 18) (EJ_getR (t := 13) (c := 12) (kf := 0) (r := (RX12, TX12, 52)) (p0 := 12) (p1 := 13) (EJ_aload_n (j := 0) (i := 0) (pc := 12) D_M_heads3_12 rfl) D_M_heads3_13 ⟨rfl, rfl, by decide, q_932⟩ (fun _ _ => rfl)) (EJ_iload (i := 4) (pc := 16) D_M_heads3_16) D_M_heads3_18) D_M_heads3_19 rfl) (SJ_sq (p0 := 22) (p1 := 34) (nN := 65) (nB := 0) (nC := 0) (SJ_if (p0 := 22) (pT := 32) (pF := 34) (nN := 34) (nB := 0) (nC := 0) (CJ_lt' (off := 5) (tgt := 34) (p0 := 22) (p1 := 23) (p2 := 29) (EJ_iload_n (j := 3) (i := 3) (pc := 22) D_M_heads3_22 rfl) (EJ_iald (p0 := 23) (p1 := 27) (p2 := 28) (EJ_getR (t := 13) (c := 12) (kf := 16) (r := (RX12, TX12, 52)) (p0 := 23) (p1 := 24) (EJ_aload_n (j := 0) (i := 0) (pc := 23) D_M_heads3_23 rfl) D_M_heads3_24 ⟨rfl, rfl, by decide, q_948⟩ (fun _ _ => rfl)) (EJ_iload_n (j := 1) (i := 1) (pc := 27) D_M_heads3_27 rfl) D_M_heads3_28) D_M_heads3_29 rfl) (SJ_ret (p0 := 32) (p1 := 33) (EJ_iconst (n := 0) (v := (nI 0)) (pc := 32) D_M_heads3_32 (by decide +kernel)) D_M_heads3_33) SJ_sk)
 (SJ_sq (p0 := 34) (p1 := 41) (nN := 65) (nB := 0) (nC := 0) (SJ_zast (ws := [98]) (p0 := 34) (p1 := 38) (p2 := 39) (p3 := 40) (EJ_getR (t := 13) (c := 12) (kf := 44) (r := (RX12, TX12, 52)) (p0 := 34) (p1 := 35) (EJ_aload_n (j := 0) (i := 0) (pc := 34) D_M_heads3_34 rfl) D_M_heads3_35 ⟨rfl, rfl, by decide, q_976⟩ (fun _ _ => rfl)) (EJ_iload_n (j := 1) (i := 1) (pc := 38) D_M_heads3_38 rfl) (EJ_iconst (n := 1) (v := (nI 1)) (pc := 39) D_M_heads3_39 (by decide +kernel)) D_M_heads3_40 (show ∀ x_ ∈ ([98] : List Nat), x_ ∈ ([13, 79, 80, 81, 87, 88, 89, 92, 93, 94, 95, 96, 97, 98, 99, 100, 101] : List Nat) from by decide))
 (SJ_sq (p0 := 41) (p1 := 51) (nN := 65) (nB := 0) (nC := 0) (SJ_upA (ws := [95]) (f := (fun x y => x + y)) (p0 := 41) (p1 := 45) (p2 := 46) (p4 := 49) (EJ_getR (t := 13) (c := 12) (kf := 41) (r := (RX12, TX12, 52)) (p0 := 41) (p1 := 42) (EJ_aload_n (j := 0) (i := 0) (pc := 41) D_M_heads3_41 rfl) D_M_heads3_42 ⟨rfl, rfl, by decide, q_973⟩ (fun _ _ => rfl)) (EJ_iload_n (j := 1) (i := 1) (pc := 45) D_M_heads3_45 rfl) D_M_heads3_46 D_M_heads3_47 (EJ_iconst (n := 1) (v := (nI 1)) (pc := 48) D_M_heads3_48 (by decide +kernel)) (Op2_iadd D_M_heads3_49) D_M_heads3_50 (show ∀ x_ ∈ ([95] : List Nat), x_ ∈ ([13, 79, 80, 81, 87, 88, 89, 92, 93, 94, 95, 96, 97, 98, 99, 100, 101] : List Nat) from by decide))
 (SJ_ret (p0 := 51) (p1 := 64) (EJ_callV (t := 13) (c := 12) (r := (RX12, TX12, 52)) (p0 := 51) (p1 := 52) (p2 := 61) (EJ_aload_n (j := 0) (i := 0) (pc := 51) D_M_heads3_51 rfl) (AJ_I (p0 := 52) (p1 := 53) (p2 := 61) (EJ_iload_n (j := 1) (i := 1) (pc := 52) D_M_heads3_52 rfl) (AJ_I (p0 := 53) (p1 := 61) (p2 := 61) (EJ_isub (p0 := 53) (p1 := 59) (p2 := 60) (EJ_iald (p0 := 53) (p1 := 57) (p2 := 58) (EJ_getR (t := 13) (c := 12) (kf := 41) (r := (RX12, TX12, 52)) (p0 := 53) (p1 := 54) (EJ_aload_n (j := 0) (i := 0) (pc := 53) D_M_heads3_53 rfl) D_M_heads3_54 ⟨rfl, rfl, by decide, q_973⟩ (fun _ _ => rfl)) (EJ_iload_n (j := 1) (i := 1) (pc := 57) D_M_heads3_57 rfl) D_M_heads3_58) (EJ_iconst (n := 1) (v := (nI 1)) (pc := 59) D_M_heads3_59 (by decide +kernel)) D_M_heads3_60) AJ_nil)) h2 E1_I D_M_heads3_61 rfl rfl rfl q_1303 q_1304 q_82 q_97 ⟨by decide +kernel, by decide +kernel, by decide +kernel⟩ (by decide) (Nat.le_refl _) (show ∀ x_ ∈ ([13, 79, 80, 81, 87, 88, 89, 92, 93, 94, 95, 96, 97, 98, 99, 100, 101] : List Nat), x_ ∈ ([13, 79, 80, 81, 87, 88, 89, 92, 93, 94, 95, 96, 97, 98, 99, 100, 101] : List Nat) from by decide)) D_M_heads3_64)))) SJ_sk)
 (SJ_sq (p0 := 65) (p1 := 76) (nN := 0) (nB := 0) (nC := 0) (SJ_istore (i := 5) (p0 := 65) (p1 := 74) (EJ_iald (p0 := 65) (p1 := 69) (p2 := 73) (EJ_getR (t := 13) (c := 12) (kf := 0) (r := (RX12, TX12, 52)) (p0 := 65) (p1 := 66) (EJ_aload_n (j := 0) (i := 0) (pc := 65) D_M_heads3_65 rfl) D_M_heads3_66 ⟨rfl, rfl, by decide, q_932⟩ (fun _ _ => rfl)) (EJ_iadd (p0 := 69) (p1 := 71) (p2 := 72) (EJ_iload (i := 4) (pc := 69) D_M_heads3_69) (EJ_iload_n (j := 2) (i := 2) (pc := 71) D_M_heads3_71 rfl) D_M_heads3_72) D_M_heads3_73) D_M_heads3_74)
 (SJ_sq (p0 := 76) (p1 := 125) (nN := 0) (nB := 0) (nC := 0) (SJ_if (p0 := 76) (pT := 84) (pF := 125) (nN := 125) (nB := 0) (nC := 0) (CZ_ne' (off := 44) (tgt := 125) (p0 := 76) (p1 := 81) (EJ_callS (p0 := 76) (p1 := 78) (AJ_I (p0 := 76) (p1 := 78) (p2 := 78) (EJ_iload (i := 5) (pc := 76) D_M_heads3_76) AJ_nil) m_M_isSmall E1_I D_M_heads3_78 q_1068 q_1069 q_97 ⟨by decide +kernel, by decide +kernel, by decide +kernel⟩ (by decide) (show 2 + 1 ≤ 4 + n + 1 from by omega) (fun _ h => absurd h List.not_mem_nil)) D_M_heads3_81 rfl) (SJ_ret (p0 := 84) (p1 := 124) (EJ_if (p0 := 84) (pT := 119) (pF := 123) (pE := 120) (p1 := 124) (CJ_and (p0 := 84) (pM := 105) (pT := 119) (pF := 123) (CJ_and (p0 := 84) (pM := 94) (pT := 105) (pF := 123) (CJ_lt' (off := 32) (tgt := 123) (p0 := 84) (p1 := 85) (p2 := 91) (EJ_iload_n (j := 3) (i := 3) (pc := 84) D_M_heads3_84 rfl) (EJ_iald (p0 := 85) (p1 := 89) (p2 := 90) (EJ_getR (t := 13) (c := 12) (kf := 16) (r := (RX12, TX12, 52)) (p0 := 85) (p1 := 86) (EJ_aload_n (j := 0) (i := 0) (pc := 85) D_M_heads3_85 rfl) D_M_heads3_86 ⟨rfl, rfl, by decide, q_948⟩ (fun _ _ => rfl)) (EJ_iload_n (j := 1) (i := 1) (pc := 89) D_M_heads3_89 rfl) D_M_heads3_90) D_M_heads3_91 rfl) (CJ_eq' (off := 21) (tgt := 123) (p0 := 94) (p1 := 100) (p2 := 102) (EJ_callV (t := 13) (c := 12) (r := (RX12, TX12, 52)) (p0 := 94) (p1 := 95) (p2 := 97) (EJ_aload_n (j := 0) (i := 0) (pc := 94) D_M_heads3_94 rfl) (AJ_I (p0 := 95) (p1 := 96) (p2 := 97) (EJ_iload_n (j := 1) (i := 1) (pc := 95) D_M_heads3_95 rfl) (AJ_I (p0 := 96) (p1 := 97) (p2 := 97) (EJ_iload_n (j := 3) (i := 3) (pc := 96) D_M_heads3_96 rfl) AJ_nil)) m_M_letterAt E1_I D_M_heads3_97 rfl rfl rfl q_1191 q_1192 q_63 q_97 ⟨by decide +kernel, by decide +kernel, by decide +kernel⟩ (by decide) (show 1 + 1 ≤ 4 + n + 1 from by omega) (fun _ h => absurd h List.not_mem_nil)) (EJ_iload (i := 5) (pc := 100) D_M_heads3_100) D_M_heads3_102 rfl)) (CZ_ne' (off := 7) (tgt := 123) (p0 := 105) (p1 := 116) (EJ_callV (t := 13) (c := 12) (r := (RX12, TX12, 52)) (p0 := 105) (p1 := 106) (p2 := 113) (EJ_aload_n (j := 0) (i := 0) (pc := 105) D_M_heads3_105 rfl) (AJ_I (p0 := 106) (p1 := 107) (p2 := 113) (EJ_iload_n (j := 1) (i := 1) (pc := 106) D_M_heads3_106 rfl) (AJ_I (p0 := 107) (p1 := 110) (p2 := 113) (EJ_iadd (p0 := 107) (p1 := 108) (p2 := 109) (EJ_iload_n (j := 2) (i := 2) (pc := 107) D_M_heads3_107 rfl) (EJ_iconst (n := 1) (v := (nI 1)) (pc := 108) D_M_heads3_108 (by decide +kernel)) D_M_heads3_109) (AJ_I (p0 := 110) (p1 := 113) (p2 := 113) (EJ_iadd (p0 := 110) (p1 := 111) (p2 := 112) (EJ_iload_n (j := 3) (i := 3) (pc := 110) D_M_heads3_110 rfl) (EJ_iconst (n := 1) (v := (nI 1)) (pc := 111) D_M_heads3_111 (by decide +kernel)) D_M_heads3_112) AJ_nil))) h1 E1_I D_M_heads3_113 rfl rfl rfl q_1300 q_1301 q_81 q_97 ⟨by decide +kernel, by decide +kernel, by decide +kernel⟩ (by decide) (Nat.le_refl _) (show ∀ x_ ∈ ([13, 79, 80, 81, 87, 88, 89, 92, 93, 94, 95, 96, 97, 98, 99, 100, 101] : List Nat), x_ ∈ ([13, 79, 80, 81, 87, 88, 89, 92, 93, 94, 95, 96, 97, 98, 99, 100, 101] : List Nat) from by decide)) D_M_heads3_116 rfl)) (EJ_iconst (n := 1) (v := (nI 1)) (pc := 119) D_M_heads3_119 (by decide +kernel)) (Lead.goto (K := (K_M_heads3 n)) (pc := 120) (tgt := 124) D_M_heads3_120 rfl) (EJ_iconst (n := 0) (v := (nI 0)) (pc := 123) D_M_heads3_123 (by decide +kernel))) D_M_heads3_124) SJ_sk)
 (SJ_sq (p0 := 125) (p1 := 138) (nN := 0) (nB := 0) (nC := 0) (SJ_istore (i := 6) (p0 := 125) (p1 := 136) (EJ_iadd (p0 := 125) (p1 := 129) (p2 := 135) (EJ_imul (p0 := 125) (p1 := 127) (p2 := 128) (EJ_bipush (n := 6) (v := (nI 6)) (pc := 125) D_M_heads3_125 (by decide +kernel)) (EJ_iload_n (j := 1) (i := 1) (pc := 127) D_M_heads3_127 rfl) D_M_heads3_128) (EJ_callV (t := 13) (c := 12) (r := (RX12, TX12, 52)) (p0 := 129) (p1 := 130) (p2 := 132) (EJ_aload_n (j := 0) (i := 0) (pc := 129) D_M_heads3_129 rfl) (AJ_I (p0 := 130) (p1 := 132) (p2 := 132) (EJ_iload (i := 5) (pc := 130) D_M_heads3_130) AJ_nil) m_M_metaOf E1_I D_M_heads3_132 rfl rfl rfl q_1161 q_1162 q_56 q_97 ⟨by decide +kernel, by decide +kernel, by decide +kernel⟩ (by decide) (show 1 + 1 ≤ 4 + n + 1 from by omega) (fun _ h => absurd h List.not_mem_nil)) D_M_heads3_135) D_M_heads3_136)
 (SJ_sq (p0 := 138) (p1 := 216) (nN := 0) (nB := 0) (nC := 0) (SJ_if (p0 := 138) (pT := 149) (pF := 216) (nN := 216) (nB := 0) (nC := 0) (CJ_ne' (off := 70) (tgt := 216) (p0 := 138) (p1 := 145) (p2 := 146) (EJ_iald (p0 := 138) (p1 := 142) (p2 := 144) (EJ_getR (t := 13) (c := 12) (kf := 27) (r := (RX12, TX12, 52)) (p0 := 138) (p1 := 139) (EJ_aload_n (j := 0) (i := 0) (pc := 138) D_M_heads3_138 rfl) D_M_heads3_139 ⟨rfl, rfl, by decide, q_959⟩ (fun _ _ => rfl)) (EJ_iload (i := 6) (pc := 142) D_M_heads3_142) D_M_heads3_144) (EJ_iconst (n := -1) (v := (-1)) (pc := 145) D_M_heads3_145 (by decide +kernel)) D_M_heads3_146 rfl) (SJ_ret (p0 := 149) (p1 := 215) (EJ_if (p0 := 149) (pT := 210) (pF := 214) (pE := 211) (p1 := 215) (CJ_and (p0 := 149) (pM := 190) (pT := 210) (pF := 214) (CJ_and (p0 := 149) (pM := 167) (pT := 190) (pF := 214) (CJ_le' (off := 50) (tgt := 214) (p0 := 149) (p1 := 158) (p2 := 164) (EJ_iadd (p0 := 149) (p1 := 150) (p2 := 157) (EJ_iload_n (j := 3) (i := 3) (pc := 149) D_M_heads3_149 rfl) (EJ_iald (p0 := 150) (p1 := 154) (p2 := 156) (EJ_getR (t := 13) (c := 12) (kf := 27) (r := (RX12, TX12, 52)) (p0 := 150) (p1 := 151) (EJ_aload_n (j := 0) (i := 0) (pc := 150) D_M_heads3_150 rfl) D_M_heads3_151 ⟨rfl, rfl, by decide, q_959⟩ (fun _ _ => rfl)) (EJ_iload (i := 6) (pc := 154) D_M_heads3_154) D_M_heads3_156) D_M_heads3_157) (EJ_iald (p0 := 158) (p1 := 162) (p2 := 163) (EJ_getR (t := 13) (c := 12) (kf := 16) (r := (RX12, TX12, 52)) (p0 := 158) (p1 := 159) (EJ_aload_n (j := 0) (i := 0) (pc := 158) D_M_heads3_158 rfl) D_M_heads3_159 ⟨rfl, rfl, by decide, q_948⟩ (fun _ _ => rfl)) (EJ_iload_n (j := 1) (i := 1) (pc := 162) D_M_heads3_162 rfl) D_M_heads3_163) D_M_heads3_164 rfl) (CZ_ne' (off := 27) (tgt := 214) (p0 := 167) (p1 := 187) (EJ_callV (t := 13) (c := 12) (r := (RX12, TX12, 52)) (p0 := 167) (p1 := 168) (p2 := 184) (EJ_aload_n (j := 0) (i := 0) (pc := 167) D_M_heads3_167 rfl) (AJ_I (p0 := 168) (p1 := 169) (p2 := 184) (EJ_iload_n (j := 1) (i := 1) (pc := 168) D_M_heads3_168 rfl) (AJ_I (p0 := 169) (p1 := 176) (p2 := 184) (EJ_iald (p0 := 169) (p1 := 173) (p2 := 175) (EJ_getR (t := 13) (c := 12) (kf := 26) (r := (RX12, TX12, 52)) (p0 := 169) (p1 := 170) (EJ_aload_n (j := 0) (i := 0) (pc := 169) D_M_heads3_169 rfl) D_M_heads3_170 ⟨rfl, rfl, by decide, q_958⟩ (fun _ _ => rfl)) (EJ_iload (i := 6) (pc := 173) D_M_heads3_173) D_M_heads3_175) (AJ_I (p0 := 176) (p1 := 177) (p2 := 184) (EJ_iload_n (j := 3) (i := 3) (pc := 176) D_M_heads3_176 rfl) (AJ_I (p0 := 177) (p1 := 184) (p2 := 184) (EJ_iald (p0 := 177) (p1 := 181) (p2 := 183) (EJ_getR (t := 13) (c := 12) (kf := 27) (r := (RX12, TX12, 52)) (p0 := 177) (p1 := 178) (EJ_aload_n (j := 0) (i := 0) (pc := 177) D_M_heads3_177 rfl) D_M_heads3_178 ⟨rfl, rfl, by decide, q_959⟩ (fun _ _ => rfl)) (EJ_iload (i := 6) (pc := 181) D_M_heads3_181) D_M_heads3_183) AJ_nil)))) m_M_isAlike E1_I D_M_heads3_184 rfl rfl rfl q_1275 q_1276 q_77 q_97 ⟨by decide +kernel, by decide +kernel, by decide +kernel⟩ (by decide) (show 2 + 1 ≤ 4 + n + 1 from by omega) (fun _ h => absurd h List.not_mem_nil)) D_M_heads3_187 rfl)) (CZ_ne' (off := 7) (tgt := 214) (p0 := 190) (p1 := 207) (EJ_callV (t := 13) (c := 12) (r := (RX12, TX12, 52)) (p0 := 190) (p1 := 191) (p2 := 204) (EJ_aload_n (j := 0) (i := 0) (pc := 190) D_M_heads3_190 rfl) (AJ_I (p0 := 191) (p1 := 192) (p2 := 204) (EJ_iload_n (j := 1) (i := 1) (pc := 191) D_M_heads3_191 rfl) (AJ_I (p0 := 192) (p1 := 195) (p2 := 204) (EJ_iadd (p0 := 192) (p1 := 193) (p2 := 194) (EJ_iload_n (j := 2) (i := 2) (pc := 192) D_M_heads3_192 rfl) (EJ_iconst (n := 1) (v := (nI 1)) (pc := 193) D_M_heads3_193 (by decide +kernel)) D_M_heads3_194) (AJ_I (p0 := 195) (p1 := 204) (p2 := 204) (EJ_iadd (p0 := 195) (p1 := 196) (p2 := 203) (EJ_iload_n (j := 3) (i := 3) (pc := 195) D_M_heads3_195 rfl) (EJ_iald (p0 := 196) (p1 := 200) (p2 := 202) (EJ_getR (t := 13) (c := 12) (kf := 27) (r := (RX12, TX12, 52)) (p0 := 196) (p1 := 197) (EJ_aload_n (j := 0) (i := 0) (pc := 196) D_M_heads3_196 rfl) D_M_heads3_197 ⟨rfl, rfl, by decide, q_959⟩ (fun _ _ => rfl)) (EJ_iload (i := 6) (pc := 200) D_M_heads3_200) D_M_heads3_202) D_M_heads3_203) AJ_nil))) h1 E1_I D_M_heads3_204 rfl rfl rfl q_1300 q_1301 q_81 q_97 ⟨by decide +kernel, by decide +kernel, by decide +kernel⟩ (by decide) (Nat.le_refl _) (show ∀ x_ ∈ ([13, 79, 80, 81, 87, 88, 89, 92, 93, 94, 95, 96, 97, 98, 99, 100, 101] : List Nat), x_ ∈ ([13, 79, 80, 81, 87, 88, 89, 92, 93, 94, 95, 96, 97, 98, 99, 100, 101] : List Nat) from by decide)) D_M_heads3_207 rfl)) (EJ_iconst (n := 1) (v := (nI 1)) (pc := 210) D_M_heads3_210 (by decide +kernel)) (Lead.goto (K := (K_M_heads3 n)) (pc := 211) (tgt := 215) D_M_heads3_211 rfl) (EJ_iconst (n := 0) (v := (nI 0)) (pc := 214) D_M_heads3_214 (by decide +kernel))) D_M_heads3_215) SJ_sk)
 (SJ_sq (p0 := 216) (p1 := 305) (nN := 0) (nB := 0) (nC := 0) (SJ_sq (p0 := 216) (p1 := 219) (nN := 305) (nB := 0) (nC := 0) (SJ_istore (i := 7) (p0 := 216) (p1 := 217) (EJ_iconst (n := 0) (v := (nI 0)) (pc := 216) D_M_heads3_216 (by decide +kernel)) D_M_heads3_217)
 (SJ_loop (p0 := 219) (pB := 239) (pS := 299) (pE := 305) (CJ_and (p0 := 219) (pM := 232) (pT := 239) (pF := 305) (CJ_le' (off := 76) (tgt := 305) (p0 := 219) (p1 := 223) (p2 := 229) (EJ_iadd (p0 := 219) (p1 := 220) (p2 := 222) (EJ_iload_n (j := 3) (i := 3) (pc := 219) D_M_heads3_219 rfl) (EJ_iload (i := 7) (pc := 220) D_M_heads3_220) D_M_heads3_222) (EJ_iald (p0 := 223) (p1 := 227) (p2 := 228) (EJ_getR (t := 13) (c := 12) (kf := 16) (r := (RX12, TX12, 52)) (p0 := 223) (p1 := 224) (EJ_aload_n (j := 0) (i := 0) (pc := 223) D_M_heads3_223 rfl) D_M_heads3_224 ⟨rfl, rfl, by decide, q_948⟩ (fun _ _ => rfl)) (EJ_iload_n (j := 1) (i := 1) (pc := 227) D_M_heads3_227 rfl) D_M_heads3_228) D_M_heads3_229 rfl) (CJ_not (p0 := 232) (pT := 239) (pF := 305) (CZ_ne (off := 69) (tgt := 305) (p0 := 232) (p1 := 236) (EJ_getI (t := 13) (c := 12) (kf := 37) (r := (RX12, TX12, 52)) (p0 := 232) (p1 := 233) (EJ_aload_n (j := 0) (i := 0) (pc := 232) D_M_heads3_232 rfl) D_M_heads3_233 ⟨rfl, rfl, by decide, q_969⟩ (fun _ _ => rfl)) D_M_heads3_236 rfl)))
 (SJ_if (p0 := 239) (pT := 265) (pF := 299) (nN := 299) (nB := 305) (nC := 299) (CZ_ne' (off := 37) (tgt := 299) (p0 := 239) (p1 := 262) (EJ_callS (p0 := 239) (p1 := 259) (AJ_I (p0 := 239) (p1 := 255) (p2 := 259) (EJ_iald (p0 := 239) (p1 := 243) (p2 := 254) (EJ_getR (t := 13) (c := 12) (kf := 17) (r := (RX12, TX12, 52)) (p0 := 239) (p1 := 240) (EJ_aload_n (j := 0) (i := 0) (pc := 239) D_M_heads3_239 rfl) D_M_heads3_240 ⟨rfl, rfl, by decide, q_949⟩ (fun _ _ => rfl)) (EJ_callS (p0 := 243) (p1 := 251) (AJ_I (p0 := 243) (p1 := 244) (p2 := 251) (EJ_iload_n (j := 1) (i := 1) (pc := 243) D_M_heads3_243 rfl) (AJ_I (p0 := 244) (p1 := 250) (p2 := 251) (EJ_callV (t := 13) (c := 12) (r := (RX12, TX12, 52)) (p0 := 244) (p1 := 245) (p2 := 247) (EJ_aload_n (j := 0) (i := 0) (pc := 244) D_M_heads3_244 rfl) (AJ_I (p0 := 245) (p1 := 247) (p2 := 247) (EJ_iload (i := 5) (pc := 245) D_M_heads3_245) AJ_nil) m_M_metaOf E1_I D_M_heads3_247 rfl rfl rfl q_1161 q_1162 q_56 q_97 ⟨by decide +kernel, by decide +kernel, by decide +kernel⟩ (by decide) (show 1 + 1 ≤ 4 + n + 1 from by omega) (fun _ h => absurd h List.not_mem_nil)) (AJ_I (p0 := 250) (p1 := 251) (p2 := 251) (EJ_iload_n (j := 3) (i := 3) (pc := 250) D_M_heads3_250 rfl) AJ_nil))) m_M_spanAt E1_I D_M_heads3_251 q_1182 q_1183 q_97 ⟨by decide +kernel, by decide +kernel, by decide +kernel⟩ (by decide) (show 1 + 1 ≤ 4 + n + 1 from by omega) (fun _ h => absurd h List.not_mem_nil)) D_M_heads3_254) (AJ_I (p0 := 255) (p1 := 259) (p2 := 259) (EJ_iadd (p0 := 255) (p1 := 256) (p2 := 258) (EJ_iload_n (j := 3) (i := 3) (pc := 255) D_M_heads3_255 rfl) (EJ_iload (i := 7) (pc := 256) D_M_heads3_256) D_M_heads3_258) AJ_nil)) m_M_has E1_I D_M_heads3_259 q_1188 q_1189 q_97 ⟨by decide +kernel, by decide +kernel, by decide +kernel⟩ (by decide) (show 1 + 1 ≤ 4 + n + 1 from by omega) (fun _ h => absurd h List.not_mem_nil)) D_M_heads3_262 rfl) (SJ_sq (p0 := 265) (p1 := 273) (nN := 299) (nB := 305) (nC := 299) (SJ_iast (ws := [88]) (p0 := 265) (p1 := 269) (p2 := 271) (p3 := 272) (EJ_getR (t := 13) (c := 12) (kf := 26) (r := (RX12, TX12, 52)) (p0 := 265) (p1 := 266) (EJ_aload_n (j := 0) (i := 0) (pc := 265) D_M_heads3_265 rfl) D_M_heads3_266 ⟨rfl, rfl, by decide, q_958⟩ (fun _ _ => rfl)) (EJ_iload (i := 6) (pc := 269) D_M_heads3_269) (EJ_iload_n (j := 3) (i := 3) (pc := 271) D_M_heads3_271 rfl) D_M_heads3_272 (show ∀ x_ ∈ ([88] : List Nat), x_ ∈ ([13, 79, 80, 81, 87, 88, 89, 92, 93, 94, 95, 96, 97, 98, 99, 100, 101] : List Nat) from by decide))
 (SJ_sq (p0 := 273) (p1 := 282) (nN := 299) (nB := 305) (nC := 299) (SJ_iast (ws := [89]) (p0 := 273) (p1 := 277) (p2 := 279) (p3 := 281) (EJ_getR (t := 13) (c := 12) (kf := 27) (r := (RX12, TX12, 52)) (p0 := 273) (p1 := 274) (EJ_aload_n (j := 0) (i := 0) (pc := 273) D_M_heads3_273 rfl) D_M_heads3_274 ⟨rfl, rfl, by decide, q_959⟩ (fun _ _ => rfl)) (EJ_iload (i := 6) (pc := 277) D_M_heads3_277) (EJ_iload (i := 7) (pc := 279) D_M_heads3_279) D_M_heads3_281 (show ∀ x_ ∈ ([89] : List Nat), x_ ∈ ([13, 79, 80, 81, 87, 88, 89, 92, 93, 94, 95, 96, 97, 98, 99, 100, 101] : List Nat) from by decide))
 (SJ_if (p0 := 282) (pT := 297) (pF := 299) (nN := 299) (nB := 305) (nC := 299) (CZ_ne' (off := 5) (tgt := 299) (p0 := 282) (p1 := 294) (EJ_callV (t := 13) (c := 12) (r := (RX12, TX12, 52)) (p0 := 282) (p1 := 283) (p2 := 291) (EJ_aload_n (j := 0) (i := 0) (pc := 282) D_M_heads3_282 rfl) (AJ_I (p0 := 283) (p1 := 284) (p2 := 291) (EJ_iload_n (j := 1) (i := 1) (pc := 283) D_M_heads3_283 rfl) (AJ_I (p0 := 284) (p1 := 287) (p2 := 291) (EJ_iadd (p0 := 284) (p1 := 285) (p2 := 286) (EJ_iload_n (j := 2) (i := 2) (pc := 284) D_M_heads3_284 rfl) (EJ_iconst (n := 1) (v := (nI 1)) (pc := 285) D_M_heads3_285 (by decide +kernel)) D_M_heads3_286) (AJ_I (p0 := 287) (p1 := 291) (p2 := 291) (EJ_iadd (p0 := 287) (p1 := 288) (p2 := 290) (EJ_iload_n (j := 3) (i := 3) (pc := 287) D_M_heads3_287 rfl) (EJ_iload (i := 7) (pc := 288) D_M_heads3_288) D_M_heads3_290) AJ_nil))) h1 E1_I D_M_heads3_291 rfl rfl rfl q_1300 q_1301 q_81 q_97 ⟨by decide +kernel, by decide +kernel, by decide +kernel⟩ (by decide) (Nat.le_refl _) (show ∀ x_ ∈ ([13, 79, 80, 81, 87, 88, 89, 92, 93, 94, 95, 96, 97, 98, 99, 100, 101] : List Nat), x_ ∈ ([13, 79, 80, 81, 87, 88, 89, 92, 93, 94, 95, 96, 97, 98, 99, 100, 101] : List Nat) from by decide)) D_M_heads3_294 rfl) (SJ_ret (p0 := 297) (p1 := 298) (EJ_iconst (n := 1) (v := (nI 1)) (pc := 297) D_M_heads3_297 (by decide +kernel)) D_M_heads3_298) SJ_sk))) SJ_sk)
 (SJ_post (SJ_iinc (i := 7) (n := 1) (v := (nI 1)) (pc := 299) D_M_heads3_299 (by decide +kernel)) (Lead.goto (K := (K_M_heads3 n)) (pc := 302) (tgt := 219) D_M_heads3_302 rfl))))
 (SJ_sq (p0 := 305) (p1 := 313) (nN := 0) (nB := 0) (nC := 0) (SJ_iast (ws := [89]) (p0 := 305) (p1 := 309) (p2 := 311) (p3 := 312) (EJ_getR (t := 13) (c := 12) (kf := 27) (r := (RX12, TX12, 52)) (p0 := 305) (p1 := 306) (EJ_aload_n (j := 0) (i := 0) (pc := 305) D_M_heads3_305 rfl) D_M_heads3_306 ⟨rfl, rfl, by decide, q_959⟩ (fun _ _ => rfl)) (EJ_iload (i := 6) (pc := 309) D_M_heads3_309) (EJ_iconst (n := -1) (v := (-1)) (pc := 311) D_M_heads3_311 (by decide +kernel)) D_M_heads3_312 (show ∀ x_ ∈ ([89] : List Nat), x_ ∈ ([13, 79, 80, 81, 87, 88, 89, 92, 93, 94, 95, 96, 97, 98, 99, 100, 101] : List Nat) from by decide))
 (SJ_ret (p0 := 313) (p1 := 314) (EJ_iconst (n := 0) (v := (nI 0)) (pc := 313) D_M_heads3_313 (by decide +kernel)) D_M_heads3_314)))))))))
 RTm_bool q_1302 (by decide +kernel) rfl (fun h => by cases h) (show 8 ≤ 40 from by decide) (fun _ => trivial)
theorem D_M_choices2_0 : decode cX12_choices_ 0 = .ok (.aload_n 0, 1) := by decide +kernel
theorem D_M_choices2_1 : decode cX12_choices_ 1 = .ok (.getfield 84, 3) := by decide +kernel
theorem D_M_choices2_4 : decode cX12_choices_ 4 = .ok (.iload_n 1, 1) := by decide +kernel
theorem D_M_choices2_5 : decode cX12_choices_ 5 = .ok (.iaload, 1) := by decide +kernel
theorem D_M_choices2_6 : decode cX12_choices_ 6 = .ok (.istore_n 3, 1) := by decide +kernel
theorem D_M_choices2_7 : decode cX12_choices_ 7 = .ok (.iconst (0), 1) := by decide +kernel
theorem D_M_choices2_8 : decode cX12_choices_ 8 = .ok (.istore 4, 2) := by decide +kernel
theorem D_M_choices2_10 : decode cX12_choices_ 10 = .ok (.iload 4, 2) := by decide +kernel
theorem D_M_choices2_12 : decode cX12_choices_ 12 = .ok (.aload_n 0, 1) := by decide +kernel
theorem D_M_choices2_13 : decode cX12_choices_ 13 = .ok (.iload_n 3, 1) := by decide +kernel
theorem D_M_choices2_14 : decode cX12_choices_ 14 = .ok (.invokevirtual 264, 3) := by decide +kernel
theorem D_M_choices2_17 : decode cX12_choices_ 17 = .ok (.if_icmp .ge (303), 3) := by decide +kernel
theorem D_M_choices2_20 : decode cX12_choices_ 20 = .ok (.aload_n 0, 1) := by decide +kernel
theorem D_M_choices2_21 : decode cX12_choices_ 21 = .ok (.getfield 323, 3) := by decide +kernel
theorem D_M_choices2_24 : decode cX12_choices_ 24 = .ok (.ifCond .ne (296), 3) := by decide +kernel
theorem D_M_choices2_27 : decode cX12_choices_ 27 = .ok (.aload_n 0, 1) := by decide +kernel
theorem D_M_choices2_28 : decode cX12_choices_ 28 = .ok (.iload_n 3, 1) := by decide +kernel
theorem D_M_choices2_29 : decode cX12_choices_ 29 = .ok (.iload 4, 2) := by decide +kernel
theorem D_M_choices2_31 : decode cX12_choices_ 31 = .ok (.invokevirtual 297, 3) := by decide +kernel
theorem D_M_choices2_34 : decode cX12_choices_ 34 = .ok (.aload_n 0, 1) := by decide +kernel
theorem D_M_choices2_35 : decode cX12_choices_ 35 = .ok (.getfield 294, 3) := by decide +kernel
theorem D_M_choices2_38 : decode cX12_choices_ 38 = .ok (.ifCond .le (12), 3) := by decide +kernel
theorem D_M_choices2_41 : decode cX12_choices_ 41 = .ok (.aload_n 0, 1) := by decide +kernel
theorem D_M_choices2_42 : decode cX12_choices_ 42 = .ok (.getfield 63, 3) := by decide +kernel
theorem D_M_choices2_45 : decode cX12_choices_ 45 = .ok (.iconst (0), 1) := by decide +kernel
theorem D_M_choices2_46 : decode cX12_choices_ 46 = .ok (.iaload, 1) := by decide +kernel
theorem D_M_choices2_47 : decode cX12_choices_ 47 = .ok (.goto (4), 3) := by decide +kernel
theorem D_M_choices2_50 : decode cX12_choices_ 50 = .ok (.iconst (-1), 1) := by decide +kernel
theorem D_M_choices2_51 : decode cX12_choices_ 51 = .ok (.istore 5, 2) := by decide +kernel
theorem D_M_choices2_53 : decode cX12_choices_ 53 = .ok (.aload_n 0, 1) := by decide +kernel
theorem D_M_choices2_54 : decode cX12_choices_ 54 = .ok (.getfield 294, 3) := by decide +kernel
theorem D_M_choices2_57 : decode cX12_choices_ 57 = .ok (.iconst (1), 1) := by decide +kernel
theorem D_M_choices2_58 : decode cX12_choices_ 58 = .ok (.if_icmp .le (12), 3) := by decide +kernel
theorem D_M_choices2_61 : decode cX12_choices_ 61 = .ok (.aload_n 0, 1) := by decide +kernel
theorem D_M_choices2_62 : decode cX12_choices_ 62 = .ok (.getfield 63, 3) := by decide +kernel
theorem D_M_choices2_65 : decode cX12_choices_ 65 = .ok (.iconst (1), 1) := by decide +kernel
theorem D_M_choices2_66 : decode cX12_choices_ 66 = .ok (.iaload, 1) := by decide +kernel
theorem D_M_choices2_67 : decode cX12_choices_ 67 = .ok (.goto (4), 3) := by decide +kernel
theorem D_M_choices2_70 : decode cX12_choices_ 70 = .ok (.iconst (-1), 1) := by decide +kernel
theorem D_M_choices2_71 : decode cX12_choices_ 71 = .ok (.istore 6, 2) := by decide +kernel
theorem D_M_choices2_73 : decode cX12_choices_ 73 = .ok (.iload 5, 2) := by decide +kernel
theorem D_M_choices2_75 : decode cX12_choices_ 75 = .ok (.iconst (-1), 1) := by decide +kernel
theorem D_M_choices2_76 : decode cX12_choices_ 76 = .ok (.if_icmp .ne (7), 3) := by decide +kernel
theorem D_M_choices2_79 : decode cX12_choices_ 79 = .ok (.iconst (1), 1) := by decide +kernel
theorem D_M_choices2_80 : decode cX12_choices_ 80 = .ok (.goto (10), 3) := by decide +kernel
theorem D_M_choices2_83 : decode cX12_choices_ 83 = .ok (.aload_n 0, 1) := by decide +kernel
theorem D_M_choices2_84 : decode cX12_choices_ 84 = .ok (.getfield 48, 3) := by decide +kernel
theorem D_M_choices2_87 : decode cX12_choices_ 87 = .ok (.iload 5, 2) := by decide +kernel
theorem D_M_choices2_89 : decode cX12_choices_ 89 = .ok (.iaload, 1) := by decide +kernel
theorem D_M_choices2_90 : decode cX12_choices_ 90 = .ok (.istore 7, 2) := by decide +kernel
theorem D_M_choices2_92 : decode cX12_choices_ 92 = .ok (.iload 6, 2) := by decide +kernel
theorem D_M_choices2_94 : decode cX12_choices_ 94 = .ok (.iconst (-1), 1) := by decide +kernel
theorem D_M_choices2_95 : decode cX12_choices_ 95 = .ok (.if_icmp .ne (7), 3) := by decide +kernel
theorem D_M_choices2_98 : decode cX12_choices_ 98 = .ok (.iconst (1), 1) := by decide +kernel
theorem D_M_choices2_99 : decode cX12_choices_ 99 = .ok (.goto (10), 3) := by decide +kernel
theorem D_M_choices2_102 : decode cX12_choices_ 102 = .ok (.aload_n 0, 1) := by decide +kernel
theorem D_M_choices2_103 : decode cX12_choices_ 103 = .ok (.getfield 48, 3) := by decide +kernel
theorem D_M_choices2_106 : decode cX12_choices_ 106 = .ok (.iload 6, 2) := by decide +kernel
theorem D_M_choices2_108 : decode cX12_choices_ 108 = .ok (.iaload, 1) := by decide +kernel
theorem D_M_choices2_109 : decode cX12_choices_ 109 = .ok (.istore 8, 2) := by decide +kernel
theorem D_M_choices2_111 : decode cX12_choices_ 111 = .ok (.iconst (0), 1) := by decide +kernel
theorem D_M_choices2_112 : decode cX12_choices_ 112 = .ok (.istore 9, 2) := by decide +kernel
theorem D_M_choices2_114 : decode cX12_choices_ 114 = .ok (.iload 9, 2) := by decide +kernel
theorem D_M_choices2_116 : decode cX12_choices_ 116 = .ok (.iload 7, 2) := by decide +kernel
theorem D_M_choices2_118 : decode cX12_choices_ 118 = .ok (.iload 8, 2) := by decide +kernel
theorem D_M_choices2_120 : decode cX12_choices_ 120 = .ok (.imul, 1) := by decide +kernel
theorem D_M_choices2_121 : decode cX12_choices_ 121 = .ok (.if_icmp .ge (193), 3) := by decide +kernel
theorem D_M_choices2_124 : decode cX12_choices_ 124 = .ok (.aload_n 0, 1) := by decide +kernel
theorem D_M_choices2_125 : decode cX12_choices_ 125 = .ok (.getfield 323, 3) := by decide +kernel
theorem D_M_choices2_128 : decode cX12_choices_ 128 = .ok (.ifCond .ne (186), 3) := by decide +kernel
theorem D_M_choices2_131 : decode cX12_choices_ 131 = .ok (.iload 5, 2) := by decide +kernel
theorem D_M_choices2_133 : decode cX12_choices_ 133 = .ok (.iconst (-1), 1) := by decide +kernel
theorem D_M_choices2_134 : decode cX12_choices_ 134 = .ok (.if_icmp .eq (20), 3) := by decide +kernel
theorem D_M_choices2_137 : decode cX12_choices_ 137 = .ok (.aload_n 0, 1) := by decide +kernel
theorem D_M_choices2_138 : decode cX12_choices_ 138 = .ok (.getfield 93, 3) := by decide +kernel
theorem D_M_choices2_141 : decode cX12_choices_ 141 = .ok (.bipush (6), 2) := by decide +kernel
theorem D_M_choices2_143 : decode cX12_choices_ 143 = .ok (.iload_n 1, 1) := by decide +kernel
theorem D_M_choices2_144 : decode cX12_choices_ 144 = .ok (.imul, 1) := by decide +kernel
theorem D_M_choices2_145 : decode cX12_choices_ 145 = .ok (.iload 5, 2) := by decide +kernel
theorem D_M_choices2_147 : decode cX12_choices_ 147 = .ok (.iadd, 1) := by decide +kernel
theorem D_M_choices2_148 : decode cX12_choices_ 148 = .ok (.iload 9, 2) := by decide +kernel
theorem D_M_choices2_150 : decode cX12_choices_ 150 = .ok (.iload 8, 2) := by decide +kernel
theorem D_M_choices2_152 : decode cX12_choices_ 152 = .ok (.idiv, 1) := by decide +kernel
theorem D_M_choices2_153 : decode cX12_choices_ 153 = .ok (.iastore, 1) := by decide +kernel
theorem D_M_choices2_154 : decode cX12_choices_ 154 = .ok (.iload 6, 2) := by decide +kernel
theorem D_M_choices2_156 : decode cX12_choices_ 156 = .ok (.iconst (-1), 1) := by decide +kernel
theorem D_M_choices2_157 : decode cX12_choices_ 157 = .ok (.if_icmp .eq (20), 3) := by decide +kernel
theorem D_M_choices2_160 : decode cX12_choices_ 160 = .ok (.aload_n 0, 1) := by decide +kernel
theorem D_M_choices2_161 : decode cX12_choices_ 161 = .ok (.getfield 93, 3) := by decide +kernel
theorem D_M_choices2_164 : decode cX12_choices_ 164 = .ok (.bipush (6), 2) := by decide +kernel
theorem D_M_choices2_166 : decode cX12_choices_ 166 = .ok (.iload_n 1, 1) := by decide +kernel
theorem D_M_choices2_167 : decode cX12_choices_ 167 = .ok (.imul, 1) := by decide +kernel
theorem D_M_choices2_168 : decode cX12_choices_ 168 = .ok (.iload 6, 2) := by decide +kernel
theorem D_M_choices2_170 : decode cX12_choices_ 170 = .ok (.iadd, 1) := by decide +kernel
theorem D_M_choices2_171 : decode cX12_choices_ 171 = .ok (.iload 9, 2) := by decide +kernel
theorem D_M_choices2_173 : decode cX12_choices_ 173 = .ok (.iload 8, 2) := by decide +kernel
theorem D_M_choices2_175 : decode cX12_choices_ 175 = .ok (.irem, 1) := by decide +kernel
theorem D_M_choices2_176 : decode cX12_choices_ 176 = .ok (.iastore, 1) := by decide +kernel
theorem D_M_choices2_177 : decode cX12_choices_ 177 = .ok (.aload_n 0, 1) := by decide +kernel
theorem D_M_choices2_178 : decode cX12_choices_ 178 = .ok (.iload_n 1, 1) := by decide +kernel
theorem D_M_choices2_179 : decode cX12_choices_ 179 = .ok (.iload 4, 2) := by decide +kernel
theorem D_M_choices2_181 : decode cX12_choices_ 181 = .ok (.iconst (0), 1) := by decide +kernel
theorem D_M_choices2_182 : decode cX12_choices_ 182 = .ok (.aload_n 0, 1) := by decide +kernel
theorem D_M_choices2_183 : decode cX12_choices_ 183 = .ok (.getfield 78, 3) := by decide +kernel
theorem D_M_choices2_186 : decode cX12_choices_ 186 = .ok (.iload_n 1, 1) := by decide +kernel
theorem D_M_choices2_187 : decode cX12_choices_ 187 = .ok (.iaload, 1) := by decide +kernel
theorem D_M_choices2_188 : decode cX12_choices_ 188 = .ok (.invokevirtual 354, 3) := by decide +kernel
theorem D_M_choices2_191 : decode cX12_choices_ 191 = .ok (.ifCond .eq (105), 3) := by decide +kernel
theorem D_M_choices2_194 : decode cX12_choices_ 194 = .ok (.bipush (12), 2) := by decide +kernel
theorem D_M_choices2_196 : decode cX12_choices_ 196 = .ok (.aload_n 0, 1) := by decide +kernel
theorem D_M_choices2_197 : decode cX12_choices_ 197 = .ok (.getfield 90, 3) := by decide +kernel
theorem D_M_choices2_200 : decode cX12_choices_ 200 = .ok (.iload_n 1, 1) := by decide +kernel
theorem D_M_choices2_201 : decode cX12_choices_ 201 = .ok (.iaload, 1) := by decide +kernel
theorem D_M_choices2_202 : decode cX12_choices_ 202 = .ok (.imul, 1) := by decide +kernel
theorem D_M_choices2_203 : decode cX12_choices_ 203 = .ok (.istore 10, 2) := by decide +kernel
theorem D_M_choices2_205 : decode cX12_choices_ 205 = .ok (.aload_n 0, 1) := by decide +kernel
theorem D_M_choices2_206 : decode cX12_choices_ 206 = .ok (.getfield 99, 3) := by decide +kernel
theorem D_M_choices2_209 : decode cX12_choices_ 209 = .ok (.iload 10, 2) := by decide +kernel
theorem D_M_choices2_211 : decode cX12_choices_ 211 = .ok (.iload_n 3, 1) := by decide +kernel
theorem D_M_choices2_212 : decode cX12_choices_ 212 = .ok (.iastore, 1) := by decide +kernel
theorem D_M_choices2_213 : decode cX12_choices_ 213 = .ok (.aload_n 0, 1) := by decide +kernel
theorem D_M_choices2_214 : decode cX12_choices_ 214 = .ok (.getfield 99, 3) := by decide +kernel
theorem D_M_choices2_217 : decode cX12_choices_ 217 = .ok (.iload 10, 2) := by decide +kernel
theorem D_M_choices2_219 : decode cX12_choices_ 219 = .ok (.iconst (1), 1) := by decide +kernel
theorem D_M_choices2_220 : decode cX12_choices_ 220 = .ok (.iadd, 1) := by decide +kernel
theorem D_M_choices2_221 : decode cX12_choices_ 221 = .ok (.iload 4, 2) := by decide +kernel
theorem D_M_choices2_223 : decode cX12_choices_ 223 = .ok (.iastore, 1) := by decide +kernel
theorem D_M_choices2_224 : decode cX12_choices_ 224 = .ok (.aload_n 0, 1) := by decide +kernel
theorem D_M_choices2_225 : decode cX12_choices_ 225 = .ok (.getfield 99, 3) := by decide +kernel
theorem D_M_choices2_228 : decode cX12_choices_ 228 = .ok (.iload 10, 2) := by decide +kernel
theorem D_M_choices2_230 : decode cX12_choices_ 230 = .ok (.iconst (2), 1) := by decide +kernel
theorem D_M_choices2_231 : decode cX12_choices_ 231 = .ok (.iadd, 1) := by decide +kernel
theorem D_M_choices2_232 : decode cX12_choices_ 232 = .ok (.iload_n 2, 1) := by decide +kernel
theorem D_M_choices2_233 : decode cX12_choices_ 233 = .ok (.iastore, 1) := by decide +kernel
theorem D_M_choices2_234 : decode cX12_choices_ 234 = .ok (.aload_n 0, 1) := by decide +kernel
theorem D_M_choices2_235 : decode cX12_choices_ 235 = .ok (.getfield 99, 3) := by decide +kernel
theorem D_M_choices2_238 : decode cX12_choices_ 238 = .ok (.iload 10, 2) := by decide +kernel
theorem D_M_choices2_240 : decode cX12_choices_ 240 = .ok (.bipush (8), 2) := by decide +kernel
theorem D_M_choices2_242 : decode cX12_choices_ 242 = .ok (.iadd, 1) := by decide +kernel
theorem D_M_choices2_243 : decode cX12_choices_ 243 = .ok (.iload 5, 2) := by decide +kernel
theorem D_M_choices2_245 : decode cX12_choices_ 245 = .ok (.iastore, 1) := by decide +kernel
theorem D_M_choices2_246 : decode cX12_choices_ 246 = .ok (.aload_n 0, 1) := by decide +kernel
theorem D_M_choices2_247 : decode cX12_choices_ 247 = .ok (.getfield 99, 3) := by decide +kernel
theorem D_M_choices2_250 : decode cX12_choices_ 250 = .ok (.iload 10, 2) := by decide +kernel
theorem D_M_choices2_252 : decode cX12_choices_ 252 = .ok (.bipush (8), 2) := by decide +kernel
theorem D_M_choices2_254 : decode cX12_choices_ 254 = .ok (.iadd, 1) := by decide +kernel
theorem D_M_choices2_255 : decode cX12_choices_ 255 = .ok (.iconst (1), 1) := by decide +kernel
theorem D_M_choices2_256 : decode cX12_choices_ 256 = .ok (.iadd, 1) := by decide +kernel
theorem D_M_choices2_257 : decode cX12_choices_ 257 = .ok (.iload 9, 2) := by decide +kernel
theorem D_M_choices2_259 : decode cX12_choices_ 259 = .ok (.iload 8, 2) := by decide +kernel
theorem D_M_choices2_261 : decode cX12_choices_ 261 = .ok (.idiv, 1) := by decide +kernel
theorem D_M_choices2_262 : decode cX12_choices_ 262 = .ok (.iastore, 1) := by decide +kernel
theorem D_M_choices2_263 : decode cX12_choices_ 263 = .ok (.aload_n 0, 1) := by decide +kernel
theorem D_M_choices2_264 : decode cX12_choices_ 264 = .ok (.getfield 99, 3) := by decide +kernel
theorem D_M_choices2_267 : decode cX12_choices_ 267 = .ok (.iload 10, 2) := by decide +kernel
theorem D_M_choices2_269 : decode cX12_choices_ 269 = .ok (.bipush (8), 2) := by decide +kernel
theorem D_M_choices2_271 : decode cX12_choices_ 271 = .ok (.iadd, 1) := by decide +kernel
theorem D_M_choices2_272 : decode cX12_choices_ 272 = .ok (.iconst (2), 1) := by decide +kernel
theorem D_M_choices2_273 : decode cX12_choices_ 273 = .ok (.iadd, 1) := by decide +kernel
theorem D_M_choices2_274 : decode cX12_choices_ 274 = .ok (.iload 6, 2) := by decide +kernel
theorem D_M_choices2_276 : decode cX12_choices_ 276 = .ok (.iastore, 1) := by decide +kernel
theorem D_M_choices2_277 : decode cX12_choices_ 277 = .ok (.aload_n 0, 1) := by decide +kernel
theorem D_M_choices2_278 : decode cX12_choices_ 278 = .ok (.getfield 99, 3) := by decide +kernel
theorem D_M_choices2_281 : decode cX12_choices_ 281 = .ok (.iload 10, 2) := by decide +kernel
theorem D_M_choices2_283 : decode cX12_choices_ 283 = .ok (.bipush (8), 2) := by decide +kernel
theorem D_M_choices2_285 : decode cX12_choices_ 285 = .ok (.iadd, 1) := by decide +kernel
theorem D_M_choices2_286 : decode cX12_choices_ 286 = .ok (.iconst (3), 1) := by decide +kernel
theorem D_M_choices2_287 : decode cX12_choices_ 287 = .ok (.iadd, 1) := by decide +kernel
theorem D_M_choices2_288 : decode cX12_choices_ 288 = .ok (.iload 9, 2) := by decide +kernel
theorem D_M_choices2_290 : decode cX12_choices_ 290 = .ok (.iload 8, 2) := by decide +kernel
theorem D_M_choices2_292 : decode cX12_choices_ 292 = .ok (.irem, 1) := by decide +kernel
theorem D_M_choices2_293 : decode cX12_choices_ 293 = .ok (.iastore, 1) := by decide +kernel
theorem D_M_choices2_294 : decode cX12_choices_ 294 = .ok (.iconst (1), 1) := by decide +kernel
theorem D_M_choices2_295 : decode cX12_choices_ 295 = .ok (.ireturn, 1) := by decide +kernel
theorem D_M_choices2_296 : decode cX12_choices_ 296 = .ok (.aload_n 0, 1) := by decide +kernel
theorem D_M_choices2_297 : decode cX12_choices_ 297 = .ok (.aload_n 0, 1) := by decide +kernel
theorem D_M_choices2_298 : decode cX12_choices_ 298 = .ok (.getfield 90, 3) := by decide +kernel
theorem D_M_choices2_301 : decode cX12_choices_ 301 = .ok (.iload_n 1, 1) := by decide +kernel
theorem D_M_choices2_302 : decode cX12_choices_ 302 = .ok (.iaload, 1) := by decide +kernel
theorem D_M_choices2_303 : decode cX12_choices_ 303 = .ok (.iconst (1), 1) := by decide +kernel
theorem D_M_choices2_304 : decode cX12_choices_ 304 = .ok (.iadd, 1) := by decide +kernel
theorem D_M_choices2_305 : decode cX12_choices_ 305 = .ok (.putfield 320, 3) := by decide +kernel
theorem D_M_choices2_308 : decode cX12_choices_ 308 = .ok (.iinc 9 (1), 3) := by decide +kernel
theorem D_M_choices2_311 : decode cX12_choices_ 311 = .ok (.goto (-197), 3) := by decide +kernel
theorem D_M_choices2_314 : decode cX12_choices_ 314 = .ok (.iinc 4 (1), 3) := by decide +kernel
theorem D_M_choices2_317 : decode cX12_choices_ 317 = .ok (.goto (-307), 3) := by decide +kernel
theorem D_M_choices2_320 : decode cX12_choices_ 320 = .ok (.iconst (0), 1) := by decide +kernel
theorem D_M_choices2_321 : decode cX12_choices_ 321 = .ok (.ireturn, 1) := by decide +kernel
def K_M_choices2 (n : Nat) : SC := (cX12_choices_, "TwoLevelsModel", 11, 4 + n + 1, false, [13, 79, 80, 81, 87, 88, 89, 92, 93, 94, 95, 96, 97, 98, 99, 100, 101], NoQ)
def b_M_choices2 (R : Nat → MD Int32) : MD Int32 := mth zz 11 (sq (sI1 3 (eh2 (aI .int) (eh1 (gR 13 40) (lR 0)) (lI 1)))
 (sq (sq (sI1 4 (eC (nI 0)))
 (loop (cAnd (eh2 c_lt (lI 4) (kV 13 d_M_choices (lR 0) [vI (lI 3)])) (cNot (eh1 z_ne (eh1 (gI 13 37) (lR 0)))))
 (sq (sE (kV 13 d_M_laysFree (lR 0) [vI (lI 3), vI (lI 4)]))
 (sq (sI1 5 (eIf (eh1 z_gt (eh1 (gI 13 25) (lR 0))) (eh2 (aI .int) (eh1 (gR 13 24) (lR 0)) (eC (nI 0))) (eC (-1))))
 (sq (sI1 6 (eIf (eh2 c_gt (eh1 (gI 13 25) (lR 0)) (eC (nI 1))) (eh2 (aI .int) (eh1 (gR 13 24) (lR 0)) (eC (nI 1))) (eC (-1))))
 (sq (sI1 7 (eIf (eh2 c_eq (lI 5) (eC (-1))) (eC (nI 1)) (eh2 (aI .int) (eh1 (gR 13 19) (lR 0)) (lI 5))))
 (sq (sI1 8 (eIf (eh2 c_eq (lI 6) (eC (-1))) (eC (nI 1)) (eh2 (aI .int) (eh1 (gR 13 19) (lR 0)) (lI 6))))
 (sq (sI1 9 (eC (nI 0)))
 (loop (cAnd (eh2 c_lt (lI 9) (eh2 imulF (lI 7) (lI 8))) (cNot (eh1 z_ne (eh1 (gI 13 37) (lR 0)))))
 (sq (sIf (eh2 c_ne (lI 5) (eC (-1))) (sh3 (stI [97]) (eh1 (gR 13 43) (lR 0)) (eh2 iaddF (eh2 imulF (eC (nI 6)) (lI 1)) (lI 5)) (eh2 idivF (lI 9) (lI 8))) sk)
 (sq (sIf (eh2 c_ne (lI 6) (eC (-1))) (sh3 (stI [97]) (eh1 (gR 13 43) (lR 0)) (eh2 iaddF (eh2 imulF (eC (nI 6)) (lI 1)) (lI 6)) (eh2 iremF (lI 9) (lI 8))) sk)
 (sq (sIf (eh1 z_ne (kV 13 (R 3) (lR 0) [vI (lI 1), vI (lI 4), vI (eC (nI 0)), vI (eh2 (aI .int) (eh1 (gR 13 38) (lR 0)) (lI 1))])) (sq (sI1 10 (eh2 imulF (eC (nI 12)) (eh2 (aI .int) (eh1 (gR 13 42) (lR 0)) (lI 1))))
 (sq (sh3 (stI [99]) (eh1 (gR 13 45) (lR 0)) (lI 10) (lI 3))
 (sq (sh3 (stI [99]) (eh1 (gR 13 45) (lR 0)) (eh2 iaddF (lI 10) (eC (nI 1))) (lI 4))
 (sq (sh3 (stI [99]) (eh1 (gR 13 45) (lR 0)) (eh2 iaddF (lI 10) (eC (nI 2))) (lI 2))
 (sq (sh3 (stI [99]) (eh1 (gR 13 45) (lR 0)) (eh2 iaddF (lI 10) (eC (nI 8))) (lI 5))
 (sq (sh3 (stI [99]) (eh1 (gR 13 45) (lR 0)) (eh2 iaddF (eh2 iaddF (lI 10) (eC (nI 8))) (eC (nI 1))) (eh2 idivF (lI 9) (lI 8)))
 (sq (sh3 (stI [99]) (eh1 (gR 13 45) (lR 0)) (eh2 iaddF (eh2 iaddF (lI 10) (eC (nI 8))) (eC (nI 2))) (lI 6))
 (sq (sh3 (stI [99]) (eh1 (gR 13 45) (lR 0)) (eh2 iaddF (eh2 iaddF (lI 10) (eC (nI 8))) (eC (nI 3))) (eh2 iremF (lI 9) (lI 8)))
 (rtn (eC (nI 1))))))))))) sk)
 (sh2 (pI false 13 47) (lR 0) (eh2 iaddF (eh2 (aI .int) (eh1 (gR 13 42) (lR 0)) (lI 1)) (eC (nI 1)))))))
 (sInc 9 (nI 1)))))))))
 (sInc 4 (nI 1))))
 (rtn (eC (nI 0)))))
theorem s_M_choices2 (n : Nat) (R : Nat → MD Int32) (h3 : MJ (4 + n) [13, 79, 80, 81, 87, 88, 89, 92, 93, 94, 95, 96, 97, 98, 99, 100, 101] yX12_members (some .boolean) eI (R 3)) : MJ (4 + n + 1) [13, 79, 80, 81, 87, 88, 89, 92, 93, 94, 95, 96, 97, 98, 99, 100, 101] yX12_choices_ (some .boolean) eI (b_M_choices2 R) := MJ_of (K := K_M_choices2 n) (ri := .ireturn) (n1 := 0) (n2 := 0) (n3 := 0)
 (SJ_sq (p0 := 0) (p1 := 7) (nN := 0) (nB := 0) (nC := 0) (SJ_istore_n (i := 3) (j := 3) (p0 := 0) (p1 := 6) (EJ_iald (p0 := 0) (p1 := 4) (p2 := 5) (EJ_getR (t := 13) (c := 12) (kf := 40) (r := (RX12, TX12, 52)) (p0 := 0) (p1 := 1) (EJ_aload_n (j := 0) (i := 0) (pc := 0) D_M_choices2_0 rfl) D_M_choices2_1 ⟨rfl, rfl, by decide, q_972⟩ (fun _ _ => rfl)) (EJ_iload_n (j := 1) (i := 1) (pc := 4) D_M_choices2_4 rfl) D_M_choices2_5) D_M_choices2_6 rfl)
 (SJ_sq (p0 := 7) (p1 := 320) (nN := 0) (nB := 0) (nC := 0) (SJ_sq (p0 := 7) (p1 := 10) (nN := 320) (nB := 0) (nC := 0) (SJ_istore (i := 4) (p0 := 7) (p1 := 8) (EJ_iconst (n := 0) (v := (nI 0)) (pc := 7) D_M_choices2_7 (by decide +kernel)) D_M_choices2_8)
 (SJ_loop (p0 := 10) (pB := 27) (pS := 314) (pE := 320) (CJ_and (p0 := 10) (pM := 20) (pT := 27) (pF := 320) (CJ_lt' (off := 303) (tgt := 320) (p0 := 10) (p1 := 12) (p2 := 17) (EJ_iload (i := 4) (pc := 10) D_M_choices2_10) (EJ_callV (t := 13) (c := 12) (r := (RX12, TX12, 52)) (p0 := 12) (p1 := 13) (p2 := 14) (EJ_aload_n (j := 0) (i := 0) (pc := 12) D_M_choices2_12 rfl) (AJ_I (p0 := 13) (p1 := 14) (p2 := 14) (EJ_iload_n (j := 3) (i := 3) (pc := 13) D_M_choices2_13 rfl) AJ_nil) m_M_choices E1_I D_M_choices2_14 rfl rfl rfl q_1215 q_1216 q_70 q_97 ⟨by decide +kernel, by decide +kernel, by decide +kernel⟩ (by decide) (show 2 + 1 ≤ 4 + n + 1 from by omega) (fun _ h => absurd h List.not_mem_nil)) D_M_choices2_17 rfl) (CJ_not (p0 := 20) (pT := 27) (pF := 320) (CZ_ne (off := 296) (tgt := 320) (p0 := 20) (p1 := 24) (EJ_getI (t := 13) (c := 12) (kf := 37) (r := (RX12, TX12, 52)) (p0 := 20) (p1 := 21) (EJ_aload_n (j := 0) (i := 0) (pc := 20) D_M_choices2_20 rfl) D_M_choices2_21 ⟨rfl, rfl, by decide, q_969⟩ (fun _ _ => rfl)) D_M_choices2_24 rfl)))
 (SJ_sq (p0 := 27) (p1 := 34) (nN := 314) (nB := 320) (nC := 314) (SJ_void (p0 := 27) (p1 := 34) (EJ_callV (t := 13) (c := 12) (r := (RX12, TX12, 52)) (p0 := 27) (p1 := 28) (p2 := 31) (EJ_aload_n (j := 0) (i := 0) (pc := 27) D_M_choices2_27 rfl) (AJ_I (p0 := 28) (p1 := 29) (p2 := 31) (EJ_iload_n (j := 3) (i := 3) (pc := 28) D_M_choices2_28 rfl) (AJ_I (p0 := 29) (p1 := 31) (p2 := 31) (EJ_iload (i := 4) (pc := 29) D_M_choices2_29) AJ_nil)) m_M_laysFree E1_U D_M_choices2_31 rfl rfl rfl q_1259 q_1260 q_73 q_97 ⟨by decide +kernel, by decide +kernel, by decide +kernel⟩ (by decide) (show 4 + 1 ≤ 4 + n + 1 from by omega) (show ∀ x_ ∈ ([13, 87] : List Nat), x_ ∈ ([13, 79, 80, 81, 87, 88, 89, 92, 93, 94, 95, 96, 97, 98, 99, 100, 101] : List Nat) from by decide)))
 (SJ_sq (p0 := 34) (p1 := 53) (nN := 314) (nB := 320) (nC := 314) (SJ_istore (i := 5) (p0 := 34) (p1 := 51) (EJ_if (p0 := 34) (pT := 41) (pF := 50) (pE := 47) (p1 := 51) (CZ_gt' (off := 12) (tgt := 50) (p0 := 34) (p1 := 38) (EJ_getI (t := 13) (c := 12) (kf := 25) (r := (RX12, TX12, 52)) (p0 := 34) (p1 := 35) (EJ_aload_n (j := 0) (i := 0) (pc := 34) D_M_choices2_34 rfl) D_M_choices2_35 ⟨rfl, rfl, by decide, q_957⟩ (fun _ _ => rfl)) D_M_choices2_38 rfl) (EJ_iald (p0 := 41) (p1 := 45) (p2 := 46) (EJ_getR (t := 13) (c := 12) (kf := 24) (r := (RX12, TX12, 52)) (p0 := 41) (p1 := 42) (EJ_aload_n (j := 0) (i := 0) (pc := 41) D_M_choices2_41 rfl) D_M_choices2_42 ⟨rfl, rfl, by decide, q_956⟩ (fun _ _ => rfl)) (EJ_iconst (n := 0) (v := (nI 0)) (pc := 45) D_M_choices2_45 (by decide +kernel)) D_M_choices2_46) (Lead.goto (K := (K_M_choices2 n)) (pc := 47) (tgt := 51) D_M_choices2_47 rfl) (EJ_iconst (n := -1) (v := (-1)) (pc := 50) D_M_choices2_50 (by decide +kernel))) D_M_choices2_51)
 (SJ_sq (p0 := 53) (p1 := 73) (nN := 314) (nB := 320) (nC := 314) (SJ_istore (i := 6) (p0 := 53) (p1 := 71) (EJ_if (p0 := 53) (pT := 61) (pF := 70) (pE := 67) (p1 := 71) (CJ_gt' (off := 12) (tgt := 70) (p0 := 53) (p1 := 57) (p2 := 58) (EJ_getI (t := 13) (c := 12) (kf := 25) (r := (RX12, TX12, 52)) (p0 := 53) (p1 := 54) (EJ_aload_n (j := 0) (i := 0) (pc := 53) D_M_choices2_53 rfl) D_M_choices2_54 ⟨rfl, rfl, by decide, q_957⟩ (fun _ _ => rfl)) (EJ_iconst (n := 1) (v := (nI 1)) (pc := 57) D_M_choices2_57 (by decide +kernel)) D_M_choices2_58 rfl) (EJ_iald (p0 := 61) (p1 := 65) (p2 := 66) (EJ_getR (t := 13) (c := 12) (kf := 24) (r := (RX12, TX12, 52)) (p0 := 61) (p1 := 62) (EJ_aload_n (j := 0) (i := 0) (pc := 61) D_M_choices2_61 rfl) D_M_choices2_62 ⟨rfl, rfl, by decide, q_956⟩ (fun _ _ => rfl)) (EJ_iconst (n := 1) (v := (nI 1)) (pc := 65) D_M_choices2_65 (by decide +kernel)) D_M_choices2_66) (Lead.goto (K := (K_M_choices2 n)) (pc := 67) (tgt := 71) D_M_choices2_67 rfl) (EJ_iconst (n := -1) (v := (-1)) (pc := 70) D_M_choices2_70 (by decide +kernel))) D_M_choices2_71)
 (SJ_sq (p0 := 73) (p1 := 92) (nN := 314) (nB := 320) (nC := 314) (SJ_istore (i := 7) (p0 := 73) (p1 := 90) (EJ_if (p0 := 73) (pT := 79) (pF := 83) (pE := 80) (p1 := 90) (CJ_eq' (off := 7) (tgt := 83) (p0 := 73) (p1 := 75) (p2 := 76) (EJ_iload (i := 5) (pc := 73) D_M_choices2_73) (EJ_iconst (n := -1) (v := (-1)) (pc := 75) D_M_choices2_75 (by decide +kernel)) D_M_choices2_76 rfl) (EJ_iconst (n := 1) (v := (nI 1)) (pc := 79) D_M_choices2_79 (by decide +kernel)) (Lead.goto (K := (K_M_choices2 n)) (pc := 80) (tgt := 90) D_M_choices2_80 rfl) (EJ_iald (p0 := 83) (p1 := 87) (p2 := 89) (EJ_getR (t := 13) (c := 12) (kf := 19) (r := (RX12, TX12, 52)) (p0 := 83) (p1 := 84) (EJ_aload_n (j := 0) (i := 0) (pc := 83) D_M_choices2_83 rfl) D_M_choices2_84 ⟨rfl, rfl, by decide, q_951⟩ (fun _ _ => rfl)) (EJ_iload (i := 5) (pc := 87) D_M_choices2_87) D_M_choices2_89)) D_M_choices2_90)
 (SJ_sq (p0 := 92) (p1 := 111) (nN := 314) (nB := 320) (nC := 314) (SJ_istore (i := 8) (p0 := 92) (p1 := 109) (EJ_if (p0 := 92) (pT := 98) (pF := 102) (pE := 99) (p1 := 109) (CJ_eq' (off := 7) (tgt := 102) (p0 := 92) (p1 := 94) (p2 := 95) (EJ_iload (i := 6) (pc := 92) D_M_choices2_92) (EJ_iconst (n := -1) (v := (-1)) (pc := 94) D_M_choices2_94 (by decide +kernel)) D_M_choices2_95 rfl) (EJ_iconst (n := 1) (v := (nI 1)) (pc := 98) D_M_choices2_98 (by decide +kernel)) (Lead.goto (K := (K_M_choices2 n)) (pc := 99) (tgt := 109) D_M_choices2_99 rfl) (EJ_iald (p0 := 102) (p1 := 106) (p2 := 108) (EJ_getR (t := 13) (c := 12) (kf := 19) (r := (RX12, TX12, 52)) (p0 := 102) (p1 := 103) (EJ_aload_n (j := 0) (i := 0) (pc := 102) D_M_choices2_102 rfl) D_M_choices2_103 ⟨rfl, rfl, by decide, q_951⟩ (fun _ _ => rfl)) (EJ_iload (i := 6) (pc := 106) D_M_choices2_106) D_M_choices2_108)) D_M_choices2_109)
 (SJ_sq (p0 := 111) (p1 := 114) (nN := 314) (nB := 320) (nC := 314) (SJ_istore (i := 9) (p0 := 111) (p1 := 112) (EJ_iconst (n := 0) (v := (nI 0)) (pc := 111) D_M_choices2_111 (by decide +kernel)) D_M_choices2_112)
 (SJ_loop (p0 := 114) (pB := 131) (pS := 308) (pE := 314) (CJ_and (p0 := 114) (pM := 124) (pT := 131) (pF := 314) (CJ_lt' (off := 193) (tgt := 314) (p0 := 114) (p1 := 116) (p2 := 121) (EJ_iload (i := 9) (pc := 114) D_M_choices2_114) (EJ_imul (p0 := 116) (p1 := 118) (p2 := 120) (EJ_iload (i := 7) (pc := 116) D_M_choices2_116) (EJ_iload (i := 8) (pc := 118) D_M_choices2_118) D_M_choices2_120) D_M_choices2_121 rfl) (CJ_not (p0 := 124) (pT := 131) (pF := 314) (CZ_ne (off := 186) (tgt := 314) (p0 := 124) (p1 := 128) (EJ_getI (t := 13) (c := 12) (kf := 37) (r := (RX12, TX12, 52)) (p0 := 124) (p1 := 125) (EJ_aload_n (j := 0) (i := 0) (pc := 124) D_M_choices2_124 rfl) D_M_choices2_125 ⟨rfl, rfl, by decide, q_969⟩ (fun _ _ => rfl)) D_M_choices2_128 rfl)))
 (SJ_sq (p0 := 131) (p1 := 154) (nN := 308) (nB := 314) (nC := 308) (SJ_if (p0 := 131) (pT := 137) (pF := 154) (nN := 154) (nB := 314) (nC := 308) (CJ_ne' (off := 20) (tgt := 154) (p0 := 131) (p1 := 133) (p2 := 134) (EJ_iload (i := 5) (pc := 131) D_M_choices2_131) (EJ_iconst (n := -1) (v := (-1)) (pc := 133) D_M_choices2_133 (by decide +kernel)) D_M_choices2_134 rfl) (SJ_iast (ws := [97]) (p0 := 137) (p1 := 141) (p2 := 148) (p3 := 153) (EJ_getR (t := 13) (c := 12) (kf := 43) (r := (RX12, TX12, 52)) (p0 := 137) (p1 := 138) (EJ_aload_n (j := 0) (i := 0) (pc := 137) D_M_choices2_137 rfl) D_M_choices2_138 ⟨rfl, rfl, by decide, q_975⟩ (fun _ _ => rfl)) (EJ_iadd (p0 := 141) (p1 := 145) (p2 := 147) (EJ_imul (p0 := 141) (p1 := 143) (p2 := 144) (EJ_bipush (n := 6) (v := (nI 6)) (pc := 141) D_M_choices2_141 (by decide +kernel)) (EJ_iload_n (j := 1) (i := 1) (pc := 143) D_M_choices2_143 rfl) D_M_choices2_144) (EJ_iload (i := 5) (pc := 145) D_M_choices2_145) D_M_choices2_147) (EJ_idiv (p0 := 148) (p1 := 150) (p2 := 152) (EJ_iload (i := 9) (pc := 148) D_M_choices2_148) (EJ_iload (i := 8) (pc := 150) D_M_choices2_150) D_M_choices2_152) D_M_choices2_153 (show ∀ x_ ∈ ([97] : List Nat), x_ ∈ ([13, 79, 80, 81, 87, 88, 89, 92, 93, 94, 95, 96, 97, 98, 99, 100, 101] : List Nat) from by decide)) SJ_sk)
 (SJ_sq (p0 := 154) (p1 := 177) (nN := 308) (nB := 314) (nC := 308) (SJ_if (p0 := 154) (pT := 160) (pF := 177) (nN := 177) (nB := 314) (nC := 308) (CJ_ne' (off := 20) (tgt := 177) (p0 := 154) (p1 := 156) (p2 := 157) (EJ_iload (i := 6) (pc := 154) D_M_choices2_154) (EJ_iconst (n := -1) (v := (-1)) (pc := 156) D_M_choices2_156 (by decide +kernel)) D_M_choices2_157 rfl) (SJ_iast (ws := [97]) (p0 := 160) (p1 := 164) (p2 := 171) (p3 := 176) (EJ_getR (t := 13) (c := 12) (kf := 43) (r := (RX12, TX12, 52)) (p0 := 160) (p1 := 161) (EJ_aload_n (j := 0) (i := 0) (pc := 160) D_M_choices2_160 rfl) D_M_choices2_161 ⟨rfl, rfl, by decide, q_975⟩ (fun _ _ => rfl)) (EJ_iadd (p0 := 164) (p1 := 168) (p2 := 170) (EJ_imul (p0 := 164) (p1 := 166) (p2 := 167) (EJ_bipush (n := 6) (v := (nI 6)) (pc := 164) D_M_choices2_164 (by decide +kernel)) (EJ_iload_n (j := 1) (i := 1) (pc := 166) D_M_choices2_166 rfl) D_M_choices2_167) (EJ_iload (i := 6) (pc := 168) D_M_choices2_168) D_M_choices2_170) (EJ_irem (p0 := 171) (p1 := 173) (p2 := 175) (EJ_iload (i := 9) (pc := 171) D_M_choices2_171) (EJ_iload (i := 8) (pc := 173) D_M_choices2_173) D_M_choices2_175) D_M_choices2_176 (show ∀ x_ ∈ ([97] : List Nat), x_ ∈ ([13, 79, 80, 81, 87, 88, 89, 92, 93, 94, 95, 96, 97, 98, 99, 100, 101] : List Nat) from by decide)) SJ_sk)
 (SJ_sq (p0 := 177) (p1 := 296) (nN := 308) (nB := 314) (nC := 308) (SJ_if (p0 := 177) (pT := 194) (pF := 296) (nN := 296) (nB := 314) (nC := 308) (CZ_ne' (off := 105) (tgt := 296) (p0 := 177) (p1 := 191) (EJ_callV (t := 13) (c := 12) (r := (RX12, TX12, 52)) (p0 := 177) (p1 := 178) (p2 := 188) (EJ_aload_n (j := 0) (i := 0) (pc := 177) D_M_choices2_177 rfl) (AJ_I (p0 := 178) (p1 := 179) (p2 := 188) (EJ_iload_n (j := 1) (i := 1) (pc := 178) D_M_choices2_178 rfl) (AJ_I (p0 := 179) (p1 := 181) (p2 := 188) (EJ_iload (i := 4) (pc := 179) D_M_choices2_179) (AJ_I (p0 := 181) (p1 := 182) (p2 := 188) (EJ_iconst (n := 0) (v := (nI 0)) (pc := 181) D_M_choices2_181 (by decide +kernel)) (AJ_I (p0 := 182) (p1 := 188) (p2 := 188) (EJ_iald (p0 := 182) (p1 := 186) (p2 := 187) (EJ_getR (t := 13) (c := 12) (kf := 38) (r := (RX12, TX12, 52)) (p0 := 182) (p1 := 183) (EJ_aload_n (j := 0) (i := 0) (pc := 182) D_M_choices2_182 rfl) D_M_choices2_183 ⟨rfl, rfl, by decide, q_970⟩ (fun _ _ => rfl)) (EJ_iload_n (j := 1) (i := 1) (pc := 186) D_M_choices2_186 rfl) D_M_choices2_187) AJ_nil)))) h3 E1_I D_M_choices2_188 rfl rfl rfl q_1306 q_1307 q_83 q_97 ⟨by decide +kernel, by decide +kernel, by decide +kernel⟩ (by decide) (Nat.le_refl _) (show ∀ x_ ∈ ([13, 79, 80, 81, 87, 88, 89, 92, 93, 94, 95, 96, 97, 98, 99, 100, 101] : List Nat), x_ ∈ ([13, 79, 80, 81, 87, 88, 89, 92, 93, 94, 95, 96, 97, 98, 99, 100, 101] : List Nat) from by decide)) D_M_choices2_191 rfl) (SJ_sq (p0 := 194) (p1 := 205) (nN := 296) (nB := 314) (nC := 308) (SJ_istore (i := 10) (p0 := 194) (p1 := 203) (EJ_imul (p0 := 194) (p1 := 196) (p2 := 202) (EJ_bipush (n := 12) (v := (nI 12)) (pc := 194) D_M_choices2_194 (by decide +kernel)) (EJ_iald (p0 := 196) (p1 := 200) (p2 := 201) (EJ_getR (t := 13) (c := 12) (kf := 42) (r := (RX12, TX12, 52)) (p0 := 196) (p1 := 197) (EJ_aload_n (j := 0) (i := 0) (pc := 196) D_M_choices2_196 rfl) D_M_choices2_197 ⟨rfl, rfl, by decide, q_974⟩ (fun _ _ => rfl)) (EJ_iload_n (j := 1) (i := 1) (pc := 200) D_M_choices2_200 rfl) D_M_choices2_201) D_M_choices2_202) D_M_choices2_203)
 (SJ_sq (p0 := 205) (p1 := 213) (nN := 296) (nB := 314) (nC := 308) (SJ_iast (ws := [99]) (p0 := 205) (p1 := 209) (p2 := 211) (p3 := 212) (EJ_getR (t := 13) (c := 12) (kf := 45) (r := (RX12, TX12, 52)) (p0 := 205) (p1 := 206) (EJ_aload_n (j := 0) (i := 0) (pc := 205) D_M_choices2_205 rfl) D_M_choices2_206 ⟨rfl, rfl, by decide, q_977⟩ (fun _ _ => rfl)) (EJ_iload (i := 10) (pc := 209) D_M_choices2_209) (EJ_iload_n (j := 3) (i := 3) (pc := 211) D_M_choices2_211 rfl) D_M_choices2_212 (show ∀ x_ ∈ ([99] : List Nat), x_ ∈ ([13, 79, 80, 81, 87, 88, 89, 92, 93, 94, 95, 96, 97, 98, 99, 100, 101] : List Nat) from by decide))
 (SJ_sq (p0 := 213) (p1 := 224) (nN := 296) (nB := 314) (nC := 308) (SJ_iast (ws := [99]) (p0 := 213) (p1 := 217) (p2 := 221) (p3 := 223) (EJ_getR (t := 13) (c := 12) (kf := 45) (r := (RX12, TX12, 52)) (p0 := 213) (p1 := 214) (EJ_aload_n (j := 0) (i := 0) (pc := 213) D_M_choices2_213 rfl) D_M_choices2_214 ⟨rfl, rfl, by decide, q_977⟩ (fun _ _ => rfl)) (EJ_iadd (p0 := 217) (p1 := 219) (p2 := 220) (EJ_iload (i := 10) (pc := 217) D_M_choices2_217) (EJ_iconst (n := 1) (v := (nI 1)) (pc := 219) D_M_choices2_219 (by decide +kernel)) D_M_choices2_220) (EJ_iload (i := 4) (pc := 221) D_M_choices2_221) D_M_choices2_223 (show ∀ x_ ∈ ([99] : List Nat), x_ ∈ ([13, 79, 80, 81, 87, 88, 89, 92, 93, 94, 95, 96, 97, 98, 99, 100, 101] : List Nat) from by decide))
 (SJ_sq (p0 := 224) (p1 := 234) (nN := 296) (nB := 314) (nC := 308) (SJ_iast (ws := [99]) (p0 := 224) (p1 := 228) (p2 := 232) (p3 := 233) (EJ_getR (t := 13) (c := 12) (kf := 45) (r := (RX12, TX12, 52)) (p0 := 224) (p1 := 225) (EJ_aload_n (j := 0) (i := 0) (pc := 224) D_M_choices2_224 rfl) D_M_choices2_225 ⟨rfl, rfl, by decide, q_977⟩ (fun _ _ => rfl)) (EJ_iadd (p0 := 228) (p1 := 230) (p2 := 231) (EJ_iload (i := 10) (pc := 228) D_M_choices2_228) (EJ_iconst (n := 2) (v := (nI 2)) (pc := 230) D_M_choices2_230 (by decide +kernel)) D_M_choices2_231) (EJ_iload_n (j := 2) (i := 2) (pc := 232) D_M_choices2_232 rfl) D_M_choices2_233 (show ∀ x_ ∈ ([99] : List Nat), x_ ∈ ([13, 79, 80, 81, 87, 88, 89, 92, 93, 94, 95, 96, 97, 98, 99, 100, 101] : List Nat) from by decide))
 (SJ_sq (p0 := 234) (p1 := 246) (nN := 296) (nB := 314) (nC := 308) (SJ_iast (ws := [99]) (p0 := 234) (p1 := 238) (p2 := 243) (p3 := 245) (EJ_getR (t := 13) (c := 12) (kf := 45) (r := (RX12, TX12, 52)) (p0 := 234) (p1 := 235) (EJ_aload_n (j := 0) (i := 0) (pc := 234) D_M_choices2_234 rfl) D_M_choices2_235 ⟨rfl, rfl, by decide, q_977⟩ (fun _ _ => rfl)) (EJ_iadd (p0 := 238) (p1 := 240) (p2 := 242) (EJ_iload (i := 10) (pc := 238) D_M_choices2_238) (EJ_bipush (n := 8) (v := (nI 8)) (pc := 240) D_M_choices2_240 (by decide +kernel)) D_M_choices2_242) (EJ_iload (i := 5) (pc := 243) D_M_choices2_243) D_M_choices2_245 (show ∀ x_ ∈ ([99] : List Nat), x_ ∈ ([13, 79, 80, 81, 87, 88, 89, 92, 93, 94, 95, 96, 97, 98, 99, 100, 101] : List Nat) from by decide))
 (SJ_sq (p0 := 246) (p1 := 263) (nN := 296) (nB := 314) (nC := 308) (SJ_iast (ws := [99]) (p0 := 246) (p1 := 250) (p2 := 257) (p3 := 262) (EJ_getR (t := 13) (c := 12) (kf := 45) (r := (RX12, TX12, 52)) (p0 := 246) (p1 := 247) (EJ_aload_n (j := 0) (i := 0) (pc := 246) D_M_choices2_246 rfl) D_M_choices2_247 ⟨rfl, rfl, by decide, q_977⟩ (fun _ _ => rfl)) (EJ_iadd (p0 := 250) (p1 := 255) (p2 := 256) (EJ_iadd (p0 := 250) (p1 := 252) (p2 := 254) (EJ_iload (i := 10) (pc := 250) D_M_choices2_250) (EJ_bipush (n := 8) (v := (nI 8)) (pc := 252) D_M_choices2_252 (by decide +kernel)) D_M_choices2_254) (EJ_iconst (n := 1) (v := (nI 1)) (pc := 255) D_M_choices2_255 (by decide +kernel)) D_M_choices2_256) (EJ_idiv (p0 := 257) (p1 := 259) (p2 := 261) (EJ_iload (i := 9) (pc := 257) D_M_choices2_257) (EJ_iload (i := 8) (pc := 259) D_M_choices2_259) D_M_choices2_261) D_M_choices2_262 (show ∀ x_ ∈ ([99] : List Nat), x_ ∈ ([13, 79, 80, 81, 87, 88, 89, 92, 93, 94, 95, 96, 97, 98, 99, 100, 101] : List Nat) from by decide))
 (SJ_sq (p0 := 263) (p1 := 277) (nN := 296) (nB := 314) (nC := 308) (SJ_iast (ws := [99]) (p0 := 263) (p1 := 267) (p2 := 274) (p3 := 276) (EJ_getR (t := 13) (c := 12) (kf := 45) (r := (RX12, TX12, 52)) (p0 := 263) (p1 := 264) (EJ_aload_n (j := 0) (i := 0) (pc := 263) D_M_choices2_263 rfl) D_M_choices2_264 ⟨rfl, rfl, by decide, q_977⟩ (fun _ _ => rfl)) (EJ_iadd (p0 := 267) (p1 := 272) (p2 := 273) (EJ_iadd (p0 := 267) (p1 := 269) (p2 := 271) (EJ_iload (i := 10) (pc := 267) D_M_choices2_267) (EJ_bipush (n := 8) (v := (nI 8)) (pc := 269) D_M_choices2_269 (by decide +kernel)) D_M_choices2_271) (EJ_iconst (n := 2) (v := (nI 2)) (pc := 272) D_M_choices2_272 (by decide +kernel)) D_M_choices2_273) (EJ_iload (i := 6) (pc := 274) D_M_choices2_274) D_M_choices2_276 (show ∀ x_ ∈ ([99] : List Nat), x_ ∈ ([13, 79, 80, 81, 87, 88, 89, 92, 93, 94, 95, 96, 97, 98, 99, 100, 101] : List Nat) from by decide))
 (SJ_sq (p0 := 277) (p1 := 294) (nN := 296) (nB := 314) (nC := 308) (SJ_iast (ws := [99]) (p0 := 277) (p1 := 281) (p2 := 288) (p3 := 293) (EJ_getR (t := 13) (c := 12) (kf := 45) (r := (RX12, TX12, 52)) (p0 := 277) (p1 := 278) (EJ_aload_n (j := 0) (i := 0) (pc := 277) D_M_choices2_277 rfl) D_M_choices2_278 ⟨rfl, rfl, by decide, q_977⟩ (fun _ _ => rfl)) (EJ_iadd (p0 := 281) (p1 := 286) (p2 := 287) (EJ_iadd (p0 := 281) (p1 := 283) (p2 := 285) (EJ_iload (i := 10) (pc := 281) D_M_choices2_281) (EJ_bipush (n := 8) (v := (nI 8)) (pc := 283) D_M_choices2_283 (by decide +kernel)) D_M_choices2_285) (EJ_iconst (n := 3) (v := (nI 3)) (pc := 286) D_M_choices2_286 (by decide +kernel)) D_M_choices2_287) (EJ_irem (p0 := 288) (p1 := 290) (p2 := 292) (EJ_iload (i := 9) (pc := 288) D_M_choices2_288) (EJ_iload (i := 8) (pc := 290) D_M_choices2_290) D_M_choices2_292) D_M_choices2_293 (show ∀ x_ ∈ ([99] : List Nat), x_ ∈ ([13, 79, 80, 81, 87, 88, 89, 92, 93, 94, 95, 96, 97, 98, 99, 100, 101] : List Nat) from by decide))
 (SJ_ret (p0 := 294) (p1 := 295) (EJ_iconst (n := 1) (v := (nI 1)) (pc := 294) D_M_choices2_294 (by decide +kernel)) D_M_choices2_295))))))))) SJ_sk)
 (SJ_putI (z := false) (t := 13) (c := 12) (kf := 47) (r := (RX12, TX12, 52)) (p0 := 296) (p1 := 297) (p2 := 305) (EJ_aload_n (j := 0) (i := 0) (pc := 296) D_M_choices2_296 rfl) (EJ_iadd (p0 := 297) (p1 := 303) (p2 := 304) (EJ_iald (p0 := 297) (p1 := 301) (p2 := 302) (EJ_getR (t := 13) (c := 12) (kf := 42) (r := (RX12, TX12, 52)) (p0 := 297) (p1 := 298) (EJ_aload_n (j := 0) (i := 0) (pc := 297) D_M_choices2_297 rfl) D_M_choices2_298 ⟨rfl, rfl, by decide, q_974⟩ (fun _ _ => rfl)) (EJ_iload_n (j := 1) (i := 1) (pc := 301) D_M_choices2_301 rfl) D_M_choices2_302) (EJ_iconst (n := 1) (v := (nI 1)) (pc := 303) D_M_choices2_303 (by decide +kernel)) D_M_choices2_304) D_M_choices2_305 ⟨rfl, rfl, by decide, q_979⟩ (Or.inl rfl) (fun _ _ => ⟨rfl, rfl⟩) (fun _ _ => rfl) (show (13 : Nat) ∈ ([13, 79, 80, 81, 87, 88, 89, 92, 93, 94, 95, 96, 97, 98, 99, 100, 101] : List Nat) from by decide)))))
 (SJ_post (SJ_iinc (i := 9) (n := 1) (v := (nI 1)) (pc := 308) D_M_choices2_308 (by decide +kernel)) (Lead.goto (K := (K_M_choices2 n)) (pc := 311) (tgt := 114) D_M_choices2_311 rfl)))))))))
 (SJ_post (SJ_iinc (i := 4) (n := 1) (v := (nI 1)) (pc := 314) D_M_choices2_314 (by decide +kernel)) (Lead.goto (K := (K_M_choices2 n)) (pc := 317) (tgt := 10) D_M_choices2_317 rfl))))
 (SJ_ret (p0 := 320) (p1 := 321) (EJ_iconst (n := 0) (v := (nI 0)) (pc := 320) D_M_choices2_320 (by decide +kernel)) D_M_choices2_321)))
 RTm_bool q_1305 (by decide +kernel) rfl (fun h => by cases h) (show 11 ≤ 40 from by decide) (fun _ => trivial)
theorem D_M_members_0 : decode cX12_members 0 = .ok (.aload_n 0, 1) := by decide +kernel
theorem D_M_members_1 : decode cX12_members 1 = .ok (.getfield 84, 3) := by decide +kernel
theorem D_M_members_4 : decode cX12_members 4 = .ok (.iload_n 1, 1) := by decide +kernel
theorem D_M_members_5 : decode cX12_members 5 = .ok (.iaload, 1) := by decide +kernel
theorem D_M_members_6 : decode cX12_members 6 = .ok (.istore 5, 2) := by decide +kernel
theorem D_M_members_8 : decode cX12_members 8 = .ok (.aload_n 0, 1) := by decide +kernel
theorem D_M_members_9 : decode cX12_members 9 = .ok (.getfield 9, 3) := by decide +kernel
theorem D_M_members_12 : decode cX12_members 12 = .ok (.iload 5, 2) := by decide +kernel
theorem D_M_members_14 : decode cX12_members 14 = .ok (.iload_n 2, 1) := by decide +kernel
theorem D_M_members_15 : decode cX12_members 15 = .ok (.invokestatic 258, 3) := by decide +kernel
theorem D_M_members_18 : decode cX12_members 18 = .ok (.iaload, 1) := by decide +kernel
theorem D_M_members_19 : decode cX12_members 19 = .ok (.istore 6, 2) := by decide +kernel
theorem D_M_members_21 : decode cX12_members 21 = .ok (.iload_n 3, 1) := by decide +kernel
theorem D_M_members_22 : decode cX12_members 22 = .ok (.iload 6, 2) := by decide +kernel
theorem D_M_members_24 : decode cX12_members 24 = .ok (.if_icmp .ne (20), 3) := by decide +kernel
theorem D_M_members_27 : decode cX12_members 27 = .ok (.iload 4, 2) := by decide +kernel
theorem D_M_members_29 : decode cX12_members 29 = .ok (.aload_n 0, 1) := by decide +kernel
theorem D_M_members_30 : decode cX12_members 30 = .ok (.getfield 81, 3) := by decide +kernel
theorem D_M_members_33 : decode cX12_members 33 = .ok (.iload_n 1, 1) := by decide +kernel
theorem D_M_members_34 : decode cX12_members 34 = .ok (.iaload, 1) := by decide +kernel
theorem D_M_members_35 : decode cX12_members 35 = .ok (.if_icmp .ne (7), 3) := by decide +kernel
theorem D_M_members_38 : decode cX12_members 38 = .ok (.iconst (1), 1) := by decide +kernel
theorem D_M_members_39 : decode cX12_members 39 = .ok (.goto (4), 3) := by decide +kernel
theorem D_M_members_42 : decode cX12_members 42 = .ok (.iconst (0), 1) := by decide +kernel
theorem D_M_members_43 : decode cX12_members 43 = .ok (.ireturn, 1) := by decide +kernel
theorem D_M_members_44 : decode cX12_members 44 = .ok (.iload 5, 2) := by decide +kernel
theorem D_M_members_46 : decode cX12_members 46 = .ok (.iload_n 2, 1) := by decide +kernel
theorem D_M_members_47 : decode cX12_members 47 = .ok (.iload_n 3, 1) := by decide +kernel
theorem D_M_members_48 : decode cX12_members 48 = .ok (.invokestatic 267, 3) := by decide +kernel
theorem D_M_members_51 : decode cX12_members 51 = .ok (.istore 7, 2) := by decide +kernel
theorem D_M_members_53 : decode cX12_members 53 = .ok (.aload_n 0, 1) := by decide +kernel
theorem D_M_members_54 : decode cX12_members 54 = .ok (.iload_n 1, 1) := by decide +kernel
theorem D_M_members_55 : decode cX12_members 55 = .ok (.iload 7, 2) := by decide +kernel
theorem D_M_members_57 : decode cX12_members 57 = .ok (.iconst (1), 1) := by decide +kernel
theorem D_M_members_58 : decode cX12_members 58 = .ok (.iadd, 1) := by decide +kernel
theorem D_M_members_59 : decode cX12_members 59 = .ok (.invokevirtual 360, 3) := by decide +kernel
theorem D_M_members_62 : decode cX12_members 62 = .ok (.aload_n 0, 1) := by decide +kernel
theorem D_M_members_63 : decode cX12_members 63 = .ok (.getfield 9, 3) := by decide +kernel
theorem D_M_members_66 : decode cX12_members 66 = .ok (.iload 7, 2) := by decide +kernel
theorem D_M_members_68 : decode cX12_members 68 = .ok (.iaload, 1) := by decide +kernel
theorem D_M_members_69 : decode cX12_members 69 = .ok (.iconst (1), 1) := by decide +kernel
theorem D_M_members_70 : decode cX12_members 70 = .ok (.if_icmp .ne (45), 3) := by decide +kernel
theorem D_M_members_73 : decode cX12_members 73 = .ok (.iload 4, 2) := by decide +kernel
theorem D_M_members_75 : decode cX12_members 75 = .ok (.aload_n 0, 1) := by decide +kernel
theorem D_M_members_76 : decode cX12_members 76 = .ok (.getfield 81, 3) := by decide +kernel
theorem D_M_members_79 : decode cX12_members 79 = .ok (.iload_n 1, 1) := by decide +kernel
theorem D_M_members_80 : decode cX12_members 80 = .ok (.iaload, 1) := by decide +kernel
theorem D_M_members_81 : decode cX12_members 81 = .ok (.if_icmp .ge (32), 3) := by decide +kernel
theorem D_M_members_84 : decode cX12_members 84 = .ok (.aload_n 0, 1) := by decide +kernel
theorem D_M_members_85 : decode cX12_members 85 = .ok (.iload 4, 2) := by decide +kernel
theorem D_M_members_87 : decode cX12_members 87 = .ok (.invokevirtual 363, 3) := by decide +kernel
theorem D_M_members_90 : decode cX12_members 90 = .ok (.ifCond .eq (23), 3) := by decide +kernel
theorem D_M_members_93 : decode cX12_members 93 = .ok (.aload_n 0, 1) := by decide +kernel
theorem D_M_members_94 : decode cX12_members 94 = .ok (.iload_n 1, 1) := by decide +kernel
theorem D_M_members_95 : decode cX12_members 95 = .ok (.iload_n 2, 1) := by decide +kernel
theorem D_M_members_96 : decode cX12_members 96 = .ok (.iload_n 3, 1) := by decide +kernel
theorem D_M_members_97 : decode cX12_members 97 = .ok (.iconst (1), 1) := by decide +kernel
theorem D_M_members_98 : decode cX12_members 98 = .ok (.iadd, 1) := by decide +kernel
theorem D_M_members_99 : decode cX12_members 99 = .ok (.iload 4, 2) := by decide +kernel
theorem D_M_members_101 : decode cX12_members 101 = .ok (.iconst (1), 1) := by decide +kernel
theorem D_M_members_102 : decode cX12_members 102 = .ok (.iadd, 1) := by decide +kernel
theorem D_M_members_103 : decode cX12_members 103 = .ok (.invokevirtual 354, 3) := by decide +kernel
theorem D_M_members_106 : decode cX12_members 106 = .ok (.ifCond .eq (7), 3) := by decide +kernel
theorem D_M_members_109 : decode cX12_members 109 = .ok (.iconst (1), 1) := by decide +kernel
theorem D_M_members_110 : decode cX12_members 110 = .ok (.goto (4), 3) := by decide +kernel
theorem D_M_members_113 : decode cX12_members 113 = .ok (.iconst (0), 1) := by decide +kernel
theorem D_M_members_114 : decode cX12_members 114 = .ok (.ireturn, 1) := by decide +kernel
theorem D_M_members_115 : decode cX12_members 115 = .ok (.aload_n 0, 1) := by decide +kernel
theorem D_M_members_116 : decode cX12_members 116 = .ok (.getfield 357, 3) := by decide +kernel
theorem D_M_members_119 : decode cX12_members 119 = .ok (.bipush (10), 2) := by decide +kernel
theorem D_M_members_121 : decode cX12_members 121 = .ok (.if_icmp .le (5), 3) := by decide +kernel
theorem D_M_members_124 : decode cX12_members 124 = .ok (.iconst (0), 1) := by decide +kernel
theorem D_M_members_125 : decode cX12_members 125 = .ok (.ireturn, 1) := by decide +kernel
theorem D_M_members_126 : decode cX12_members 126 = .ok (.aload_n 0, 1) := by decide +kernel
theorem D_M_members_127 : decode cX12_members 127 = .ok (.getfield 81, 3) := by decide +kernel
theorem D_M_members_130 : decode cX12_members 130 = .ok (.iload_n 1, 1) := by decide +kernel
theorem D_M_members_131 : decode cX12_members 131 = .ok (.iaload, 1) := by decide +kernel
theorem D_M_members_132 : decode cX12_members 132 = .ok (.iload 4, 2) := by decide +kernel
theorem D_M_members_134 : decode cX12_members 134 = .ok (.isub, 1) := by decide +kernel
theorem D_M_members_135 : decode cX12_members 135 = .ok (.istore 8, 2) := by decide +kernel
theorem D_M_members_137 : decode cX12_members 137 = .ok (.iload_n 3, 1) := by decide +kernel
theorem D_M_members_138 : decode cX12_members 138 = .ok (.iload 6, 2) := by decide +kernel
theorem D_M_members_140 : decode cX12_members 140 = .ok (.iconst (1), 1) := by decide +kernel
theorem D_M_members_141 : decode cX12_members 141 = .ok (.isub, 1) := by decide +kernel
theorem D_M_members_142 : decode cX12_members 142 = .ok (.if_icmp .ne (8), 3) := by decide +kernel
theorem D_M_members_145 : decode cX12_members 145 = .ok (.iload 8, 2) := by decide +kernel
theorem D_M_members_147 : decode cX12_members 147 = .ok (.goto (4), 3) := by decide +kernel
theorem D_M_members_150 : decode cX12_members 150 = .ok (.iconst (0), 1) := by decide +kernel
theorem D_M_members_151 : decode cX12_members 151 = .ok (.istore 9, 2) := by decide +kernel
theorem D_M_members_153 : decode cX12_members 153 = .ok (.iload 9, 2) := by decide +kernel
theorem D_M_members_155 : decode cX12_members 155 = .ok (.iload 8, 2) := by decide +kernel
theorem D_M_members_157 : decode cX12_members 157 = .ok (.if_icmp .gt (124), 3) := by decide +kernel
theorem D_M_members_160 : decode cX12_members 160 = .ok (.aload_n 0, 1) := by decide +kernel
theorem D_M_members_161 : decode cX12_members 161 = .ok (.getfield 323, 3) := by decide +kernel
theorem D_M_members_164 : decode cX12_members 164 = .ok (.ifCond .ne (117), 3) := by decide +kernel
theorem D_M_members_167 : decode cX12_members 167 = .ok (.aload_n 0, 1) := by decide +kernel
theorem D_M_members_168 : decode cX12_members 168 = .ok (.iload_n 1, 1) := by decide +kernel
theorem D_M_members_169 : decode cX12_members 169 = .ok (.iload 7, 2) := by decide +kernel
theorem D_M_members_171 : decode cX12_members 171 = .ok (.iconst (1), 1) := by decide +kernel
theorem D_M_members_172 : decode cX12_members 172 = .ok (.iadd, 1) := by decide +kernel
theorem D_M_members_173 : decode cX12_members 173 = .ok (.invokevirtual 360, 3) := by decide +kernel
theorem D_M_members_176 : decode cX12_members 176 = .ok (.aload_n 0, 1) := by decide +kernel
theorem D_M_members_177 : decode cX12_members 177 = .ok (.getfield 42, 3) := by decide +kernel
theorem D_M_members_180 : decode cX12_members 180 = .ok (.iload_n 1, 1) := by decide +kernel
theorem D_M_members_181 : decode cX12_members 181 = .ok (.iconst (1), 1) := by decide +kernel
theorem D_M_members_182 : decode cX12_members 182 = .ok (.iadd, 1) := by decide +kernel
theorem D_M_members_183 : decode cX12_members 183 = .ok (.aload_n 0, 1) := by decide +kernel
theorem D_M_members_184 : decode cX12_members 184 = .ok (.getfield 357, 3) := by decide +kernel
theorem D_M_members_187 : decode cX12_members 187 = .ok (.iastore, 1) := by decide +kernel
theorem D_M_members_188 : decode cX12_members 188 = .ok (.iconst (0), 1) := by decide +kernel
theorem D_M_members_189 : decode cX12_members 189 = .ok (.istore 10, 2) := by decide +kernel
theorem D_M_members_191 : decode cX12_members 191 = .ok (.iload 10, 2) := by decide +kernel
theorem D_M_members_193 : decode cX12_members 193 = .ok (.aload_n 0, 1) := by decide +kernel
theorem D_M_members_194 : decode cX12_members 194 = .ok (.getfield 357, 3) := by decide +kernel
theorem D_M_members_197 : decode cX12_members 197 = .ok (.if_icmp .ge (30), 3) := by decide +kernel
theorem D_M_members_200 : decode cX12_members 200 = .ok (.aload_n 0, 1) := by decide +kernel
theorem D_M_members_201 : decode cX12_members 201 = .ok (.getfield 39, 3) := by decide +kernel
theorem D_M_members_204 : decode cX12_members 204 = .ok (.bipush (10), 2) := by decide +kernel
theorem D_M_members_206 : decode cX12_members 206 = .ok (.iload_n 1, 1) := by decide +kernel
theorem D_M_members_207 : decode cX12_members 207 = .ok (.iconst (1), 1) := by decide +kernel
theorem D_M_members_208 : decode cX12_members 208 = .ok (.iadd, 1) := by decide +kernel
theorem D_M_members_209 : decode cX12_members 209 = .ok (.imul, 1) := by decide +kernel
theorem D_M_members_210 : decode cX12_members 210 = .ok (.iload 10, 2) := by decide +kernel
theorem D_M_members_212 : decode cX12_members 212 = .ok (.iadd, 1) := by decide +kernel
theorem D_M_members_213 : decode cX12_members 213 = .ok (.aload_n 0, 1) := by decide +kernel
theorem D_M_members_214 : decode cX12_members 214 = .ok (.getfield 105, 3) := by decide +kernel
theorem D_M_members_217 : decode cX12_members 217 = .ok (.iload 10, 2) := by decide +kernel
theorem D_M_members_219 : decode cX12_members 219 = .ok (.iaload, 1) := by decide +kernel
theorem D_M_members_220 : decode cX12_members 220 = .ok (.iastore, 1) := by decide +kernel
theorem D_M_members_221 : decode cX12_members 221 = .ok (.iinc 10 (1), 3) := by decide +kernel
theorem D_M_members_224 : decode cX12_members 224 = .ok (.goto (-33), 3) := by decide +kernel
theorem D_M_members_227 : decode cX12_members 227 = .ok (.aload_n 0, 1) := by decide +kernel
theorem D_M_members_228 : decode cX12_members 228 = .ok (.getfield 320, 3) := by decide +kernel
theorem D_M_members_231 : decode cX12_members 231 = .ok (.istore 10, 2) := by decide +kernel
theorem D_M_members_233 : decode cX12_members 233 = .ok (.aload_n 0, 1) := by decide +kernel
theorem D_M_members_234 : decode cX12_members 234 = .ok (.iload_n 1, 1) := by decide +kernel
theorem D_M_members_235 : decode cX12_members 235 = .ok (.iconst (1), 1) := by decide +kernel
theorem D_M_members_236 : decode cX12_members 236 = .ok (.iadd, 1) := by decide +kernel
theorem D_M_members_237 : decode cX12_members 237 = .ok (.iload 4, 2) := by decide +kernel
theorem D_M_members_239 : decode cX12_members 239 = .ok (.iload 4, 2) := by decide +kernel
theorem D_M_members_241 : decode cX12_members 241 = .ok (.iload 9, 2) := by decide +kernel
theorem D_M_members_243 : decode cX12_members 243 = .ok (.iadd, 1) := by decide +kernel
theorem D_M_members_244 : decode cX12_members 244 = .ok (.invokevirtual 366, 3) := by decide +kernel
theorem D_M_members_247 : decode cX12_members 247 = .ok (.ifCond .eq (28), 3) := by decide +kernel
theorem D_M_members_250 : decode cX12_members 250 = .ok (.aload_n 0, 1) := by decide +kernel
theorem D_M_members_251 : decode cX12_members 251 = .ok (.iload_n 1, 1) := by decide +kernel
theorem D_M_members_252 : decode cX12_members 252 = .ok (.iload_n 2, 1) := by decide +kernel
theorem D_M_members_253 : decode cX12_members 253 = .ok (.iload_n 3, 1) := by decide +kernel
theorem D_M_members_254 : decode cX12_members 254 = .ok (.iconst (1), 1) := by decide +kernel
theorem D_M_members_255 : decode cX12_members 255 = .ok (.iadd, 1) := by decide +kernel
theorem D_M_members_256 : decode cX12_members 256 = .ok (.iload 4, 2) := by decide +kernel
theorem D_M_members_258 : decode cX12_members 258 = .ok (.iload 9, 2) := by decide +kernel
theorem D_M_members_260 : decode cX12_members 260 = .ok (.iadd, 1) := by decide +kernel
theorem D_M_members_261 : decode cX12_members 261 = .ok (.invokevirtual 354, 3) := by decide +kernel
theorem D_M_members_264 : decode cX12_members 264 = .ok (.ifCond .eq (5), 3) := by decide +kernel
theorem D_M_members_267 : decode cX12_members 267 = .ok (.iconst (1), 1) := by decide +kernel
theorem D_M_members_268 : decode cX12_members 268 = .ok (.ireturn, 1) := by decide +kernel
theorem D_M_members_269 : decode cX12_members 269 = .ok (.aload_n 0, 1) := by decide +kernel
theorem D_M_members_270 : decode cX12_members 270 = .ok (.iload 10, 2) := by decide +kernel
theorem D_M_members_272 : decode cX12_members 272 = .ok (.putfield 320, 3) := by decide +kernel
theorem D_M_members_275 : decode cX12_members 275 = .ok (.iinc 9 (1), 3) := by decide +kernel
theorem D_M_members_278 : decode cX12_members 278 = .ok (.goto (-125), 3) := by decide +kernel
theorem D_M_members_281 : decode cX12_members 281 = .ok (.iconst (0), 1) := by decide +kernel
theorem D_M_members_282 : decode cX12_members 282 = .ok (.ireturn, 1) := by decide +kernel
def K_M_members (n : Nat) : SC := (cX12_members, "TwoLevelsModel", 11, 4 + n + 1, false, [13, 79, 80, 81, 87, 88, 89, 92, 93, 94, 95, 96, 97, 98, 99, 100, 101], NoQ)
def b_M_members (R : Nat → MD Int32) : MD Int32 := mth zz 11 (sq (sI1 5 (eh2 (aI .int) (eh1 (gR 13 40) (lR 0)) (lI 1)))
 (sq (sI1 6 (eh2 (aI .int) (eh1 (gR 13 0) (lR 0)) (kS d_M_choiceAt [vI (lI 5), vI (lI 2)])))
 (sq (sIf (eh2 c_eq (lI 3) (lI 6)) (rtn (eIf (eh2 c_eq (lI 4) (eh2 (aI .int) (eh1 (gR 13 39) (lR 0)) (lI 1))) (eC (nI 1)) (eC (nI 0)))) sk)
 (sq (sI1 7 (kS d_M_memberAt [vI (lI 5), vI (lI 2), vI (lI 3)]))
 (sq (sE (kV 13 d_M_makes (lR 0) [vI (lI 1), vI (eh2 iaddF (lI 7) (eC (nI 1)))]))
 (sq (sIf (eh2 c_eq (eh2 (aI .int) (eh1 (gR 13 0) (lR 0)) (lI 7)) (eC (nI 1))) (rtn (eIf (cAnd (cAnd (eh2 c_lt (lI 4) (eh2 (aI .int) (eh1 (gR 13 39) (lR 0)) (lI 1))) (eh1 z_ne (kV 13 d_M_isWord (lR 0) [vI (lI 4)]))) (eh1 z_ne (kV 13 (R 3) (lR 0) [vI (lI 1), vI (lI 2), vI (eh2 iaddF (lI 3) (eC (nI 1))), vI (eh2 iaddF (lI 4) (eC (nI 1)))]))) (eC (nI 1)) (eC (nI 0)))) sk)
 (sq (sIf (eh2 c_gt (eh1 (gI 13 49) (lR 0)) (eC (nI 10))) (rtn (eC (nI 0))) sk)
 (sq (sI1 8 (eh2 isubF (eh2 (aI .int) (eh1 (gR 13 39) (lR 0)) (lI 1)) (lI 4)))
 (sq (sq (sI1 9 (eIf (eh2 c_eq (lI 3) (eh2 isubF (lI 6) (eC (nI 1)))) (lI 8) (eC (nI 0))))
 (loop (cAnd (eh2 c_le (lI 9) (lI 8)) (cNot (eh1 z_ne (eh1 (gI 13 37) (lR 0)))))
 (sq (sE (kV 13 d_M_makes (lR 0) [vI (lI 1), vI (eh2 iaddF (lI 7) (eC (nI 1)))]))
 (sq (sh3 (stI [80]) (eh1 (gR 13 16) (lR 0)) (eh2 iaddF (lI 1) (eC (nI 1))) (eh1 (gI 13 49) (lR 0)))
 (sq (sq (sI1 10 (eC (nI 0)))
 (loop (eh2 c_lt (lI 10) (eh1 (gI 13 49) (lR 0)))
 (sh3 (stI [79]) (eh1 (gR 13 15) (lR 0)) (eh2 iaddF (eh2 imulF (eC (nI 10)) (eh2 iaddF (lI 1) (eC (nI 1)))) (lI 10)) (eh2 (aI .int) (eh1 (gR 13 48) (lR 0)) (lI 10)))
 (sInc 10 (nI 1))))
 (sq (sI1 10 (eh1 (gI 13 47) (lR 0)))
 (sIf (eh1 z_ne (kV 13 (R 0) (lR 0) [vI (eh2 iaddF (lI 1) (eC (nI 1))), vI (lI 4), vI (eh2 iaddF (lI 4) (lI 9))])) (sq (sIf (eh1 z_ne (kV 13 (R 3) (lR 0) [vI (lI 1), vI (lI 2), vI (eh2 iaddF (lI 3) (eC (nI 1))), vI (eh2 iaddF (lI 4) (lI 9))])) (rtn (eC (nI 1))) sk)
 (sh2 (pI false 13 47) (lR 0) (lI 10))) sk)))))
 (sInc 9 (nI 1))))
 (rtn (eC (nI 0))))))))))))
theorem s_M_members (n : Nat) (R : Nat → MD Int32) (h0 : MJ (4 + n) [13, 79, 80, 81, 87, 88, 89, 92, 93, 94, 95, 96, 97, 98, 99, 100, 101] yX12_asks (some .boolean) eI (R 0)) (h3 : MJ (4 + n) [13, 79, 80, 81, 87, 88, 89, 92, 93, 94, 95, 96, 97, 98, 99, 100, 101] yX12_members (some .boolean) eI (R 3)) : MJ (4 + n + 1) [13, 79, 80, 81, 87, 88, 89, 92, 93, 94, 95, 96, 97, 98, 99, 100, 101] yX12_members (some .boolean) eI (b_M_members R) := MJ_of (K := K_M_members n) (ri := .ireturn) (n1 := 0) (n2 := 0) (n3 := 0)
 (SJ_sq (p0 := 0) (p1 := 8) (nN := 0) (nB := 0) (nC := 0) (SJ_istore (i := 5) (p0 := 0) (p1 := 6) (EJ_iald (p0 := 0) (p1 := 4) (p2 := 5) (EJ_getR (t := 13) (c := 12) (kf := 40) (r := (RX12, TX12, 52)) (p0 := 0) (p1 := 1) (EJ_aload_n (j := 0) (i := 0) (pc := 0) D_M_members_0 rfl) D_M_members_1 ⟨rfl, rfl, by decide, q_972⟩ (fun _ _ => rfl)) (EJ_iload_n (j := 1) (i := 1) (pc := 4) D_M_members_4 rfl) D_M_members_5) D_M_members_6)
 (SJ_sq (p0 := 8) (p1 := 21) (nN := 0) (nB := 0) (nC := 0) (SJ_istore (i := 6) (p0 := 8) (p1 := 19) (EJ_iald (p0 := 8) (p1 := 12) (p2 := 18) (EJ_getR (t := 13) (c := 12) (kf := 0) (r := (RX12, TX12, 52)) (p0 := 8) (p1 := 9) (EJ_aload_n (j := 0) (i := 0) (pc := 8) D_M_members_8 rfl) D_M_members_9 ⟨rfl, rfl, by decide, q_932⟩ (fun _ _ => rfl)) (EJ_callS (p0 := 12) (p1 := 15) (AJ_I (p0 := 12) (p1 := 14) (p2 := 15) (EJ_iload (i := 5) (pc := 12) D_M_members_12) (AJ_I (p0 := 14) (p1 := 15) (p2 := 15) (EJ_iload_n (j := 2) (i := 2) (pc := 14) D_M_members_14 rfl) AJ_nil)) m_M_choiceAt E1_I D_M_members_15 q_1218 q_1219 q_97 ⟨by decide +kernel, by decide +kernel, by decide +kernel⟩ (by decide) (show 2 + 1 ≤ 4 + n + 1 from by omega) (fun _ h => absurd h List.not_mem_nil)) D_M_members_18) D_M_members_19)
 (SJ_sq (p0 := 21) (p1 := 44) (nN := 0) (nB := 0) (nC := 0) (SJ_if (p0 := 21) (pT := 27) (pF := 44) (nN := 44) (nB := 0) (nC := 0) (CJ_eq' (off := 20) (tgt := 44) (p0 := 21) (p1 := 22) (p2 := 24) (EJ_iload_n (j := 3) (i := 3) (pc := 21) D_M_members_21 rfl) (EJ_iload (i := 6) (pc := 22) D_M_members_22) D_M_members_24 rfl) (SJ_ret (p0 := 27) (p1 := 43) (EJ_if (p0 := 27) (pT := 38) (pF := 42) (pE := 39) (p1 := 43) (CJ_eq' (off := 7) (tgt := 42) (p0 := 27) (p1 := 29) (p2 := 35) (EJ_iload (i := 4) (pc := 27) D_M_members_27) (EJ_iald (p0 := 29) (p1 := 33) (p2 := 34) (EJ_getR (t := 13) (c := 12) (kf := 39) (r := (RX12, TX12, 52)) (p0 := 29) (p1 := 30) (EJ_aload_n (j := 0) (i := 0) (pc := 29) D_M_members_29 rfl) D_M_members_30 ⟨rfl, rfl, by decide, q_971⟩ (fun _ _ => rfl)) (EJ_iload_n (j := 1) (i := 1) (pc := 33) D_M_members_33 rfl) D_M_members_34) D_M_members_35 rfl) (EJ_iconst (n := 1) (v := (nI 1)) (pc := 38) D_M_members_38 (by decide +kernel)) (Lead.goto (K := (K_M_members n)) (pc := 39) (tgt := 43) D_M_members_39 rfl) (EJ_iconst (n := 0) (v := (nI 0)) (pc := 42) D_M_members_42 (by decide +kernel))) D_M_members_43) SJ_sk)
 (SJ_sq (p0 := 44) (p1 := 53) (nN := 0) (nB := 0) (nC := 0) (SJ_istore (i := 7) (p0 := 44) (p1 := 51) (EJ_callS (p0 := 44) (p1 := 48) (AJ_I (p0 := 44) (p1 := 46) (p2 := 48) (EJ_iload (i := 5) (pc := 44) D_M_members_44) (AJ_I (p0 := 46) (p1 := 47) (p2 := 48) (EJ_iload_n (j := 2) (i := 2) (pc := 46) D_M_members_46 rfl) (AJ_I (p0 := 47) (p1 := 48) (p2 := 48) (EJ_iload_n (j := 3) (i := 3) (pc := 47) D_M_members_47 rfl) AJ_nil))) m_M_memberAt E1_I D_M_members_48 q_1221 q_1222 q_97 ⟨by decide +kernel, by decide +kernel, by decide +kernel⟩ (by decide) (show 3 + 1 ≤ 4 + n + 1 from by omega) (fun _ h => absurd h List.not_mem_nil)) D_M_members_51)
 (SJ_sq (p0 := 53) (p1 := 62) (nN := 0) (nB := 0) (nC := 0) (SJ_void (p0 := 53) (p1 := 62) (EJ_callV (t := 13) (c := 12) (r := (RX12, TX12, 52)) (p0 := 53) (p1 := 54) (p2 := 59) (EJ_aload_n (j := 0) (i := 0) (pc := 53) D_M_members_53 rfl) (AJ_I (p0 := 54) (p1 := 55) (p2 := 59) (EJ_iload_n (j := 1) (i := 1) (pc := 54) D_M_members_54 rfl) (AJ_I (p0 := 55) (p1 := 59) (p2 := 59) (EJ_iadd (p0 := 55) (p1 := 57) (p2 := 58) (EJ_iload (i := 7) (pc := 55) D_M_members_55) (EJ_iconst (n := 1) (v := (nI 1)) (pc := 57) D_M_members_57 (by decide +kernel)) D_M_members_58) AJ_nil)) m_M_makes E1_U D_M_members_59 rfl rfl rfl q_1309 q_1310 q_84 q_97 ⟨by decide +kernel, by decide +kernel, by decide +kernel⟩ (by decide) (show 3 + 1 ≤ 4 + n + 1 from by omega) (show ∀ x_ ∈ ([13, 101] : List Nat), x_ ∈ ([13, 79, 80, 81, 87, 88, 89, 92, 93, 94, 95, 96, 97, 98, 99, 100, 101] : List Nat) from by decide)))
 (SJ_sq (p0 := 62) (p1 := 115) (nN := 0) (nB := 0) (nC := 0) (SJ_if (p0 := 62) (pT := 73) (pF := 115) (nN := 115) (nB := 0) (nC := 0) (CJ_eq' (off := 45) (tgt := 115) (p0 := 62) (p1 := 69) (p2 := 70) (EJ_iald (p0 := 62) (p1 := 66) (p2 := 68) (EJ_getR (t := 13) (c := 12) (kf := 0) (r := (RX12, TX12, 52)) (p0 := 62) (p1 := 63) (EJ_aload_n (j := 0) (i := 0) (pc := 62) D_M_members_62 rfl) D_M_members_63 ⟨rfl, rfl, by decide, q_932⟩ (fun _ _ => rfl)) (EJ_iload (i := 7) (pc := 66) D_M_members_66) D_M_members_68) (EJ_iconst (n := 1) (v := (nI 1)) (pc := 69) D_M_members_69 (by decide +kernel)) D_M_members_70 rfl) (SJ_ret (p0 := 73) (p1 := 114) (EJ_if (p0 := 73) (pT := 109) (pF := 113) (pE := 110) (p1 := 114) (CJ_and (p0 := 73) (pM := 93) (pT := 109) (pF := 113) (CJ_and (p0 := 73) (pM := 84) (pT := 93) (pF := 113) (CJ_lt' (off := 32) (tgt := 113) (p0 := 73) (p1 := 75) (p2 := 81) (EJ_iload (i := 4) (pc := 73) D_M_members_73) (EJ_iald (p0 := 75) (p1 := 79) (p2 := 80) (EJ_getR (t := 13) (c := 12) (kf := 39) (r := (RX12, TX12, 52)) (p0 := 75) (p1 := 76) (EJ_aload_n (j := 0) (i := 0) (pc := 75) D_M_members_75 rfl) D_M_members_76 ⟨rfl, rfl, by decide, q_971⟩ (fun _ _ => rfl)) (EJ_iload_n (j := 1) (i := 1) (pc := 79) D_M_members_79 rfl) D_M_members_80) D_M_members_81 rfl) (CZ_ne' (off := 23) (tgt := 113) (p0 := 84) (p1 := 90) (EJ_callV (t := 13) (c := 12) (r := (RX12, TX12, 52)) (p0 := 84) (p1 := 85) (p2 := 87) (EJ_aload_n (j := 0) (i := 0) (pc := 84) D_M_members_84 rfl) (AJ_I (p0 := 85) (p1 := 87) (p2 := 87) (EJ_iload (i := 4) (pc := 85) D_M_members_85) AJ_nil) m_M_isWord E1_I D_M_members_87 rfl rfl rfl q_1312 q_1313 q_85 q_97 ⟨by decide +kernel, by decide +kernel, by decide +kernel⟩ (by decide) (show 1 + 1 ≤ 4 + n + 1 from by omega) (fun _ h => absurd h List.not_mem_nil)) D_M_members_90 rfl)) (CZ_ne' (off := 7) (tgt := 113) (p0 := 93) (p1 := 106) (EJ_callV (t := 13) (c := 12) (r := (RX12, TX12, 52)) (p0 := 93) (p1 := 94) (p2 := 103) (EJ_aload_n (j := 0) (i := 0) (pc := 93) D_M_members_93 rfl) (AJ_I (p0 := 94) (p1 := 95) (p2 := 103) (EJ_iload_n (j := 1) (i := 1) (pc := 94) D_M_members_94 rfl) (AJ_I (p0 := 95) (p1 := 96) (p2 := 103) (EJ_iload_n (j := 2) (i := 2) (pc := 95) D_M_members_95 rfl) (AJ_I (p0 := 96) (p1 := 99) (p2 := 103) (EJ_iadd (p0 := 96) (p1 := 97) (p2 := 98) (EJ_iload_n (j := 3) (i := 3) (pc := 96) D_M_members_96 rfl) (EJ_iconst (n := 1) (v := (nI 1)) (pc := 97) D_M_members_97 (by decide +kernel)) D_M_members_98) (AJ_I (p0 := 99) (p1 := 103) (p2 := 103) (EJ_iadd (p0 := 99) (p1 := 101) (p2 := 102) (EJ_iload (i := 4) (pc := 99) D_M_members_99) (EJ_iconst (n := 1) (v := (nI 1)) (pc := 101) D_M_members_101 (by decide +kernel)) D_M_members_102) AJ_nil)))) h3 E1_I D_M_members_103 rfl rfl rfl q_1306 q_1307 q_83 q_97 ⟨by decide +kernel, by decide +kernel, by decide +kernel⟩ (by decide) (Nat.le_refl _) (show ∀ x_ ∈ ([13, 79, 80, 81, 87, 88, 89, 92, 93, 94, 95, 96, 97, 98, 99, 100, 101] : List Nat), x_ ∈ ([13, 79, 80, 81, 87, 88, 89, 92, 93, 94, 95, 96, 97, 98, 99, 100, 101] : List Nat) from by decide)) D_M_members_106 rfl)) (EJ_iconst (n := 1) (v := (nI 1)) (pc := 109) D_M_members_109 (by decide +kernel)) (Lead.goto (K := (K_M_members n)) (pc := 110) (tgt := 114) D_M_members_110 rfl) (EJ_iconst (n := 0) (v := (nI 0)) (pc := 113) D_M_members_113 (by decide +kernel))) D_M_members_114) SJ_sk)
 (SJ_sq (p0 := 115) (p1 := 126) (nN := 0) (nB := 0) (nC := 0) (SJ_if (p0 := 115) (pT := 124) (pF := 126) (nN := 126) (nB := 0) (nC := 0) (CJ_gt' (off := 5) (tgt := 126) (p0 := 115) (p1 := 119) (p2 := 121) (EJ_getI (t := 13) (c := 12) (kf := 49) (r := (RX12, TX12, 52)) (p0 := 115) (p1 := 116) (EJ_aload_n (j := 0) (i := 0) (pc := 115) D_M_members_115 rfl) D_M_members_116 ⟨rfl, rfl, by decide, q_981⟩ (fun _ _ => rfl)) (EJ_bipush (n := 10) (v := (nI 10)) (pc := 119) D_M_members_119 (by decide +kernel)) D_M_members_121 rfl) (SJ_ret (p0 := 124) (p1 := 125) (EJ_iconst (n := 0) (v := (nI 0)) (pc := 124) D_M_members_124 (by decide +kernel)) D_M_members_125) SJ_sk)
 (SJ_sq (p0 := 126) (p1 := 137) (nN := 0) (nB := 0) (nC := 0) (SJ_istore (i := 8) (p0 := 126) (p1 := 135) (EJ_isub (p0 := 126) (p1 := 132) (p2 := 134) (EJ_iald (p0 := 126) (p1 := 130) (p2 := 131) (EJ_getR (t := 13) (c := 12) (kf := 39) (r := (RX12, TX12, 52)) (p0 := 126) (p1 := 127) (EJ_aload_n (j := 0) (i := 0) (pc := 126) D_M_members_126 rfl) D_M_members_127 ⟨rfl, rfl, by decide, q_971⟩ (fun _ _ => rfl)) (EJ_iload_n (j := 1) (i := 1) (pc := 130) D_M_members_130 rfl) D_M_members_131) (EJ_iload (i := 4) (pc := 132) D_M_members_132) D_M_members_134) D_M_members_135)
 (SJ_sq (p0 := 137) (p1 := 281) (nN := 0) (nB := 0) (nC := 0) (SJ_sq (p0 := 137) (p1 := 153) (nN := 281) (nB := 0) (nC := 0) (SJ_istore (i := 9) (p0 := 137) (p1 := 151) (EJ_if (p0 := 137) (pT := 145) (pF := 150) (pE := 147) (p1 := 151) (CJ_eq' (off := 8) (tgt := 150) (p0 := 137) (p1 := 138) (p2 := 142) (EJ_iload_n (j := 3) (i := 3) (pc := 137) D_M_members_137 rfl) (EJ_isub (p0 := 138) (p1 := 140) (p2 := 141) (EJ_iload (i := 6) (pc := 138) D_M_members_138) (EJ_iconst (n := 1) (v := (nI 1)) (pc := 140) D_M_members_140 (by decide +kernel)) D_M_members_141) D_M_members_142 rfl) (EJ_iload (i := 8) (pc := 145) D_M_members_145) (Lead.goto (K := (K_M_members n)) (pc := 147) (tgt := 151) D_M_members_147 rfl) (EJ_iconst (n := 0) (v := (nI 0)) (pc := 150) D_M_members_150 (by decide +kernel))) D_M_members_151)
 (SJ_loop (p0 := 153) (pB := 167) (pS := 275) (pE := 281) (CJ_and (p0 := 153) (pM := 160) (pT := 167) (pF := 281) (CJ_le' (off := 124) (tgt := 281) (p0 := 153) (p1 := 155) (p2 := 157) (EJ_iload (i := 9) (pc := 153) D_M_members_153) (EJ_iload (i := 8) (pc := 155) D_M_members_155) D_M_members_157 rfl) (CJ_not (p0 := 160) (pT := 167) (pF := 281) (CZ_ne (off := 117) (tgt := 281) (p0 := 160) (p1 := 164) (EJ_getI (t := 13) (c := 12) (kf := 37) (r := (RX12, TX12, 52)) (p0 := 160) (p1 := 161) (EJ_aload_n (j := 0) (i := 0) (pc := 160) D_M_members_160 rfl) D_M_members_161 ⟨rfl, rfl, by decide, q_969⟩ (fun _ _ => rfl)) D_M_members_164 rfl)))
 (SJ_sq (p0 := 167) (p1 := 176) (nN := 275) (nB := 281) (nC := 275) (SJ_void (p0 := 167) (p1 := 176) (EJ_callV (t := 13) (c := 12) (r := (RX12, TX12, 52)) (p0 := 167) (p1 := 168) (p2 := 173) (EJ_aload_n (j := 0) (i := 0) (pc := 167) D_M_members_167 rfl) (AJ_I (p0 := 168) (p1 := 169) (p2 := 173) (EJ_iload_n (j := 1) (i := 1) (pc := 168) D_M_members_168 rfl) (AJ_I (p0 := 169) (p1 := 173) (p2 := 173) (EJ_iadd (p0 := 169) (p1 := 171) (p2 := 172) (EJ_iload (i := 7) (pc := 169) D_M_members_169) (EJ_iconst (n := 1) (v := (nI 1)) (pc := 171) D_M_members_171 (by decide +kernel)) D_M_members_172) AJ_nil)) m_M_makes E1_U D_M_members_173 rfl rfl rfl q_1309 q_1310 q_84 q_97 ⟨by decide +kernel, by decide +kernel, by decide +kernel⟩ (by decide) (show 3 + 1 ≤ 4 + n + 1 from by omega) (show ∀ x_ ∈ ([13, 101] : List Nat), x_ ∈ ([13, 79, 80, 81, 87, 88, 89, 92, 93, 94, 95, 96, 97, 98, 99, 100, 101] : List Nat) from by decide)))
 (SJ_sq (p0 := 176) (p1 := 188) (nN := 275) (nB := 281) (nC := 275) (SJ_iast (ws := [80]) (p0 := 176) (p1 := 180) (p2 := 183) (p3 := 187) (EJ_getR (t := 13) (c := 12) (kf := 16) (r := (RX12, TX12, 52)) (p0 := 176) (p1 := 177) (EJ_aload_n (j := 0) (i := 0) (pc := 176) D_M_members_176 rfl) D_M_members_177 ⟨rfl, rfl, by decide, q_948⟩ (fun _ _ => rfl)) (EJ_iadd (p0 := 180) (p1 := 181) (p2 := 182) (EJ_iload_n (j := 1) (i := 1) (pc := 180) D_M_members_180 rfl) (EJ_iconst (n := 1) (v := (nI 1)) (pc := 181) D_M_members_181 (by decide +kernel)) D_M_members_182) (EJ_getI (t := 13) (c := 12) (kf := 49) (r := (RX12, TX12, 52)) (p0 := 183) (p1 := 184) (EJ_aload_n (j := 0) (i := 0) (pc := 183) D_M_members_183 rfl) D_M_members_184 ⟨rfl, rfl, by decide, q_981⟩ (fun _ _ => rfl)) D_M_members_187 (show ∀ x_ ∈ ([80] : List Nat), x_ ∈ ([13, 79, 80, 81, 87, 88, 89, 92, 93, 94, 95, 96, 97, 98, 99, 100, 101] : List Nat) from by decide))
 (SJ_sq (p0 := 188) (p1 := 227) (nN := 275) (nB := 281) (nC := 275) (SJ_sq (p0 := 188) (p1 := 191) (nN := 227) (nB := 281) (nC := 275) (SJ_istore (i := 10) (p0 := 188) (p1 := 189) (EJ_iconst (n := 0) (v := (nI 0)) (pc := 188) D_M_members_188 (by decide +kernel)) D_M_members_189)
 (SJ_loop (p0 := 191) (pB := 200) (pS := 221) (pE := 227) (CJ_lt' (off := 30) (tgt := 227) (p0 := 191) (p1 := 193) (p2 := 197) (EJ_iload (i := 10) (pc := 191) D_M_members_191) (EJ_getI (t := 13) (c := 12) (kf := 49) (r := (RX12, TX12, 52)) (p0 := 193) (p1 := 194) (EJ_aload_n (j := 0) (i := 0) (pc := 193) D_M_members_193 rfl) D_M_members_194 ⟨rfl, rfl, by decide, q_981⟩ (fun _ _ => rfl)) D_M_members_197 rfl)
 (SJ_iast (ws := [79]) (p0 := 200) (p1 := 204) (p2 := 213) (p3 := 220) (EJ_getR (t := 13) (c := 12) (kf := 15) (r := (RX12, TX12, 52)) (p0 := 200) (p1 := 201) (EJ_aload_n (j := 0) (i := 0) (pc := 200) D_M_members_200 rfl) D_M_members_201 ⟨rfl, rfl, by decide, q_947⟩ (fun _ _ => rfl)) (EJ_iadd (p0 := 204) (p1 := 210) (p2 := 212) (EJ_imul (p0 := 204) (p1 := 206) (p2 := 209) (EJ_bipush (n := 10) (v := (nI 10)) (pc := 204) D_M_members_204 (by decide +kernel)) (EJ_iadd (p0 := 206) (p1 := 207) (p2 := 208) (EJ_iload_n (j := 1) (i := 1) (pc := 206) D_M_members_206 rfl) (EJ_iconst (n := 1) (v := (nI 1)) (pc := 207) D_M_members_207 (by decide +kernel)) D_M_members_208) D_M_members_209) (EJ_iload (i := 10) (pc := 210) D_M_members_210) D_M_members_212) (EJ_iald (p0 := 213) (p1 := 217) (p2 := 219) (EJ_getR (t := 13) (c := 12) (kf := 48) (r := (RX12, TX12, 52)) (p0 := 213) (p1 := 214) (EJ_aload_n (j := 0) (i := 0) (pc := 213) D_M_members_213 rfl) D_M_members_214 ⟨rfl, rfl, by decide, q_980⟩ (fun _ _ => rfl)) (EJ_iload (i := 10) (pc := 217) D_M_members_217) D_M_members_219) D_M_members_220 (show ∀ x_ ∈ ([79] : List Nat), x_ ∈ ([13, 79, 80, 81, 87, 88, 89, 92, 93, 94, 95, 96, 97, 98, 99, 100, 101] : List Nat) from by decide))
 (SJ_post (SJ_iinc (i := 10) (n := 1) (v := (nI 1)) (pc := 221) D_M_members_221 (by decide +kernel)) (Lead.goto (K := (K_M_members n)) (pc := 224) (tgt := 191) D_M_members_224 rfl))))
 (SJ_sq (p0 := 227) (p1 := 233) (nN := 275) (nB := 281) (nC := 275) (SJ_istore (i := 10) (p0 := 227) (p1 := 231) (EJ_getI (t := 13) (c := 12) (kf := 47) (r := (RX12, TX12, 52)) (p0 := 227) (p1 := 228) (EJ_aload_n (j := 0) (i := 0) (pc := 227) D_M_members_227 rfl) D_M_members_228 ⟨rfl, rfl, by decide, q_979⟩ (fun _ _ => rfl)) D_M_members_231)
 (SJ_if (p0 := 233) (pT := 250) (pF := 275) (nN := 275) (nB := 281) (nC := 275) (CZ_ne' (off := 28) (tgt := 275) (p0 := 233) (p1 := 247) (EJ_callV (t := 13) (c := 12) (r := (RX12, TX12, 52)) (p0 := 233) (p1 := 234) (p2 := 244) (EJ_aload_n (j := 0) (i := 0) (pc := 233) D_M_members_233 rfl) (AJ_I (p0 := 234) (p1 := 237) (p2 := 244) (EJ_iadd (p0 := 234) (p1 := 235) (p2 := 236) (EJ_iload_n (j := 1) (i := 1) (pc := 234) D_M_members_234 rfl) (EJ_iconst (n := 1) (v := (nI 1)) (pc := 235) D_M_members_235 (by decide +kernel)) D_M_members_236) (AJ_I (p0 := 237) (p1 := 239) (p2 := 244) (EJ_iload (i := 4) (pc := 237) D_M_members_237) (AJ_I (p0 := 239) (p1 := 244) (p2 := 244) (EJ_iadd (p0 := 239) (p1 := 241) (p2 := 243) (EJ_iload (i := 4) (pc := 239) D_M_members_239) (EJ_iload (i := 9) (pc := 241) D_M_members_241) D_M_members_243) AJ_nil))) h0 E1_I D_M_members_244 rfl rfl rfl q_1293 q_1294 q_79 q_97 ⟨by decide +kernel, by decide +kernel, by decide +kernel⟩ (by decide) (Nat.le_refl _) (show ∀ x_ ∈ ([13, 79, 80, 81, 87, 88, 89, 92, 93, 94, 95, 96, 97, 98, 99, 100, 101] : List Nat), x_ ∈ ([13, 79, 80, 81, 87, 88, 89, 92, 93, 94, 95, 96, 97, 98, 99, 100, 101] : List Nat) from by decide)) D_M_members_247 rfl) (SJ_sq (p0 := 250) (p1 := 269) (nN := 275) (nB := 281) (nC := 275) (SJ_if (p0 := 250) (pT := 267) (pF := 269) (nN := 269) (nB := 281) (nC := 275) (CZ_ne' (off := 5) (tgt := 269) (p0 := 250) (p1 := 264) (EJ_callV (t := 13) (c := 12) (r := (RX12, TX12, 52)) (p0 := 250) (p1 := 251) (p2 := 261) (EJ_aload_n (j := 0) (i := 0) (pc := 250) D_M_members_250 rfl) (AJ_I (p0 := 251) (p1 := 252) (p2 := 261) (EJ_iload_n (j := 1) (i := 1) (pc := 251) D_M_members_251 rfl) (AJ_I (p0 := 252) (p1 := 253) (p2 := 261) (EJ_iload_n (j := 2) (i := 2) (pc := 252) D_M_members_252 rfl) (AJ_I (p0 := 253) (p1 := 256) (p2 := 261) (EJ_iadd (p0 := 253) (p1 := 254) (p2 := 255) (EJ_iload_n (j := 3) (i := 3) (pc := 253) D_M_members_253 rfl) (EJ_iconst (n := 1) (v := (nI 1)) (pc := 254) D_M_members_254 (by decide +kernel)) D_M_members_255) (AJ_I (p0 := 256) (p1 := 261) (p2 := 261) (EJ_iadd (p0 := 256) (p1 := 258) (p2 := 260) (EJ_iload (i := 4) (pc := 256) D_M_members_256) (EJ_iload (i := 9) (pc := 258) D_M_members_258) D_M_members_260) AJ_nil)))) h3 E1_I D_M_members_261 rfl rfl rfl q_1306 q_1307 q_83 q_97 ⟨by decide +kernel, by decide +kernel, by decide +kernel⟩ (by decide) (Nat.le_refl _) (show ∀ x_ ∈ ([13, 79, 80, 81, 87, 88, 89, 92, 93, 94, 95, 96, 97, 98, 99, 100, 101] : List Nat), x_ ∈ ([13, 79, 80, 81, 87, 88, 89, 92, 93, 94, 95, 96, 97, 98, 99, 100, 101] : List Nat) from by decide)) D_M_members_264 rfl) (SJ_ret (p0 := 267) (p1 := 268) (EJ_iconst (n := 1) (v := (nI 1)) (pc := 267) D_M_members_267 (by decide +kernel)) D_M_members_268) SJ_sk)
 (SJ_putI (z := false) (t := 13) (c := 12) (kf := 47) (r := (RX12, TX12, 52)) (p0 := 269) (p1 := 270) (p2 := 272) (EJ_aload_n (j := 0) (i := 0) (pc := 269) D_M_members_269 rfl) (EJ_iload (i := 10) (pc := 270) D_M_members_270) D_M_members_272 ⟨rfl, rfl, by decide, q_979⟩ (Or.inl rfl) (fun _ _ => ⟨rfl, rfl⟩) (fun _ _ => rfl) (show (13 : Nat) ∈ ([13, 79, 80, 81, 87, 88, 89, 92, 93, 94, 95, 96, 97, 98, 99, 100, 101] : List Nat) from by decide))) SJ_sk)))))
 (SJ_post (SJ_iinc (i := 9) (n := 1) (v := (nI 1)) (pc := 275) D_M_members_275 (by decide +kernel)) (Lead.goto (K := (K_M_members n)) (pc := 278) (tgt := 153) D_M_members_278 rfl))))
 (SJ_ret (p0 := 281) (p1 := 282) (EJ_iconst (n := 0) (v := (nI 0)) (pc := 281) D_M_members_281 (by decide +kernel)) D_M_members_282))))))))))
 RTm_bool q_1308 (by decide +kernel) rfl (fun h => by cases h) (show 11 ≤ 40 from by decide) (fun _ => trivial)
def R_M_asks : Nat → Nat → MD Int32
  | 0 => fun _ _ _ => none
  | n + 1 => fun j => match j with | 0 => b_M_asks (R_M_asks n) | 1 => b_M_heads3 (R_M_asks n) | 2 => b_M_choices2 (R_M_asks n) | _ => b_M_members (R_M_asks n)
theorem g_M_asks : ∀ n, MJ (4 + n) [13, 79, 80, 81, 87, 88, 89, 92, 93, 94, 95, 96, 97, 98, 99, 100, 101] yX12_asks (some .boolean) eI (R_M_asks n 0) ∧ MJ (4 + n) [13, 79, 80, 81, 87, 88, 89, 92, 93, 94, 95, 96, 97, 98, 99, 100, 101] yX12_heads_ (some .boolean) eI (R_M_asks n 1) ∧ MJ (4 + n) [13, 79, 80, 81, 87, 88, 89, 92, 93, 94, 95, 96, 97, 98, 99, 100, 101] yX12_choices_ (some .boolean) eI (R_M_asks n 2) ∧ MJ (4 + n) [13, 79, 80, 81, 87, 88, 89, 92, 93, 94, 95, 96, 97, 98, 99, 100, 101] yX12_members (some .boolean) eI (R_M_asks n 3) := by
  intro n
  induction n with
  | zero => exact ⟨MJ_none q_1295 (by decide), MJ_none q_1302 (by decide), MJ_none q_1305 (by decide), MJ_none q_1308 (by decide)⟩
  | succ n ih => exact ⟨s_M_asks n (R_M_asks n) ih.2.1, s_M_heads3 n (R_M_asks n) ih.2.1 ih.2.2.1, s_M_choices2 n (R_M_asks n) ih.2.2.2, s_M_members n (R_M_asks n) ih.1 ih.2.2.2⟩
def d_M_asks : MD Int32 := R_M_asks 200 0
theorem m_M_asks : MJ 204 [13, 79, 80, 81, 87, 88, 89, 92, 93, 94, 95, 96, 97, 98, 99, 100, 101] yX12_asks (some .boolean) eI d_M_asks := (g_M_asks 200).1
def d_M_heads3 : MD Int32 := R_M_asks 200 1
theorem m_M_heads3 : MJ 204 [13, 79, 80, 81, 87, 88, 89, 92, 93, 94, 95, 96, 97, 98, 99, 100, 101] yX12_heads_ (some .boolean) eI d_M_heads3 := (g_M_asks 200).2.1
def d_M_choices2 : MD Int32 := R_M_asks 200 2
theorem m_M_choices2 : MJ 204 [13, 79, 80, 81, 87, 88, 89, 92, 93, 94, 95, 96, 97, 98, 99, 100, 101] yX12_choices_ (some .boolean) eI d_M_choices2 := (g_M_asks 200).2.2.1
def d_M_members : MD Int32 := R_M_asks 200 3
theorem m_M_members : MJ 204 [13, 79, 80, 81, 87, 88, 89, 92, 93, 94, 95, 96, 97, 98, 99, 100, 101] yX12_members (some .boolean) eI d_M_members := (g_M_asks 200).2.2.2
