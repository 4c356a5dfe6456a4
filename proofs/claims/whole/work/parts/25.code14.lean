/-! the program: part 14 -/
theorem D_M_lost_0 : decode cX12_lost 0 = .ok (.aload_n 0, 1) := by decide +kernel
theorem D_M_lost_1 : decode cX12_lost 1 = .ok (.invokevirtual 279, 3) := by decide +kernel
theorem D_M_lost_4 : decode cX12_lost 4 = .ok (.iconst (0), 1) := by decide +kernel
theorem D_M_lost_5 : decode cX12_lost 5 = .ok (.istore_n 1, 1) := by decide +kernel
theorem D_M_lost_6 : decode cX12_lost 6 = .ok (.iconst (0), 1) := by decide +kernel
theorem D_M_lost_7 : decode cX12_lost 7 = .ok (.istore_n 2, 1) := by decide +kernel
theorem D_M_lost_8 : decode cX12_lost 8 = .ok (.iload_n 2, 1) := by decide +kernel
theorem D_M_lost_9 : decode cX12_lost 9 = .ok (.aload_n 0, 1) := by decide +kernel
theorem D_M_lost_10 : decode cX12_lost 10 = .ok (.getfield 9, 3) := by decide +kernel
theorem D_M_lost_13 : decode cX12_lost 13 = .ok (.iconst (0), 1) := by decide +kernel
theorem D_M_lost_14 : decode cX12_lost 14 = .ok (.iaload, 1) := by decide +kernel
theorem D_M_lost_15 : decode cX12_lost 15 = .ok (.if_icmp .ge (41), 3) := by decide +kernel
theorem D_M_lost_18 : decode cX12_lost 18 = .ok (.iload_n 1, 1) := by decide +kernel
theorem D_M_lost_19 : decode cX12_lost 19 = .ok (.aload_n 0, 1) := by decide +kernel
theorem D_M_lost_20 : decode cX12_lost 20 = .ok (.getfield 60, 3) := by decide +kernel
theorem D_M_lost_23 : decode cX12_lost 23 = .ok (.iload_n 2, 1) := by decide +kernel
theorem D_M_lost_24 : decode cX12_lost 24 = .ok (.baload, 1) := by decide +kernel
theorem D_M_lost_25 : decode cX12_lost 25 = .ok (.ifCond .eq (7), 3) := by decide +kernel
theorem D_M_lost_28 : decode cX12_lost 28 = .ok (.iconst (0), 1) := by decide +kernel
theorem D_M_lost_29 : decode cX12_lost 29 = .ok (.goto (19), 3) := by decide +kernel
theorem D_M_lost_32 : decode cX12_lost 32 = .ok (.iconst (1), 1) := by decide +kernel
theorem D_M_lost_33 : decode cX12_lost 33 = .ok (.aload_n 0, 1) := by decide +kernel
theorem D_M_lost_34 : decode cX12_lost 34 = .ok (.getfield 9, 3) := by decide +kernel
theorem D_M_lost_37 : decode cX12_lost 37 = .ok (.iconst (4), 1) := by decide +kernel
theorem D_M_lost_38 : decode cX12_lost 38 = .ok (.bipush (30), 2) := by decide +kernel
theorem D_M_lost_40 : decode cX12_lost 40 = .ok (.iload_n 2, 1) := by decide +kernel
theorem D_M_lost_41 : decode cX12_lost 41 = .ok (.imul, 1) := by decide +kernel
theorem D_M_lost_42 : decode cX12_lost 42 = .ok (.iadd, 1) := by decide +kernel
theorem D_M_lost_43 : decode cX12_lost 43 = .ok (.iaload, 1) := by decide +kernel
theorem D_M_lost_44 : decode cX12_lost 44 = .ok (.bipush (65), 2) := by decide +kernel
theorem D_M_lost_46 : decode cX12_lost 46 = .ok (.isub, 1) := by decide +kernel
theorem D_M_lost_47 : decode cX12_lost 47 = .ok (.ishl, 1) := by decide +kernel
theorem D_M_lost_48 : decode cX12_lost 48 = .ok (.ior, 1) := by decide +kernel
theorem D_M_lost_49 : decode cX12_lost 49 = .ok (.istore_n 1, 1) := by decide +kernel
theorem D_M_lost_50 : decode cX12_lost 50 = .ok (.iinc 2 (1), 3) := by decide +kernel
theorem D_M_lost_53 : decode cX12_lost 53 = .ok (.goto (-45), 3) := by decide +kernel
theorem D_M_lost_56 : decode cX12_lost 56 = .ok (.iload_n 1, 1) := by decide +kernel
theorem D_M_lost_57 : decode cX12_lost 57 = .ok (.ireturn, 1) := by decide +kernel
def K_M_lost : SC := (cX12_lost, "TwoLevelsModel", 3, 5, false, [86], NoQ)
def d_M_lost : MD Int32 := mth tt 3 (sq (sE (kV 13 d_M_laysOut (lR 0) []))
 (sq (sI1 1 (eC (nI 0)))
 (sq (sq (sI1 2 (eC (nI 0)))
 (loop (eh2 c_lt (lI 2) (eh2 (aI .int) (eh1 (gR 13 0) (lR 0)) (eC (nI 0))))
 (sI1 1 (eh2 iorF (lI 1) (eIf (eh1 z_ne (eh2 (aI .boolean) (eh1 (gR 13 23) (lR 0)) (lI 2))) (eC (nI 0)) (eh2 ishlF (eC (nI 1)) (eh2 isubF (eh2 (aI .int) (eh1 (gR 13 0) (lR 0)) (eh2 iaddF (eC (nI 4)) (eh2 imulF (eC (nI 30)) (lI 2)))) (eC (nI 65)))))))
 (sInc 2 (nI 1))))
 (rtn (lI 1)))))
theorem m_M_lost : MJ 5 [86] yX12_lost (some .int) eI (d_M_lost) := MJ_of (K := K_M_lost) (ri := .ireturn) (n1 := 0) (n2 := 0) (n3 := 0)
 (SJ_sq (p0 := 0) (p1 := 4) (nN := 0) (nB := 0) (nC := 0) (SJ_void (p0 := 0) (p1 := 4) (EJ_callV (t := 13) (c := 12) (r := (RX12, TX12, 52)) (p0 := 0) (p1 := 1) (p2 := 1) (EJ_aload_n (j := 0) (i := 0) (pc := 0) D_M_lost_0 rfl) AJ_nil m_M_laysOut E1_U D_M_lost_1 rfl rfl rfl q_1197 q_1198 q_65 q_97 ⟨by decide +kernel, by decide +kernel, by decide +kernel⟩ (by decide) (show 4 + 1 ≤ 5 from by decide) (show ∀ x_ ∈ ([86] : List Nat), x_ ∈ ([86] : List Nat) from by decide)))
 (SJ_sq (p0 := 4) (p1 := 6) (nN := 0) (nB := 0) (nC := 0) (SJ_istore_n (i := 1) (j := 1) (p0 := 4) (p1 := 5) (EJ_iconst (n := 0) (v := (nI 0)) (pc := 4) D_M_lost_4 (by decide +kernel)) D_M_lost_5 rfl)
 (SJ_sq (p0 := 6) (p1 := 56) (nN := 0) (nB := 0) (nC := 0) (SJ_sq (p0 := 6) (p1 := 8) (nN := 56) (nB := 0) (nC := 0) (SJ_istore_n (i := 2) (j := 2) (p0 := 6) (p1 := 7) (EJ_iconst (n := 0) (v := (nI 0)) (pc := 6) D_M_lost_6 (by decide +kernel)) D_M_lost_7 rfl)
 (SJ_loop (p0 := 8) (pB := 18) (pS := 50) (pE := 56) (CJ_lt' (off := 41) (tgt := 56) (p0 := 8) (p1 := 9) (p2 := 15) (EJ_iload_n (j := 2) (i := 2) (pc := 8) D_M_lost_8 rfl) (EJ_iald (p0 := 9) (p1 := 13) (p2 := 14) (EJ_getR (t := 13) (c := 12) (kf := 0) (r := (RX12, TX12, 52)) (p0 := 9) (p1 := 10) (EJ_aload_n (j := 0) (i := 0) (pc := 9) D_M_lost_9 rfl) D_M_lost_10 ⟨rfl, rfl, by decide, q_932⟩ (fun _ _ => rfl)) (EJ_iconst (n := 0) (v := (nI 0)) (pc := 13) D_M_lost_13 (by decide +kernel)) D_M_lost_14) D_M_lost_15 rfl)
 (SJ_istore_n (i := 1) (j := 1) (p0 := 18) (p1 := 49) (EJ_ior (p0 := 18) (p1 := 19) (p2 := 48) (EJ_iload_n (j := 1) (i := 1) (pc := 18) D_M_lost_18 rfl) (EJ_if (p0 := 19) (pT := 28) (pF := 32) (pE := 29) (p1 := 48) (CZ_ne' (off := 7) (tgt := 32) (p0 := 19) (p1 := 25) (EJ_zald (p0 := 19) (p1 := 23) (p2 := 24) (EJ_getR (t := 13) (c := 12) (kf := 23) (r := (RX12, TX12, 52)) (p0 := 19) (p1 := 20) (EJ_aload_n (j := 0) (i := 0) (pc := 19) D_M_lost_19 rfl) D_M_lost_20 ⟨rfl, rfl, by decide, q_955⟩ (fun _ _ => rfl)) (EJ_iload_n (j := 2) (i := 2) (pc := 23) D_M_lost_23 rfl) D_M_lost_24) D_M_lost_25 rfl) (EJ_iconst (n := 0) (v := (nI 0)) (pc := 28) D_M_lost_28 (by decide +kernel)) (Lead.goto (K := K_M_lost) (pc := 29) (tgt := 48) D_M_lost_29 rfl) (EJ_ishl (p0 := 32) (p1 := 33) (p2 := 47) (EJ_iconst (n := 1) (v := (nI 1)) (pc := 32) D_M_lost_32 (by decide +kernel)) (EJ_isub (p0 := 33) (p1 := 44) (p2 := 46) (EJ_iald (p0 := 33) (p1 := 37) (p2 := 43) (EJ_getR (t := 13) (c := 12) (kf := 0) (r := (RX12, TX12, 52)) (p0 := 33) (p1 := 34) (EJ_aload_n (j := 0) (i := 0) (pc := 33) D_M_lost_33 rfl) D_M_lost_34 ⟨rfl, rfl, by decide, q_932⟩ (fun _ _ => rfl)) (EJ_iadd (p0 := 37) (p1 := 38) (p2 := 42) (EJ_iconst (n := 4) (v := (nI 4)) (pc := 37) D_M_lost_37 (by decide +kernel)) (EJ_imul (p0 := 38) (p1 := 40) (p2 := 41) (EJ_bipush (n := 30) (v := (nI 30)) (pc := 38) D_M_lost_38 (by decide +kernel)) (EJ_iload_n (j := 2) (i := 2) (pc := 40) D_M_lost_40 rfl) D_M_lost_41) D_M_lost_42) D_M_lost_43) (EJ_bipush (n := 65) (v := (nI 65)) (pc := 44) D_M_lost_44 (by decide +kernel)) D_M_lost_46) D_M_lost_47)) D_M_lost_48) D_M_lost_49 rfl)
 (SJ_post (SJ_iinc (i := 2) (n := 1) (v := (nI 1)) (pc := 50) D_M_lost_50 (by decide +kernel)) (Lead.goto (K := K_M_lost) (pc := 53) (tgt := 8) D_M_lost_53 rfl))))
 (SJ_ret (p0 := 56) (p1 := 57) (EJ_iload_n (j := 1) (i := 1) (pc := 56) D_M_lost_56 rfl) D_M_lost_57))))
 RTm_int q_1358 (by decide +kernel) rfl (fun h => by cases h) (show 3 ≤ 40 from by decide) (fun _ => trivial)
theorem D_M_count_0 : decode cX12_count 0 = .ok (.iload_n 1, 1) := by decide +kernel
theorem D_M_count_1 : decode cX12_count 1 = .ok (.tableswitch 147 0 10 #[59, 66, 73, 78, 87, 96, 103, 110, 115, 120, 142], 59) := by decide +kernel
theorem D_M_count_60 : decode cX12_count 60 = .ok (.aload_n 0, 1) := by decide +kernel
theorem D_M_count_61 : decode cX12_count 61 = .ok (.getfield 9, 3) := by decide +kernel
theorem D_M_count_64 : decode cX12_count 64 = .ok (.iconst (0), 1) := by decide +kernel
theorem D_M_count_65 : decode cX12_count 65 = .ok (.iaload, 1) := by decide +kernel
theorem D_M_count_66 : decode cX12_count 66 = .ok (.ireturn, 1) := by decide +kernel
theorem D_M_count_67 : decode cX12_count 67 = .ok (.aload_n 0, 1) := by decide +kernel
theorem D_M_count_68 : decode cX12_count 68 = .ok (.getfield 9, 3) := by decide +kernel
theorem D_M_count_71 : decode cX12_count 71 = .ok (.iconst (1), 1) := by decide +kernel
theorem D_M_count_72 : decode cX12_count 72 = .ok (.iaload, 1) := by decide +kernel
theorem D_M_count_73 : decode cX12_count 73 = .ok (.ireturn, 1) := by decide +kernel
theorem D_M_count_74 : decode cX12_count 74 = .ok (.aload_n 0, 1) := by decide +kernel
theorem D_M_count_75 : decode cX12_count 75 = .ok (.invokevirtual 381, 3) := by decide +kernel
theorem D_M_count_78 : decode cX12_count 78 = .ok (.ireturn, 1) := by decide +kernel
theorem D_M_count_79 : decode cX12_count 79 = .ok (.aload_n 0, 1) := by decide +kernel
theorem D_M_count_80 : decode cX12_count 80 = .ok (.getfield 9, 3) := by decide +kernel
theorem D_M_count_83 : decode cX12_count 83 = .ok (.sipush (1595), 3) := by decide +kernel
theorem D_M_count_86 : decode cX12_count 86 = .ok (.iaload, 1) := by decide +kernel
theorem D_M_count_87 : decode cX12_count 87 = .ok (.ireturn, 1) := by decide +kernel
theorem D_M_count_88 : decode cX12_count 88 = .ok (.aload_n 0, 1) := by decide +kernel
theorem D_M_count_89 : decode cX12_count 89 = .ok (.getfield 9, 3) := by decide +kernel
theorem D_M_count_92 : decode cX12_count 92 = .ok (.sipush (1584), 3) := by decide +kernel
theorem D_M_count_95 : decode cX12_count 95 = .ok (.iaload, 1) := by decide +kernel
theorem D_M_count_96 : decode cX12_count 96 = .ok (.ireturn, 1) := by decide +kernel
theorem D_M_count_97 : decode cX12_count 97 = .ok (.aload_n 0, 1) := by decide +kernel
theorem D_M_count_98 : decode cX12_count 98 = .ok (.getfield 9, 3) := by decide +kernel
theorem D_M_count_101 : decode cX12_count 101 = .ok (.iconst (2), 1) := by decide +kernel
theorem D_M_count_102 : decode cX12_count 102 = .ok (.iaload, 1) := by decide +kernel
theorem D_M_count_103 : decode cX12_count 103 = .ok (.ireturn, 1) := by decide +kernel
theorem D_M_count_104 : decode cX12_count 104 = .ok (.aload_n 0, 1) := by decide +kernel
theorem D_M_count_105 : decode cX12_count 105 = .ok (.getfield 9, 3) := by decide +kernel
theorem D_M_count_108 : decode cX12_count 108 = .ok (.iconst (3), 1) := by decide +kernel
theorem D_M_count_109 : decode cX12_count 109 = .ok (.iaload, 1) := by decide +kernel
theorem D_M_count_110 : decode cX12_count 110 = .ok (.ireturn, 1) := by decide +kernel
theorem D_M_count_111 : decode cX12_count 111 = .ok (.aload_n 0, 1) := by decide +kernel
theorem D_M_count_112 : decode cX12_count 112 = .ok (.getfield 198, 3) := by decide +kernel
theorem D_M_count_115 : decode cX12_count 115 = .ok (.ireturn, 1) := by decide +kernel
theorem D_M_count_116 : decode cX12_count 116 = .ok (.aload_n 0, 1) := by decide +kernel
theorem D_M_count_117 : decode cX12_count 117 = .ok (.getfield 112, 3) := by decide +kernel
theorem D_M_count_120 : decode cX12_count 120 = .ok (.ireturn, 1) := by decide +kernel
theorem D_M_count_121 : decode cX12_count 121 = .ok (.aload_n 0, 1) := by decide +kernel
theorem D_M_count_122 : decode cX12_count 122 = .ok (.getfield 22, 3) := by decide +kernel
theorem D_M_count_125 : decode cX12_count 125 = .ok (.iconst (0), 1) := by decide +kernel
theorem D_M_count_126 : decode cX12_count 126 = .ok (.baload, 1) := by decide +kernel
theorem D_M_count_127 : decode cX12_count 127 = .ok (.invokestatic 172, 3) := by decide +kernel
theorem D_M_count_130 : decode cX12_count 130 = .ok (.aload_n 0, 1) := by decide +kernel
theorem D_M_count_131 : decode cX12_count 131 = .ok (.getfield 22, 3) := by decide +kernel
theorem D_M_count_134 : decode cX12_count 134 = .ok (.iconst (1), 1) := by decide +kernel
theorem D_M_count_135 : decode cX12_count 135 = .ok (.baload, 1) := by decide +kernel
theorem D_M_count_136 : decode cX12_count 136 = .ok (.invokestatic 172, 3) := by decide +kernel
theorem D_M_count_139 : decode cX12_count 139 = .ok (.iconst (1), 1) := by decide +kernel
theorem D_M_count_140 : decode cX12_count 140 = .ok (.ishl, 1) := by decide +kernel
theorem D_M_count_141 : decode cX12_count 141 = .ok (.ior, 1) := by decide +kernel
theorem D_M_count_142 : decode cX12_count 142 = .ok (.ireturn, 1) := by decide +kernel
theorem D_M_count_143 : decode cX12_count 143 = .ok (.aload_n 0, 1) := by decide +kernel
theorem D_M_count_144 : decode cX12_count 144 = .ok (.invokevirtual 384, 3) := by decide +kernel
theorem D_M_count_147 : decode cX12_count 147 = .ok (.ireturn, 1) := by decide +kernel
theorem D_M_count_148 : decode cX12_count 148 = .ok (.iconst (-1), 1) := by decide +kernel
theorem D_M_count_149 : decode cX12_count 149 = .ok (.ireturn, 1) := by decide +kernel
def K_M_count : SC := (cX12_count, "TwoLevelsModel", 2, 6, false, [86], NoQ)
def d_M_count : MD Int32 := mth tt 2 (sSw (lI 1) [((rtn (eh2 (aI .int) (eh1 (gR 13 0) (lR 0)) (eC (nI 0)))), 60),
 ((rtn (eh2 (aI .int) (eh1 (gR 13 0) (lR 0)) (eC (nI 1)))), 67),
 ((rtn (kV 13 d_M_allChoices (lR 0) [])), 74),
 ((rtn (eh2 (aI .int) (eh1 (gR 13 0) (lR 0)) (eC (nI 1595)))), 79),
 ((rtn (eh2 (aI .int) (eh1 (gR 13 0) (lR 0)) (eC (nI 1584)))), 88),
 ((rtn (eh2 (aI .int) (eh1 (gR 13 0) (lR 0)) (eC (nI 2)))), 97),
 ((rtn (eh2 (aI .int) (eh1 (gR 13 0) (lR 0)) (eC (nI 3)))), 104),
 ((rtn (eh1 (gI 13 5) (lR 0))), 111),
 ((rtn (eh1 (gI 13 7) (lR 0))), 116),
 ((rtn (eh2 iorF (kS d_M_truth [vI (eh2 (aI .boolean) (eh1 (gR 13 4) (lR 0)) (eC (nI 0)))]) (eh2 ishlF (kS d_M_truth [vI (eh2 (aI .boolean) (eh1 (gR 13 4) (lR 0)) (eC (nI 1)))]) (eC (nI 1))))), 121),
 ((rtn (kV 13 d_M_lost (lR 0) [])), 143)]
 (rtn (eC (-1))))
theorem m_M_count : MJ 6 [86] yX12_count (some .int) eI (d_M_count) := MJ_of (K := K_M_count) (ri := .ireturn) (n1 := 0) (n2 := 0) (n3 := 0)
 (SJ_sw (p0 := 0) (p1 := 1) (pD := 148) (EJ_iload_n (j := 1) (i := 1) (pc := 0) D_M_count_0 rfl) D_M_count_1 (by decide) (fun j qq hq => match j, hq with | 0, hq => (by cases hq; exact ⟨⟨_, rfl, rfl⟩, (SJ_ret (p0 := 60) (p1 := 66) (EJ_iald (p0 := 60) (p1 := 64) (p2 := 65) (EJ_getR (t := 13) (c := 12) (kf := 0) (r := (RX12, TX12, 52)) (p0 := 60) (p1 := 61) (EJ_aload_n (j := 0) (i := 0) (pc := 60) D_M_count_60 rfl) D_M_count_61 ⟨rfl, rfl, by decide, q_932⟩ (fun _ _ => rfl)) (EJ_iconst (n := 0) (v := (nI 0)) (pc := 64) D_M_count_64 (by decide +kernel)) D_M_count_65) D_M_count_66)⟩) | 1, hq => (by cases hq; exact ⟨⟨_, rfl, rfl⟩, (SJ_ret (p0 := 67) (p1 := 73) (EJ_iald (p0 := 67) (p1 := 71) (p2 := 72) (EJ_getR (t := 13) (c := 12) (kf := 0) (r := (RX12, TX12, 52)) (p0 := 67) (p1 := 68) (EJ_aload_n (j := 0) (i := 0) (pc := 67) D_M_count_67 rfl) D_M_count_68 ⟨rfl, rfl, by decide, q_932⟩ (fun _ _ => rfl)) (EJ_iconst (n := 1) (v := (nI 1)) (pc := 71) D_M_count_71 (by decide +kernel)) D_M_count_72) D_M_count_73)⟩) | 2, hq => (by cases hq; exact ⟨⟨_, rfl, rfl⟩, (SJ_ret (p0 := 74) (p1 := 78) (EJ_callV (t := 13) (c := 12) (r := (RX12, TX12, 52)) (p0 := 74) (p1 := 75) (p2 := 75) (EJ_aload_n (j := 0) (i := 0) (pc := 74) D_M_count_74 rfl) AJ_nil m_M_allChoices E1_I D_M_count_75 rfl rfl rfl q_1353 q_1354 q_88 q_97 ⟨by decide +kernel, by decide +kernel, by decide +kernel⟩ (by decide) (show 3 + 1 ≤ 6 from by decide) (fun _ h => absurd h List.not_mem_nil)) D_M_count_78)⟩) | 3, hq => (by cases hq; exact ⟨⟨_, rfl, rfl⟩, (SJ_ret (p0 := 79) (p1 := 87) (EJ_iald (p0 := 79) (p1 := 83) (p2 := 86) (EJ_getR (t := 13) (c := 12) (kf := 0) (r := (RX12, TX12, 52)) (p0 := 79) (p1 := 80) (EJ_aload_n (j := 0) (i := 0) (pc := 79) D_M_count_79 rfl) D_M_count_80 ⟨rfl, rfl, by decide, q_932⟩ (fun _ _ => rfl)) (EJ_sipush (n := 1595) (v := (nI 1595)) (pc := 83) D_M_count_83 (by decide +kernel)) D_M_count_86) D_M_count_87)⟩) | 4, hq => (by cases hq; exact ⟨⟨_, rfl, rfl⟩, (SJ_ret (p0 := 88) (p1 := 96) (EJ_iald (p0 := 88) (p1 := 92) (p2 := 95) (EJ_getR (t := 13) (c := 12) (kf := 0) (r := (RX12, TX12, 52)) (p0 := 88) (p1 := 89) (EJ_aload_n (j := 0) (i := 0) (pc := 88) D_M_count_88 rfl) D_M_count_89 ⟨rfl, rfl, by decide, q_932⟩ (fun _ _ => rfl)) (EJ_sipush (n := 1584) (v := (nI 1584)) (pc := 92) D_M_count_92 (by decide +kernel)) D_M_count_95) D_M_count_96)⟩) | 5, hq => (by cases hq; exact ⟨⟨_, rfl, rfl⟩, (SJ_ret (p0 := 97) (p1 := 103) (EJ_iald (p0 := 97) (p1 := 101) (p2 := 102) (EJ_getR (t := 13) (c := 12) (kf := 0) (r := (RX12, TX12, 52)) (p0 := 97) (p1 := 98) (EJ_aload_n (j := 0) (i := 0) (pc := 97) D_M_count_97 rfl) D_M_count_98 ⟨rfl, rfl, by decide, q_932⟩ (fun _ _ => rfl)) (EJ_iconst (n := 2) (v := (nI 2)) (pc := 101) D_M_count_101 (by decide +kernel)) D_M_count_102) D_M_count_103)⟩) | 6, hq => (by cases hq; exact ⟨⟨_, rfl, rfl⟩, (SJ_ret (p0 := 104) (p1 := 110) (EJ_iald (p0 := 104) (p1 := 108) (p2 := 109) (EJ_getR (t := 13) (c := 12) (kf := 0) (r := (RX12, TX12, 52)) (p0 := 104) (p1 := 105) (EJ_aload_n (j := 0) (i := 0) (pc := 104) D_M_count_104 rfl) D_M_count_105 ⟨rfl, rfl, by decide, q_932⟩ (fun _ _ => rfl)) (EJ_iconst (n := 3) (v := (nI 3)) (pc := 108) D_M_count_108 (by decide +kernel)) D_M_count_109) D_M_count_110)⟩) | 7, hq => (by cases hq; exact ⟨⟨_, rfl, rfl⟩, (SJ_ret (p0 := 111) (p1 := 115) (EJ_getI (t := 13) (c := 12) (kf := 5) (r := (RX12, TX12, 52)) (p0 := 111) (p1 := 112) (EJ_aload_n (j := 0) (i := 0) (pc := 111) D_M_count_111 rfl) D_M_count_112 ⟨rfl, rfl, by decide, q_937⟩ (fun _ _ => rfl)) D_M_count_115)⟩) | 8, hq => (by cases hq; exact ⟨⟨_, rfl, rfl⟩, (SJ_ret (p0 := 116) (p1 := 120) (EJ_getI (t := 13) (c := 12) (kf := 7) (r := (RX12, TX12, 52)) (p0 := 116) (p1 := 117) (EJ_aload_n (j := 0) (i := 0) (pc := 116) D_M_count_116 rfl) D_M_count_117 ⟨rfl, rfl, by decide, q_939⟩ (fun _ _ => rfl)) D_M_count_120)⟩) | 9, hq => (by cases hq; exact ⟨⟨_, rfl, rfl⟩, (SJ_ret (p0 := 121) (p1 := 142) (EJ_ior (p0 := 121) (p1 := 130) (p2 := 141) (EJ_callS (p0 := 121) (p1 := 127) (AJ_I (p0 := 121) (p1 := 127) (p2 := 127) (EJ_zald (p0 := 121) (p1 := 125) (p2 := 126) (EJ_getR (t := 13) (c := 12) (kf := 4) (r := (RX12, TX12, 52)) (p0 := 121) (p1 := 122) (EJ_aload_n (j := 0) (i := 0) (pc := 121) D_M_count_121 rfl) D_M_count_122 ⟨rfl, rfl, by decide, q_936⟩ (fun _ _ => rfl)) (EJ_iconst (n := 0) (v := (nI 0)) (pc := 125) D_M_count_125 (by decide +kernel)) D_M_count_126) AJ_nil) m_M_truth E1_I D_M_count_127 q_1107 q_1108 q_97 ⟨by decide +kernel, by decide +kernel, by decide +kernel⟩ (by decide) (show 1 + 1 ≤ 6 from by decide) (fun _ h => absurd h List.not_mem_nil)) (EJ_ishl (p0 := 130) (p1 := 139) (p2 := 140) (EJ_callS (p0 := 130) (p1 := 136) (AJ_I (p0 := 130) (p1 := 136) (p2 := 136) (EJ_zald (p0 := 130) (p1 := 134) (p2 := 135) (EJ_getR (t := 13) (c := 12) (kf := 4) (r := (RX12, TX12, 52)) (p0 := 130) (p1 := 131) (EJ_aload_n (j := 0) (i := 0) (pc := 130) D_M_count_130 rfl) D_M_count_131 ⟨rfl, rfl, by decide, q_936⟩ (fun _ _ => rfl)) (EJ_iconst (n := 1) (v := (nI 1)) (pc := 134) D_M_count_134 (by decide +kernel)) D_M_count_135) AJ_nil) m_M_truth E1_I D_M_count_136 q_1107 q_1108 q_97 ⟨by decide +kernel, by decide +kernel, by decide +kernel⟩ (by decide) (show 1 + 1 ≤ 6 from by decide) (fun _ h => absurd h List.not_mem_nil)) (EJ_iconst (n := 1) (v := (nI 1)) (pc := 139) D_M_count_139 (by decide +kernel)) D_M_count_140) D_M_count_141) D_M_count_142)⟩) | 10, hq => (by cases hq; exact ⟨⟨_, rfl, rfl⟩, (SJ_ret (p0 := 143) (p1 := 147) (EJ_callV (t := 13) (c := 12) (r := (RX12, TX12, 52)) (p0 := 143) (p1 := 144) (p2 := 144) (EJ_aload_n (j := 0) (i := 0) (pc := 143) D_M_count_143 rfl) AJ_nil m_M_lost E1_I D_M_count_144 rfl rfl rfl q_1356 q_1357 q_89 q_97 ⟨by decide +kernel, by decide +kernel, by decide +kernel⟩ (by decide) (show 5 + 1 ≤ 6 from by decide) (show ∀ x_ ∈ ([86] : List Nat), x_ ∈ ([86] : List Nat) from by decide)) D_M_count_147)⟩) | (_ + 11), hq => by simp at hq) rfl (SJ_ret (p0 := 148) (p1 := 149) (EJ_iconst (n := -1) (v := (-1)) (pc := 148) D_M_count_148 (by decide +kernel)) D_M_count_149))
 RTm_int q_1352 (by decide +kernel) rfl (fun h => by cases h) (show 2 ≤ 40 from by decide) (fun _ => trivial)
theorem D_M_derives_0 : decode cX12_derives 0 = .ok (.aload_n 0, 1) := by decide +kernel
theorem D_M_derives_1 : decode cX12_derives 1 = .ok (.invokevirtual 375, 3) := by decide +kernel
theorem D_M_derives_4 : decode cX12_derives 4 = .ok (.aload_n 0, 1) := by decide +kernel
theorem D_M_derives_5 : decode cX12_derives 5 = .ok (.getfield 323, 3) := by decide +kernel
theorem D_M_derives_8 : decode cX12_derives 8 = .ok (.ifCond .eq (8), 3) := by decide +kernel
theorem D_M_derives_11 : decode cX12_derives 11 = .ok (.bipush (-3), 2) := by decide +kernel
theorem D_M_derives_13 : decode cX12_derives 13 = .ok (.goto (10), 3) := by decide +kernel
theorem D_M_derives_16 : decode cX12_derives 16 = .ok (.aload_n 0, 1) := by decide +kernel
theorem D_M_derives_17 : decode cX12_derives 17 = .ok (.getfield 372, 3) := by decide +kernel
theorem D_M_derives_20 : decode cX12_derives 20 = .ok (.invokestatic 172, 3) := by decide +kernel
theorem D_M_derives_23 : decode cX12_derives 23 = .ok (.ireturn, 1) := by decide +kernel
def K_M_derives : SC := (cX12_derives, "TwoLevelsModel", 1, 209, false, [13, 79, 80, 81, 82, 83, 84, 85, 87, 88, 89, 92, 93, 94, 95, 96, 97, 98, 99, 100, 101], NoQ)
def d_M_derives : MD Int32 := mth tt 1 (sq (sE (kV 13 d_M_searchesText (lR 0) []))
 (rtn (eIf (eh1 z_ne (eh1 (gI 13 37) (lR 0))) (eC (-3)) (kS d_M_truth [vI (eh1 (gI 13 51) (lR 0))]))))
theorem m_M_derives : MJ 209 [13, 79, 80, 81, 82, 83, 84, 85, 87, 88, 89, 92, 93, 94, 95, 96, 97, 98, 99, 100, 101] yX12_derives (some .int) eI (d_M_derives) := MJ_of (K := K_M_derives) (ri := .ireturn) (n1 := 0) (n2 := 0) (n3 := 0)
 (SJ_sq (p0 := 0) (p1 := 4) (nN := 0) (nB := 0) (nC := 0) (SJ_void (p0 := 0) (p1 := 4) (EJ_callV (t := 13) (c := 12) (r := (RX12, TX12, 52)) (p0 := 0) (p1 := 1) (p2 := 1) (EJ_aload_n (j := 0) (i := 0) (pc := 0) D_M_derives_0 rfl) AJ_nil m_M_searchesText E1_U D_M_derives_1 rfl rfl rfl q_1319 q_1320 q_86 q_97 ⟨by decide +kernel, by decide +kernel, by decide +kernel⟩ (by decide) (show 208 + 1 ≤ 209 from by decide) (show ∀ x_ ∈ ([13, 79, 80, 81, 82, 83, 84, 85, 87, 88, 89, 92, 93, 94, 95, 96, 97, 98, 99, 100, 101] : List Nat), x_ ∈ ([13, 79, 80, 81, 82, 83, 84, 85, 87, 88, 89, 92, 93, 94, 95, 96, 97, 98, 99, 100, 101] : List Nat) from by decide)))
 (SJ_ret (p0 := 4) (p1 := 23) (EJ_if (p0 := 4) (pT := 11) (pF := 16) (pE := 13) (p1 := 23) (CZ_ne' (off := 8) (tgt := 16) (p0 := 4) (p1 := 8) (EJ_getI (t := 13) (c := 12) (kf := 37) (r := (RX12, TX12, 52)) (p0 := 4) (p1 := 5) (EJ_aload_n (j := 0) (i := 0) (pc := 4) D_M_derives_4 rfl) D_M_derives_5 ⟨rfl, rfl, by decide, q_969⟩ (fun _ _ => rfl)) D_M_derives_8 rfl) (EJ_bipush (n := -3) (v := (-3)) (pc := 11) D_M_derives_11 (by decide +kernel)) (Lead.goto (K := K_M_derives) (pc := 13) (tgt := 23) D_M_derives_13 rfl) (EJ_callS (p0 := 16) (p1 := 20) (AJ_I (p0 := 16) (p1 := 20) (p2 := 20) (EJ_getI (t := 13) (c := 12) (kf := 51) (r := (RX12, TX12, 52)) (p0 := 16) (p1 := 17) (EJ_aload_n (j := 0) (i := 0) (pc := 16) D_M_derives_16 rfl) D_M_derives_17 ⟨rfl, rfl, by decide, q_983⟩ (fun _ _ => rfl)) AJ_nil) m_M_truth E1_I D_M_derives_20 q_1107 q_1108 q_97 ⟨by decide +kernel, by decide +kernel, by decide +kernel⟩ (by decide) (show 1 + 1 ≤ 209 from by decide) (fun _ h => absurd h List.not_mem_nil))) D_M_derives_23))
 RTm_int q_1318 (by decide +kernel) rfl (fun h => by cases h) (show 1 ≤ 40 from by decide) (fun _ => trivial)
theorem D_M_keepsPast_0 : decode cX12_keepsPast 0 = .ok (.aload_n 0, 1) := by decide +kernel
theorem D_M_keepsPast_1 : decode cX12_keepsPast 1 = .ok (.getfield 198, 3) := by decide +kernel
theorem D_M_keepsPast_4 : decode cX12_keepsPast 4 = .ok (.bipush (10), 2) := by decide +kernel
theorem D_M_keepsPast_6 : decode cX12_keepsPast 6 = .ok (.if_icmp .ne (46), 3) := by decide +kernel
theorem D_M_keepsPast_9 : decode cX12_keepsPast 9 = .ok (.sipush (1584), 3) := by decide +kernel
theorem D_M_keepsPast_12 : decode cX12_keepsPast 12 = .ok (.istore_n 1, 1) := by decide +kernel
theorem D_M_keepsPast_13 : decode cX12_keepsPast 13 = .ok (.iload_n 1, 1) := by decide +kernel
theorem D_M_keepsPast_14 : decode cX12_keepsPast 14 = .ok (.sipush (15840), 3) := by decide +kernel
theorem D_M_keepsPast_17 : decode cX12_keepsPast 17 = .ok (.if_icmp .ge (25), 3) := by decide +kernel
theorem D_M_keepsPast_20 : decode cX12_keepsPast 20 = .ok (.aload_n 0, 1) := by decide +kernel
theorem D_M_keepsPast_21 : decode cX12_keepsPast 21 = .ok (.getfield 16, 3) := by decide +kernel
theorem D_M_keepsPast_24 : decode cX12_keepsPast 24 = .ok (.iload_n 1, 1) := by decide +kernel
theorem D_M_keepsPast_25 : decode cX12_keepsPast 25 = .ok (.sipush (1584), 3) := by decide +kernel
theorem D_M_keepsPast_28 : decode cX12_keepsPast 28 = .ok (.isub, 1) := by decide +kernel
theorem D_M_keepsPast_29 : decode cX12_keepsPast 29 = .ok (.aload_n 0, 1) := by decide +kernel
theorem D_M_keepsPast_30 : decode cX12_keepsPast 30 = .ok (.getfield 16, 3) := by decide +kernel
theorem D_M_keepsPast_33 : decode cX12_keepsPast 33 = .ok (.iload_n 1, 1) := by decide +kernel
theorem D_M_keepsPast_34 : decode cX12_keepsPast 34 = .ok (.iaload, 1) := by decide +kernel
theorem D_M_keepsPast_35 : decode cX12_keepsPast 35 = .ok (.iastore, 1) := by decide +kernel
theorem D_M_keepsPast_36 : decode cX12_keepsPast 36 = .ok (.iinc 1 (1), 3) := by decide +kernel
theorem D_M_keepsPast_39 : decode cX12_keepsPast 39 = .ok (.goto (-26), 3) := by decide +kernel
theorem D_M_keepsPast_42 : decode cX12_keepsPast 42 = .ok (.aload_n 0, 1) := by decide +kernel
theorem D_M_keepsPast_43 : decode cX12_keepsPast 43 = .ok (.dup, 1) := by decide +kernel
theorem D_M_keepsPast_44 : decode cX12_keepsPast 44 = .ok (.getfield 198, 3) := by decide +kernel
theorem D_M_keepsPast_47 : decode cX12_keepsPast 47 = .ok (.iconst (1), 1) := by decide +kernel
theorem D_M_keepsPast_48 : decode cX12_keepsPast 48 = .ok (.isub, 1) := by decide +kernel
theorem D_M_keepsPast_49 : decode cX12_keepsPast 49 = .ok (.putfield 198, 3) := by decide +kernel
theorem D_M_keepsPast_52 : decode cX12_keepsPast 52 = .ok (.aload_n 0, 1) := by decide +kernel
theorem D_M_keepsPast_53 : decode cX12_keepsPast 53 = .ok (.getfield 9, 3) := by decide +kernel
theorem D_M_keepsPast_56 : decode cX12_keepsPast 56 = .ok (.iconst (0), 1) := by decide +kernel
theorem D_M_keepsPast_57 : decode cX12_keepsPast 57 = .ok (.aload_n 0, 1) := by decide +kernel
theorem D_M_keepsPast_58 : decode cX12_keepsPast 58 = .ok (.getfield 16, 3) := by decide +kernel
theorem D_M_keepsPast_61 : decode cX12_keepsPast 61 = .ok (.sipush (1584), 3) := by decide +kernel
theorem D_M_keepsPast_64 : decode cX12_keepsPast 64 = .ok (.aload_n 0, 1) := by decide +kernel
theorem D_M_keepsPast_65 : decode cX12_keepsPast 65 = .ok (.getfield 198, 3) := by decide +kernel
theorem D_M_keepsPast_68 : decode cX12_keepsPast 68 = .ok (.imul, 1) := by decide +kernel
theorem D_M_keepsPast_69 : decode cX12_keepsPast 69 = .ok (.sipush (1584), 3) := by decide +kernel
theorem D_M_keepsPast_72 : decode cX12_keepsPast 72 = .ok (.invokestatic 179, 3) := by decide +kernel
theorem D_M_keepsPast_75 : decode cX12_keepsPast 75 = .ok (.aload_n 0, 1) := by decide +kernel
theorem D_M_keepsPast_76 : decode cX12_keepsPast 76 = .ok (.dup, 1) := by decide +kernel
theorem D_M_keepsPast_77 : decode cX12_keepsPast 77 = .ok (.getfield 198, 3) := by decide +kernel
theorem D_M_keepsPast_80 : decode cX12_keepsPast 80 = .ok (.iconst (1), 1) := by decide +kernel
theorem D_M_keepsPast_81 : decode cX12_keepsPast 81 = .ok (.iadd, 1) := by decide +kernel
theorem D_M_keepsPast_82 : decode cX12_keepsPast 82 = .ok (.putfield 198, 3) := by decide +kernel
theorem D_M_keepsPast_85 : decode cX12_keepsPast 85 = .ok (.aload_n 0, 1) := by decide +kernel
theorem D_M_keepsPast_86 : decode cX12_keepsPast 86 = .ok (.invokevirtual 201, 3) := by decide +kernel
theorem D_M_keepsPast_89 : decode cX12_keepsPast 89 = .ok (.return_, 1) := by decide +kernel
def K_M_keepsPast : SC := (cX12_keepsPast, "TwoLevelsModel", 2, 2, false, [13, 70, 71, 72, 73], NoQ)
def d_M_keepsPast : MD Unit := mth tt 2 (sq (sIf (eh2 c_eq (eh1 (gI 13 5) (lR 0)) (eC (nI 10))) (sq (sq (sI1 1 (eC (nI 1584)))
 (loop (eh2 c_lt (lI 1) (eC (nI 15840)))
 (sh3 (stI [72]) (eh1 (gR 13 2) (lR 0)) (eh2 isubF (lI 1) (eC (nI 1584))) (eh2 (aI .int) (eh1 (gR 13 2) (lR 0)) (lI 1)))
 (sInc 1 (nI 1))))
 (su2 (gI 13 5) (uF false 13 5 (fun x y => x - y)) (lR 0) (eC (nI 1)))) sk)
 (sq (sE (kS d_M_moves [vR (eh1 (gR 13 0) (lR 0)), vI (eC (nI 0)), vR (eh1 (gR 13 2) (lR 0)), vI (eh2 imulF (eC (nI 1584)) (eh1 (gI 13 5) (lR 0))), vI (eC (nI 1584))]))
 (sq (su2 (gI 13 5) (uF false 13 5 (fun x y => x + y)) (lR 0) (eC (nI 1)))
 (sq (sE (kV 13 d_M_changes (lR 0) []))
 rtnU))))
theorem m_M_keepsPast : MJ 2 [13, 70, 71, 72, 73] yX12_keepsPast none eU (d_M_keepsPast) := MJ_of (K := K_M_keepsPast) (ri := .return_) (n1 := 0) (n2 := 0) (n3 := 0)
 (SJ_sq (p0 := 0) (p1 := 52) (nN := 0) (nB := 0) (nC := 0) (SJ_if (p0 := 0) (pT := 9) (pF := 52) (nN := 52) (nB := 0) (nC := 0) (CJ_eq' (off := 46) (tgt := 52) (p0 := 0) (p1 := 4) (p2 := 6) (EJ_getI (t := 13) (c := 12) (kf := 5) (r := (RX12, TX12, 52)) (p0 := 0) (p1 := 1) (EJ_aload_n (j := 0) (i := 0) (pc := 0) D_M_keepsPast_0 rfl) D_M_keepsPast_1 ⟨rfl, rfl, by decide, q_937⟩ (fun _ _ => rfl)) (EJ_bipush (n := 10) (v := (nI 10)) (pc := 4) D_M_keepsPast_4 (by decide +kernel)) D_M_keepsPast_6 rfl) (SJ_sq (p0 := 9) (p1 := 42) (nN := 52) (nB := 0) (nC := 0) (SJ_sq (p0 := 9) (p1 := 13) (nN := 42) (nB := 0) (nC := 0) (SJ_istore_n (i := 1) (j := 1) (p0 := 9) (p1 := 12) (EJ_sipush (n := 1584) (v := (nI 1584)) (pc := 9) D_M_keepsPast_9 (by decide +kernel)) D_M_keepsPast_12 rfl)
 (SJ_loop (p0 := 13) (pB := 20) (pS := 36) (pE := 42) (CJ_lt' (off := 25) (tgt := 42) (p0 := 13) (p1 := 14) (p2 := 17) (EJ_iload_n (j := 1) (i := 1) (pc := 13) D_M_keepsPast_13 rfl) (EJ_sipush (n := 15840) (v := (nI 15840)) (pc := 14) D_M_keepsPast_14 (by decide +kernel)) D_M_keepsPast_17 rfl)
 (SJ_iast (ws := [72]) (p0 := 20) (p1 := 24) (p2 := 29) (p3 := 35) (EJ_getR (t := 13) (c := 12) (kf := 2) (r := (RX12, TX12, 52)) (p0 := 20) (p1 := 21) (EJ_aload_n (j := 0) (i := 0) (pc := 20) D_M_keepsPast_20 rfl) D_M_keepsPast_21 ⟨rfl, rfl, by decide, q_934⟩ (fun _ _ => rfl)) (EJ_isub (p0 := 24) (p1 := 25) (p2 := 28) (EJ_iload_n (j := 1) (i := 1) (pc := 24) D_M_keepsPast_24 rfl) (EJ_sipush (n := 1584) (v := (nI 1584)) (pc := 25) D_M_keepsPast_25 (by decide +kernel)) D_M_keepsPast_28) (EJ_iald (p0 := 29) (p1 := 33) (p2 := 34) (EJ_getR (t := 13) (c := 12) (kf := 2) (r := (RX12, TX12, 52)) (p0 := 29) (p1 := 30) (EJ_aload_n (j := 0) (i := 0) (pc := 29) D_M_keepsPast_29 rfl) D_M_keepsPast_30 ⟨rfl, rfl, by decide, q_934⟩ (fun _ _ => rfl)) (EJ_iload_n (j := 1) (i := 1) (pc := 33) D_M_keepsPast_33 rfl) D_M_keepsPast_34) D_M_keepsPast_35 (show ∀ x_ ∈ ([72] : List Nat), x_ ∈ ([13, 70, 71, 72, 73] : List Nat) from by decide))
 (SJ_post (SJ_iinc (i := 1) (n := 1) (v := (nI 1)) (pc := 36) D_M_keepsPast_36 (by decide +kernel)) (Lead.goto (K := K_M_keepsPast) (pc := 39) (tgt := 13) D_M_keepsPast_39 rfl))))
 (SJ_upF (z := false) (t := 13) (c := 12) (kf := 5) (r := (RX12, TX12, 52)) (f := (fun x y => x - y)) (p0 := 42) (p1 := 43) (p3 := 48) (EJ_aload_n (j := 0) (i := 0) (pc := 42) D_M_keepsPast_42 rfl) D_M_keepsPast_43 D_M_keepsPast_44 (EJ_iconst (n := 1) (v := (nI 1)) (pc := 47) D_M_keepsPast_47 (by decide +kernel)) (Op2_isub D_M_keepsPast_48) D_M_keepsPast_49 ⟨rfl, rfl, by decide, q_937⟩ ⟨rfl, rfl, by decide, q_937⟩ (Or.inl rfl) (fun _ _ => ⟨rfl, rfl⟩) (fun _ _ => rfl) (show (13 : Nat) ∈ ([13, 70, 71, 72, 73] : List Nat) from by decide))) SJ_sk)
 (SJ_sq (p0 := 52) (p1 := 75) (nN := 0) (nB := 0) (nC := 0) (SJ_void (p0 := 52) (p1 := 75) (EJ_callS (p0 := 52) (p1 := 72) (AJ_R (p0 := 52) (p1 := 56) (p2 := 72) (EJ_getR (t := 13) (c := 12) (kf := 0) (r := (RX12, TX12, 52)) (p0 := 52) (p1 := 53) (EJ_aload_n (j := 0) (i := 0) (pc := 52) D_M_keepsPast_52 rfl) D_M_keepsPast_53 ⟨rfl, rfl, by decide, q_932⟩ (fun _ _ => rfl)) (AJ_I (p0 := 56) (p1 := 57) (p2 := 72) (EJ_iconst (n := 0) (v := (nI 0)) (pc := 56) D_M_keepsPast_56 (by decide +kernel)) (AJ_R (p0 := 57) (p1 := 61) (p2 := 72) (EJ_getR (t := 13) (c := 12) (kf := 2) (r := (RX12, TX12, 52)) (p0 := 57) (p1 := 58) (EJ_aload_n (j := 0) (i := 0) (pc := 57) D_M_keepsPast_57 rfl) D_M_keepsPast_58 ⟨rfl, rfl, by decide, q_934⟩ (fun _ _ => rfl)) (AJ_I (p0 := 61) (p1 := 69) (p2 := 72) (EJ_imul (p0 := 61) (p1 := 64) (p2 := 68) (EJ_sipush (n := 1584) (v := (nI 1584)) (pc := 61) D_M_keepsPast_61 (by decide +kernel)) (EJ_getI (t := 13) (c := 12) (kf := 5) (r := (RX12, TX12, 52)) (p0 := 64) (p1 := 65) (EJ_aload_n (j := 0) (i := 0) (pc := 64) D_M_keepsPast_64 rfl) D_M_keepsPast_65 ⟨rfl, rfl, by decide, q_937⟩ (fun _ _ => rfl)) D_M_keepsPast_68) (AJ_I (p0 := 69) (p1 := 72) (p2 := 72) (EJ_sipush (n := 1584) (v := (nI 1584)) (pc := 69) D_M_keepsPast_69 (by decide +kernel)) AJ_nil))))) m_M_moves E1_U D_M_keepsPast_72 q_1098 q_1099 q_97 ⟨by decide +kernel, by decide +kernel, by decide +kernel⟩ (by decide) (show 1 + 1 ≤ 2 from by decide) (show ∀ x_ ∈ ([70, 71, 72, 73] : List Nat), x_ ∈ ([13, 70, 71, 72, 73] : List Nat) from by decide)))
 (SJ_sq (p0 := 75) (p1 := 85) (nN := 0) (nB := 0) (nC := 0) (SJ_upF (z := false) (t := 13) (c := 12) (kf := 5) (r := (RX12, TX12, 52)) (f := (fun x y => x + y)) (p0 := 75) (p1 := 76) (p3 := 81) (EJ_aload_n (j := 0) (i := 0) (pc := 75) D_M_keepsPast_75 rfl) D_M_keepsPast_76 D_M_keepsPast_77 (EJ_iconst (n := 1) (v := (nI 1)) (pc := 80) D_M_keepsPast_80 (by decide +kernel)) (Op2_iadd D_M_keepsPast_81) D_M_keepsPast_82 ⟨rfl, rfl, by decide, q_937⟩ ⟨rfl, rfl, by decide, q_937⟩ (Or.inl rfl) (fun _ _ => ⟨rfl, rfl⟩) (fun _ _ => rfl) (show (13 : Nat) ∈ ([13, 70, 71, 72, 73] : List Nat) from by decide))
 (SJ_sq (p0 := 85) (p1 := 89) (nN := 0) (nB := 0) (nC := 0) (SJ_void (p0 := 85) (p1 := 89) (EJ_callV (t := 13) (c := 12) (r := (RX12, TX12, 52)) (p0 := 85) (p1 := 86) (p2 := 86) (EJ_aload_n (j := 0) (i := 0) (pc := 85) D_M_keepsPast_85 rfl) AJ_nil m_M_changes E1_U D_M_keepsPast_86 rfl rfl rfl q_1113 q_1114 q_52 q_97 ⟨by decide +kernel, by decide +kernel, by decide +kernel⟩ (by decide) (show 1 + 1 ≤ 2 from by decide) (show ∀ x_ ∈ ([13] : List Nat), x_ ∈ ([13, 70, 71, 72, 73] : List Nat) from by decide)))
 (SJ_retU (pc := 89) D_M_keepsPast_89)))))
 RTm_void q_1145 (by decide +kernel) rfl (fun h => by cases h) (show 2 ≤ 40 from by decide) (fun _ => trivial)
theorem D_M_drop_0 : decode cX12_drop 0 = .ok (.aload_n 0, 1) := by decide +kernel
theorem D_M_drop_1 : decode cX12_drop 1 = .ok (.iload_n 1, 1) := by decide +kernel
theorem D_M_drop_2 : decode cX12_drop 2 = .ok (.invokevirtual 217, 3) := by decide +kernel
theorem D_M_drop_5 : decode cX12_drop 5 = .ok (.ifCond .ne (5), 3) := by decide +kernel
theorem D_M_drop_8 : decode cX12_drop 8 = .ok (.iconst (-1), 1) := by decide +kernel
theorem D_M_drop_9 : decode cX12_drop 9 = .ok (.ireturn, 1) := by decide +kernel
theorem D_M_drop_10 : decode cX12_drop 10 = .ok (.aload_n 0, 1) := by decide +kernel
theorem D_M_drop_11 : decode cX12_drop 11 = .ok (.invokevirtual 214, 3) := by decide +kernel
theorem D_M_drop_14 : decode cX12_drop 14 = .ok (.sipush (184), 3) := by decide +kernel
theorem D_M_drop_17 : decode cX12_drop 17 = .ok (.sipush (140), 3) := by decide +kernel
theorem D_M_drop_20 : decode cX12_drop 20 = .ok (.iload_n 1, 1) := by decide +kernel
theorem D_M_drop_21 : decode cX12_drop 21 = .ok (.imul, 1) := by decide +kernel
theorem D_M_drop_22 : decode cX12_drop 22 = .ok (.iadd, 1) := by decide +kernel
theorem D_M_drop_23 : decode cX12_drop 23 = .ok (.istore_n 2, 1) := by decide +kernel
theorem D_M_drop_24 : decode cX12_drop 24 = .ok (.iload_n 2, 1) := by decide +kernel
theorem D_M_drop_25 : decode cX12_drop 25 = .ok (.sipush (1444), 3) := by decide +kernel
theorem D_M_drop_28 : decode cX12_drop 28 = .ok (.if_icmp .ge (25), 3) := by decide +kernel
theorem D_M_drop_31 : decode cX12_drop 31 = .ok (.aload_n 0, 1) := by decide +kernel
theorem D_M_drop_32 : decode cX12_drop 32 = .ok (.getfield 9, 3) := by decide +kernel
theorem D_M_drop_35 : decode cX12_drop 35 = .ok (.iload_n 2, 1) := by decide +kernel
theorem D_M_drop_36 : decode cX12_drop 36 = .ok (.aload_n 0, 1) := by decide +kernel
theorem D_M_drop_37 : decode cX12_drop 37 = .ok (.getfield 9, 3) := by decide +kernel
theorem D_M_drop_40 : decode cX12_drop 40 = .ok (.iload_n 2, 1) := by decide +kernel
theorem D_M_drop_41 : decode cX12_drop 41 = .ok (.sipush (140), 3) := by decide +kernel
theorem D_M_drop_44 : decode cX12_drop 44 = .ok (.iadd, 1) := by decide +kernel
theorem D_M_drop_45 : decode cX12_drop 45 = .ok (.iaload, 1) := by decide +kernel
theorem D_M_drop_46 : decode cX12_drop 46 = .ok (.iastore, 1) := by decide +kernel
theorem D_M_drop_47 : decode cX12_drop 47 = .ok (.iinc 2 (1), 3) := by decide +kernel
theorem D_M_drop_50 : decode cX12_drop 50 = .ok (.goto (-26), 3) := by decide +kernel
theorem D_M_drop_53 : decode cX12_drop 53 = .ok (.aload_n 0, 1) := by decide +kernel
theorem D_M_drop_54 : decode cX12_drop 54 = .ok (.getfield 9, 3) := by decide +kernel
theorem D_M_drop_57 : decode cX12_drop 57 = .ok (.iconst (1), 1) := by decide +kernel
theorem D_M_drop_58 : decode cX12_drop 58 = .ok (.dup2, 1) := by decide +kernel
theorem D_M_drop_59 : decode cX12_drop 59 = .ok (.iaload, 1) := by decide +kernel
theorem D_M_drop_60 : decode cX12_drop 60 = .ok (.iconst (1), 1) := by decide +kernel
theorem D_M_drop_61 : decode cX12_drop 61 = .ok (.isub, 1) := by decide +kernel
theorem D_M_drop_62 : decode cX12_drop 62 = .ok (.iastore, 1) := by decide +kernel
theorem D_M_drop_63 : decode cX12_drop 63 = .ok (.aload_n 0, 1) := by decide +kernel
theorem D_M_drop_64 : decode cX12_drop 64 = .ok (.getfield 9, 3) := by decide +kernel
theorem D_M_drop_67 : decode cX12_drop 67 = .ok (.iconst (1), 1) := by decide +kernel
theorem D_M_drop_68 : decode cX12_drop 68 = .ok (.iaload, 1) := by decide +kernel
theorem D_M_drop_69 : decode cX12_drop 69 = .ok (.ireturn, 1) := by decide +kernel
def K_M_drop : SC := (cX12_drop, "TwoLevelsModel", 3, 3, false, [13, 70, 71, 72, 73], NoQ)
def d_M_drop : MD Int32 := mth tt 3 (sq (sIf (cNot (eh1 z_ne (kV 13 d_M_isRule (lR 0) [vI (lI 1)]))) (rtn (eC (-1))) sk)
 (sq (sE (kV 13 d_M_keepsPast (lR 0) []))
 (sq (sq (sI1 2 (eh2 iaddF (eC (nI 184)) (eh2 imulF (eC (nI 140)) (lI 1))))
 (loop (eh2 c_lt (lI 2) (eC (nI 1444)))
 (sh3 (stI [70]) (eh1 (gR 13 0) (lR 0)) (lI 2) (eh2 (aI .int) (eh1 (gR 13 0) (lR 0)) (eh2 iaddF (lI 2) (eC (nI 140)))))
 (sInc 2 (nI 1))))
 (sq (su3 (aI .int) (uA [70] (fun x y => x - y)) (eh1 (gR 13 0) (lR 0)) (eC (nI 1)) (eC (nI 1)))
 (rtn (eh2 (aI .int) (eh1 (gR 13 0) (lR 0)) (eC (nI 1))))))))
theorem m_M_drop : MJ 3 [13, 70, 71, 72, 73] yX12_drop (some .int) eI (d_M_drop) := MJ_of (K := K_M_drop) (ri := .ireturn) (n1 := 0) (n2 := 0) (n3 := 0)
 (SJ_sq (p0 := 0) (p1 := 10) (nN := 0) (nB := 0) (nC := 0) (SJ_if (p0 := 0) (pT := 8) (pF := 10) (nN := 10) (nB := 0) (nC := 0) (CJ_not (p0 := 0) (pT := 8) (pF := 10) (CZ_ne (off := 5) (tgt := 10) (p0 := 0) (p1 := 5) (EJ_callV (t := 13) (c := 12) (r := (RX12, TX12, 52)) (p0 := 0) (p1 := 1) (p2 := 2) (EJ_aload_n (j := 0) (i := 0) (pc := 0) D_M_drop_0 rfl) (AJ_I (p0 := 1) (p1 := 2) (p2 := 2) (EJ_iload_n (j := 1) (i := 1) (pc := 1) D_M_drop_1 rfl) AJ_nil) m_M_isRule E1_I D_M_drop_2 rfl rfl rfl q_1150 q_1151 q_55 q_97 ⟨by decide +kernel, by decide +kernel, by decide +kernel⟩ (by decide) (show 2 + 1 ≤ 3 from by decide) (fun _ h => absurd h List.not_mem_nil)) D_M_drop_5 rfl)) (SJ_ret (p0 := 8) (p1 := 9) (EJ_iconst (n := -1) (v := (-1)) (pc := 8) D_M_drop_8 (by decide +kernel)) D_M_drop_9) SJ_sk)
 (SJ_sq (p0 := 10) (p1 := 14) (nN := 0) (nB := 0) (nC := 0) (SJ_void (p0 := 10) (p1 := 14) (EJ_callV (t := 13) (c := 12) (r := (RX12, TX12, 52)) (p0 := 10) (p1 := 11) (p2 := 11) (EJ_aload_n (j := 0) (i := 0) (pc := 10) D_M_drop_10 rfl) AJ_nil m_M_keepsPast E1_U D_M_drop_11 rfl rfl rfl q_1143 q_1144 q_54 q_97 ⟨by decide +kernel, by decide +kernel, by decide +kernel⟩ (by decide) (show 2 + 1 ≤ 3 from by decide) (show ∀ x_ ∈ ([13, 70, 71, 72, 73] : List Nat), x_ ∈ ([13, 70, 71, 72, 73] : List Nat) from by decide)))
 (SJ_sq (p0 := 14) (p1 := 53) (nN := 0) (nB := 0) (nC := 0) (SJ_sq (p0 := 14) (p1 := 24) (nN := 53) (nB := 0) (nC := 0) (SJ_istore_n (i := 2) (j := 2) (p0 := 14) (p1 := 23) (EJ_iadd (p0 := 14) (p1 := 17) (p2 := 22) (EJ_sipush (n := 184) (v := (nI 184)) (pc := 14) D_M_drop_14 (by decide +kernel)) (EJ_imul (p0 := 17) (p1 := 20) (p2 := 21) (EJ_sipush (n := 140) (v := (nI 140)) (pc := 17) D_M_drop_17 (by decide +kernel)) (EJ_iload_n (j := 1) (i := 1) (pc := 20) D_M_drop_20 rfl) D_M_drop_21) D_M_drop_22) D_M_drop_23 rfl)
 (SJ_loop (p0 := 24) (pB := 31) (pS := 47) (pE := 53) (CJ_lt' (off := 25) (tgt := 53) (p0 := 24) (p1 := 25) (p2 := 28) (EJ_iload_n (j := 2) (i := 2) (pc := 24) D_M_drop_24 rfl) (EJ_sipush (n := 1444) (v := (nI 1444)) (pc := 25) D_M_drop_25 (by decide +kernel)) D_M_drop_28 rfl)
 (SJ_iast (ws := [70]) (p0 := 31) (p1 := 35) (p2 := 36) (p3 := 46) (EJ_getR (t := 13) (c := 12) (kf := 0) (r := (RX12, TX12, 52)) (p0 := 31) (p1 := 32) (EJ_aload_n (j := 0) (i := 0) (pc := 31) D_M_drop_31 rfl) D_M_drop_32 ⟨rfl, rfl, by decide, q_932⟩ (fun _ _ => rfl)) (EJ_iload_n (j := 2) (i := 2) (pc := 35) D_M_drop_35 rfl) (EJ_iald (p0 := 36) (p1 := 40) (p2 := 45) (EJ_getR (t := 13) (c := 12) (kf := 0) (r := (RX12, TX12, 52)) (p0 := 36) (p1 := 37) (EJ_aload_n (j := 0) (i := 0) (pc := 36) D_M_drop_36 rfl) D_M_drop_37 ⟨rfl, rfl, by decide, q_932⟩ (fun _ _ => rfl)) (EJ_iadd (p0 := 40) (p1 := 41) (p2 := 44) (EJ_iload_n (j := 2) (i := 2) (pc := 40) D_M_drop_40 rfl) (EJ_sipush (n := 140) (v := (nI 140)) (pc := 41) D_M_drop_41 (by decide +kernel)) D_M_drop_44) D_M_drop_45) D_M_drop_46 (show ∀ x_ ∈ ([70] : List Nat), x_ ∈ ([13, 70, 71, 72, 73] : List Nat) from by decide))
 (SJ_post (SJ_iinc (i := 2) (n := 1) (v := (nI 1)) (pc := 47) D_M_drop_47 (by decide +kernel)) (Lead.goto (K := K_M_drop) (pc := 50) (tgt := 24) D_M_drop_50 rfl))))
 (SJ_sq (p0 := 53) (p1 := 63) (nN := 0) (nB := 0) (nC := 0) (SJ_upA (ws := [70]) (f := (fun x y => x - y)) (p0 := 53) (p1 := 57) (p2 := 58) (p4 := 61) (EJ_getR (t := 13) (c := 12) (kf := 0) (r := (RX12, TX12, 52)) (p0 := 53) (p1 := 54) (EJ_aload_n (j := 0) (i := 0) (pc := 53) D_M_drop_53 rfl) D_M_drop_54 ⟨rfl, rfl, by decide, q_932⟩ (fun _ _ => rfl)) (EJ_iconst (n := 1) (v := (nI 1)) (pc := 57) D_M_drop_57 (by decide +kernel)) D_M_drop_58 D_M_drop_59 (EJ_iconst (n := 1) (v := (nI 1)) (pc := 60) D_M_drop_60 (by decide +kernel)) (Op2_isub D_M_drop_61) D_M_drop_62 (show ∀ x_ ∈ ([70] : List Nat), x_ ∈ ([13, 70, 71, 72, 73] : List Nat) from by decide))
 (SJ_ret (p0 := 63) (p1 := 69) (EJ_iald (p0 := 63) (p1 := 67) (p2 := 68) (EJ_getR (t := 13) (c := 12) (kf := 0) (r := (RX12, TX12, 52)) (p0 := 63) (p1 := 64) (EJ_aload_n (j := 0) (i := 0) (pc := 63) D_M_drop_63 rfl) D_M_drop_64 ⟨rfl, rfl, by decide, q_932⟩ (fun _ _ => rfl)) (EJ_iconst (n := 1) (v := (nI 1)) (pc := 67) D_M_drop_67 (by decide +kernel)) D_M_drop_68) D_M_drop_69)))))
 RTm_int q_1149 (by decide +kernel) rfl (fun h => by cases h) (show 3 ≤ 40 from by decide) (fun _ => trivial)
theorem D_M_end_0 : decode cX12_end 0 = .ok (.iload_n 1, 1) := by decide +kernel
theorem D_M_end_1 : decode cX12_end 1 = .ok (.ifCond .lt (11), 3) := by decide +kernel
theorem D_M_end_4 : decode cX12_end 4 = .ok (.iload_n 1, 1) := by decide +kernel
theorem D_M_end_5 : decode cX12_end 5 = .ok (.aload_n 0, 1) := by decide +kernel
theorem D_M_end_6 : decode cX12_end 6 = .ok (.getfield 112, 3) := by decide +kernel
theorem D_M_end_9 : decode cX12_end 9 = .ok (.if_icmp .le (5), 3) := by decide +kernel
theorem D_M_end_12 : decode cX12_end 12 = .ok (.iconst (-1), 1) := by decide +kernel
theorem D_M_end_13 : decode cX12_end 13 = .ok (.ireturn, 1) := by decide +kernel
theorem D_M_end_14 : decode cX12_end 14 = .ok (.aload_n 0, 1) := by decide +kernel
theorem D_M_end_15 : decode cX12_end 15 = .ok (.iload_n 1, 1) := by decide +kernel
theorem D_M_end_16 : decode cX12_end 16 = .ok (.putfield 112, 3) := by decide +kernel
theorem D_M_end_19 : decode cX12_end 19 = .ok (.iload_n 1, 1) := by decide +kernel
theorem D_M_end_20 : decode cX12_end 20 = .ok (.ireturn, 1) := by decide +kernel
def K_M_end : SC := (cX12_end, "TwoLevelsModel", 2, 1, false, [13], NoQ)
def d_M_end : MD Int32 := mth tt 2 (sq (sIf (cOr (eh1 z_lt (lI 1)) (eh2 c_gt (lI 1) (eh1 (gI 13 7) (lR 0)))) (rtn (eC (-1))) sk)
 (sq (sh2 (pI false 13 7) (lR 0) (lI 1))
 (rtn (lI 1))))
theorem m_M_end : MJ 1 [13] yX12_end (some .int) eI (d_M_end) := MJ_of (K := K_M_end) (ri := .ireturn) (n1 := 0) (n2 := 0) (n3 := 0)
 (SJ_sq (p0 := 0) (p1 := 14) (nN := 0) (nB := 0) (nC := 0) (SJ_if (p0 := 0) (pT := 12) (pF := 14) (nN := 14) (nB := 0) (nC := 0) (CJ_or (p0 := 0) (pM := 4) (pT := 12) (pF := 14) (CZ_lt (off := 11) (tgt := 12) (p0 := 0) (p1 := 1) (EJ_iload_n (j := 1) (i := 1) (pc := 0) D_M_end_0 rfl) D_M_end_1 rfl) (CJ_gt' (off := 5) (tgt := 14) (p0 := 4) (p1 := 5) (p2 := 9) (EJ_iload_n (j := 1) (i := 1) (pc := 4) D_M_end_4 rfl) (EJ_getI (t := 13) (c := 12) (kf := 7) (r := (RX12, TX12, 52)) (p0 := 5) (p1 := 6) (EJ_aload_n (j := 0) (i := 0) (pc := 5) D_M_end_5 rfl) D_M_end_6 ⟨rfl, rfl, by decide, q_939⟩ (fun _ _ => rfl)) D_M_end_9 rfl)) (SJ_ret (p0 := 12) (p1 := 13) (EJ_iconst (n := -1) (v := (-1)) (pc := 12) D_M_end_12 (by decide +kernel)) D_M_end_13) SJ_sk)
 (SJ_sq (p0 := 14) (p1 := 19) (nN := 0) (nB := 0) (nC := 0) (SJ_putI (z := false) (t := 13) (c := 12) (kf := 7) (r := (RX12, TX12, 52)) (p0 := 14) (p1 := 15) (p2 := 16) (EJ_aload_n (j := 0) (i := 0) (pc := 14) D_M_end_14 rfl) (EJ_iload_n (j := 1) (i := 1) (pc := 15) D_M_end_15 rfl) D_M_end_16 ⟨rfl, rfl, by decide, q_939⟩ (Or.inl rfl) (fun _ _ => ⟨rfl, rfl⟩) (fun _ _ => rfl) (show (13 : Nat) ∈ ([13] : List Nat) from by decide))
 (SJ_ret (p0 := 19) (p1 := 20) (EJ_iload_n (j := 1) (i := 1) (pc := 19) D_M_end_19 rfl) D_M_end_20)))
 RTm_int q_1048 (by decide +kernel) rfl (fun h => by cases h) (show 2 ≤ 40 from by decide) (fun _ => trivial)
theorem D_M_puts_0 : decode cX12_puts 0 = .ok (.bipush (24), 2) := by decide +kernel
theorem D_M_puts_2 : decode cX12_puts 2 = .ok (.istore_n 2, 1) := by decide +kernel
theorem D_M_puts_3 : decode cX12_puts 3 = .ok (.iload_n 2, 1) := by decide +kernel
theorem D_M_puts_4 : decode cX12_puts 4 = .ok (.ifCond .lt (32), 3) := by decide +kernel
theorem D_M_puts_7 : decode cX12_puts 7 = .ok (.aload_n 0, 1) := by decide +kernel
theorem D_M_puts_8 : decode cX12_puts 8 = .ok (.getfield 26, 3) := by decide +kernel
theorem D_M_puts_11 : decode cX12_puts 11 = .ok (.aload_n 0, 1) := by decide +kernel
theorem D_M_puts_12 : decode cX12_puts 12 = .ok (.getfield 112, 3) := by decide +kernel
theorem D_M_puts_15 : decode cX12_puts 15 = .ok (.iload_n 1, 1) := by decide +kernel
theorem D_M_puts_16 : decode cX12_puts 16 = .ok (.iload_n 2, 1) := by decide +kernel
theorem D_M_puts_17 : decode cX12_puts 17 = .ok (.ishr, 1) := by decide +kernel
theorem D_M_puts_18 : decode cX12_puts 18 = .ok (.i2b, 1) := by decide +kernel
theorem D_M_puts_19 : decode cX12_puts 19 = .ok (.bastore, 1) := by decide +kernel
theorem D_M_puts_20 : decode cX12_puts 20 = .ok (.aload_n 0, 1) := by decide +kernel
theorem D_M_puts_21 : decode cX12_puts 21 = .ok (.dup, 1) := by decide +kernel
theorem D_M_puts_22 : decode cX12_puts 22 = .ok (.getfield 112, 3) := by decide +kernel
theorem D_M_puts_25 : decode cX12_puts 25 = .ok (.iconst (1), 1) := by decide +kernel
theorem D_M_puts_26 : decode cX12_puts 26 = .ok (.iadd, 1) := by decide +kernel
theorem D_M_puts_27 : decode cX12_puts 27 = .ok (.putfield 112, 3) := by decide +kernel
theorem D_M_puts_30 : decode cX12_puts 30 = .ok (.iinc 2 (-8), 3) := by decide +kernel
theorem D_M_puts_33 : decode cX12_puts 33 = .ok (.goto (-30), 3) := by decide +kernel
theorem D_M_puts_36 : decode cX12_puts 36 = .ok (.return_, 1) := by decide +kernel
def K_M_puts : SC := (cX12_puts, "TwoLevelsModel", 3, 1, false, [13, 75], NoQ)
def d_M_puts : MD Unit := mth tt 3 (sq (sq (sI1 2 (eC (nI 24)))
 (loop (eh1 z_ge (lI 2))
 (sq (sh3 (stB [75]) (eh1 (gR 13 6) (lR 0)) (eh1 (gI 13 7) (lR 0)) (eh1 i2bF (eh2 ishrF (lI 1) (lI 2))))
 (su2 (gI 13 7) (uF false 13 7 (fun x y => x + y)) (lR 0) (eC (nI 1))))
 (sInc 2 (-8))))
 rtnU)
theorem m_M_puts : MJ 1 [13, 75] yX12_puts none eU (d_M_puts) := MJ_of (K := K_M_puts) (ri := .return_) (n1 := 0) (n2 := 0) (n3 := 0)
 (SJ_sq (p0 := 0) (p1 := 36) (nN := 0) (nB := 0) (nC := 0) (SJ_sq (p0 := 0) (p1 := 3) (nN := 36) (nB := 0) (nC := 0) (SJ_istore_n (i := 2) (j := 2) (p0 := 0) (p1 := 2) (EJ_bipush (n := 24) (v := (nI 24)) (pc := 0) D_M_puts_0 (by decide +kernel)) D_M_puts_2 rfl)
 (SJ_loop (p0 := 3) (pB := 7) (pS := 30) (pE := 36) (CZ_ge' (off := 32) (tgt := 36) (p0 := 3) (p1 := 4) (EJ_iload_n (j := 2) (i := 2) (pc := 3) D_M_puts_3 rfl) D_M_puts_4 rfl)
 (SJ_sq (p0 := 7) (p1 := 20) (nN := 30) (nB := 36) (nC := 30) (SJ_bast (ws := [75]) (p0 := 7) (p1 := 11) (p2 := 15) (p3 := 19) (EJ_getR (t := 13) (c := 12) (kf := 6) (r := (RX12, TX12, 52)) (p0 := 7) (p1 := 8) (EJ_aload_n (j := 0) (i := 0) (pc := 7) D_M_puts_7 rfl) D_M_puts_8 ⟨rfl, rfl, by decide, q_938⟩ (fun _ _ => rfl)) (EJ_getI (t := 13) (c := 12) (kf := 7) (r := (RX12, TX12, 52)) (p0 := 11) (p1 := 12) (EJ_aload_n (j := 0) (i := 0) (pc := 11) D_M_puts_11 rfl) D_M_puts_12 ⟨rfl, rfl, by decide, q_939⟩ (fun _ _ => rfl)) (EJ_i2b (p0 := 15) (p1 := 18) (EJ_ishr (p0 := 15) (p1 := 16) (p2 := 17) (EJ_iload_n (j := 1) (i := 1) (pc := 15) D_M_puts_15 rfl) (EJ_iload_n (j := 2) (i := 2) (pc := 16) D_M_puts_16 rfl) D_M_puts_17) D_M_puts_18) D_M_puts_19 (show ∀ x_ ∈ ([75] : List Nat), x_ ∈ ([13, 75] : List Nat) from by decide))
 (SJ_upF (z := false) (t := 13) (c := 12) (kf := 7) (r := (RX12, TX12, 52)) (f := (fun x y => x + y)) (p0 := 20) (p1 := 21) (p3 := 26) (EJ_aload_n (j := 0) (i := 0) (pc := 20) D_M_puts_20 rfl) D_M_puts_21 D_M_puts_22 (EJ_iconst (n := 1) (v := (nI 1)) (pc := 25) D_M_puts_25 (by decide +kernel)) (Op2_iadd D_M_puts_26) D_M_puts_27 ⟨rfl, rfl, by decide, q_939⟩ ⟨rfl, rfl, by decide, q_939⟩ (Or.inl rfl) (fun _ _ => ⟨rfl, rfl⟩) (fun _ _ => rfl) (show (13 : Nat) ∈ ([13, 75] : List Nat) from by decide)))
 (SJ_post (SJ_iinc (i := 2) (n := -8) (v := (-8)) (pc := 30) D_M_puts_30 (by decide +kernel)) (Lead.goto (K := K_M_puts) (pc := 33) (tgt := 3) D_M_puts_33 rfl))))
 (SJ_retU (pc := 36) D_M_puts_36))
 RTm_void q_1044 (by decide +kernel) rfl (fun h => by cases h) (show 3 ≤ 40 from by decide) (fun _ => trivial)
theorem D_M_feed_0 : decode cX12_feed 0 = .ok (.aload_n 0, 1) := by decide +kernel
theorem D_M_feed_1 : decode cX12_feed 1 = .ok (.getfield 112, 3) := by decide +kernel
theorem D_M_feed_4 : decode cX12_feed 4 = .ok (.bipush (20), 2) := by decide +kernel
theorem D_M_feed_6 : decode cX12_feed 6 = .ok (.iadd, 1) := by decide +kernel
theorem D_M_feed_7 : decode cX12_feed 7 = .ok (.sipush (500), 3) := by decide +kernel
theorem D_M_feed_10 : decode cX12_feed 10 = .ok (.if_icmp .le (5), 3) := by decide +kernel
theorem D_M_feed_13 : decode cX12_feed 13 = .ok (.iconst (-1), 1) := by decide +kernel
theorem D_M_feed_14 : decode cX12_feed 14 = .ok (.ireturn, 1) := by decide +kernel
theorem D_M_feed_15 : decode cX12_feed 15 = .ok (.aload_n 0, 1) := by decide +kernel
theorem D_M_feed_16 : decode cX12_feed 16 = .ok (.iload_n 1, 1) := by decide +kernel
theorem D_M_feed_17 : decode cX12_feed 17 = .ok (.invokevirtual 116, 3) := by decide +kernel
theorem D_M_feed_20 : decode cX12_feed 20 = .ok (.aload_n 0, 1) := by decide +kernel
theorem D_M_feed_21 : decode cX12_feed 21 = .ok (.iload_n 2, 1) := by decide +kernel
theorem D_M_feed_22 : decode cX12_feed 22 = .ok (.invokevirtual 116, 3) := by decide +kernel
theorem D_M_feed_25 : decode cX12_feed 25 = .ok (.aload_n 0, 1) := by decide +kernel
theorem D_M_feed_26 : decode cX12_feed 26 = .ok (.iload_n 3, 1) := by decide +kernel
theorem D_M_feed_27 : decode cX12_feed 27 = .ok (.invokevirtual 116, 3) := by decide +kernel
theorem D_M_feed_30 : decode cX12_feed 30 = .ok (.aload_n 0, 1) := by decide +kernel
theorem D_M_feed_31 : decode cX12_feed 31 = .ok (.iload 4, 2) := by decide +kernel
theorem D_M_feed_33 : decode cX12_feed 33 = .ok (.invokevirtual 116, 3) := by decide +kernel
theorem D_M_feed_36 : decode cX12_feed 36 = .ok (.aload_n 0, 1) := by decide +kernel
theorem D_M_feed_37 : decode cX12_feed 37 = .ok (.iload 5, 2) := by decide +kernel
theorem D_M_feed_39 : decode cX12_feed 39 = .ok (.invokevirtual 116, 3) := by decide +kernel
theorem D_M_feed_42 : decode cX12_feed 42 = .ok (.aload_n 0, 1) := by decide +kernel
theorem D_M_feed_43 : decode cX12_feed 43 = .ok (.getfield 112, 3) := by decide +kernel
theorem D_M_feed_46 : decode cX12_feed 46 = .ok (.ireturn, 1) := by decide +kernel
def K_M_feed : SC := (cX12_feed, "TwoLevelsModel", 6, 2, false, [13, 75], NoQ)
def d_M_feed : MD Int32 := mth tt 6 (sq (sIf (eh2 c_gt (eh2 iaddF (eh1 (gI 13 7) (lR 0)) (eC (nI 20))) (eC (nI 500))) (rtn (eC (-1))) sk)
 (sq (sE (kV 13 d_M_puts (lR 0) [vI (lI 1)]))
 (sq (sE (kV 13 d_M_puts (lR 0) [vI (lI 2)]))
 (sq (sE (kV 13 d_M_puts (lR 0) [vI (lI 3)]))
 (sq (sE (kV 13 d_M_puts (lR 0) [vI (lI 4)]))
 (sq (sE (kV 13 d_M_puts (lR 0) [vI (lI 5)]))
 (rtn (eh1 (gI 13 7) (lR 0)))))))))
theorem m_M_feed : MJ 2 [13, 75] yX12_feed (some .int) eI (d_M_feed) := MJ_of (K := K_M_feed) (ri := .ireturn) (n1 := 0) (n2 := 0) (n3 := 0)
 (SJ_sq (p0 := 0) (p1 := 15) (nN := 0) (nB := 0) (nC := 0) (SJ_if (p0 := 0) (pT := 13) (pF := 15) (nN := 15) (nB := 0) (nC := 0) (CJ_gt' (off := 5) (tgt := 15) (p0 := 0) (p1 := 7) (p2 := 10) (EJ_iadd (p0 := 0) (p1 := 4) (p2 := 6) (EJ_getI (t := 13) (c := 12) (kf := 7) (r := (RX12, TX12, 52)) (p0 := 0) (p1 := 1) (EJ_aload_n (j := 0) (i := 0) (pc := 0) D_M_feed_0 rfl) D_M_feed_1 ⟨rfl, rfl, by decide, q_939⟩ (fun _ _ => rfl)) (EJ_bipush (n := 20) (v := (nI 20)) (pc := 4) D_M_feed_4 (by decide +kernel)) D_M_feed_6) (EJ_sipush (n := 500) (v := (nI 500)) (pc := 7) D_M_feed_7 (by decide +kernel)) D_M_feed_10 rfl) (SJ_ret (p0 := 13) (p1 := 14) (EJ_iconst (n := -1) (v := (-1)) (pc := 13) D_M_feed_13 (by decide +kernel)) D_M_feed_14) SJ_sk)
 (SJ_sq (p0 := 15) (p1 := 20) (nN := 0) (nB := 0) (nC := 0) (SJ_void (p0 := 15) (p1 := 20) (EJ_callV (t := 13) (c := 12) (r := (RX12, TX12, 52)) (p0 := 15) (p1 := 16) (p2 := 17) (EJ_aload_n (j := 0) (i := 0) (pc := 15) D_M_feed_15 rfl) (AJ_I (p0 := 16) (p1 := 17) (p2 := 17) (EJ_iload_n (j := 1) (i := 1) (pc := 16) D_M_feed_16 rfl) AJ_nil) m_M_puts E1_U D_M_feed_17 rfl rfl rfl q_1042 q_1043 q_36 q_97 ⟨by decide +kernel, by decide +kernel, by decide +kernel⟩ (by decide) (show 1 + 1 ≤ 2 from by decide) (show ∀ x_ ∈ ([13, 75] : List Nat), x_ ∈ ([13, 75] : List Nat) from by decide)))
 (SJ_sq (p0 := 20) (p1 := 25) (nN := 0) (nB := 0) (nC := 0) (SJ_void (p0 := 20) (p1 := 25) (EJ_callV (t := 13) (c := 12) (r := (RX12, TX12, 52)) (p0 := 20) (p1 := 21) (p2 := 22) (EJ_aload_n (j := 0) (i := 0) (pc := 20) D_M_feed_20 rfl) (AJ_I (p0 := 21) (p1 := 22) (p2 := 22) (EJ_iload_n (j := 2) (i := 2) (pc := 21) D_M_feed_21 rfl) AJ_nil) m_M_puts E1_U D_M_feed_22 rfl rfl rfl q_1042 q_1043 q_36 q_97 ⟨by decide +kernel, by decide +kernel, by decide +kernel⟩ (by decide) (show 1 + 1 ≤ 2 from by decide) (show ∀ x_ ∈ ([13, 75] : List Nat), x_ ∈ ([13, 75] : List Nat) from by decide)))
 (SJ_sq (p0 := 25) (p1 := 30) (nN := 0) (nB := 0) (nC := 0) (SJ_void (p0 := 25) (p1 := 30) (EJ_callV (t := 13) (c := 12) (r := (RX12, TX12, 52)) (p0 := 25) (p1 := 26) (p2 := 27) (EJ_aload_n (j := 0) (i := 0) (pc := 25) D_M_feed_25 rfl) (AJ_I (p0 := 26) (p1 := 27) (p2 := 27) (EJ_iload_n (j := 3) (i := 3) (pc := 26) D_M_feed_26 rfl) AJ_nil) m_M_puts E1_U D_M_feed_27 rfl rfl rfl q_1042 q_1043 q_36 q_97 ⟨by decide +kernel, by decide +kernel, by decide +kernel⟩ (by decide) (show 1 + 1 ≤ 2 from by decide) (show ∀ x_ ∈ ([13, 75] : List Nat), x_ ∈ ([13, 75] : List Nat) from by decide)))
 (SJ_sq (p0 := 30) (p1 := 36) (nN := 0) (nB := 0) (nC := 0) (SJ_void (p0 := 30) (p1 := 36) (EJ_callV (t := 13) (c := 12) (r := (RX12, TX12, 52)) (p0 := 30) (p1 := 31) (p2 := 33) (EJ_aload_n (j := 0) (i := 0) (pc := 30) D_M_feed_30 rfl) (AJ_I (p0 := 31) (p1 := 33) (p2 := 33) (EJ_iload (i := 4) (pc := 31) D_M_feed_31) AJ_nil) m_M_puts E1_U D_M_feed_33 rfl rfl rfl q_1042 q_1043 q_36 q_97 ⟨by decide +kernel, by decide +kernel, by decide +kernel⟩ (by decide) (show 1 + 1 ≤ 2 from by decide) (show ∀ x_ ∈ ([13, 75] : List Nat), x_ ∈ ([13, 75] : List Nat) from by decide)))
 (SJ_sq (p0 := 36) (p1 := 42) (nN := 0) (nB := 0) (nC := 0) (SJ_void (p0 := 36) (p1 := 42) (EJ_callV (t := 13) (c := 12) (r := (RX12, TX12, 52)) (p0 := 36) (p1 := 37) (p2 := 39) (EJ_aload_n (j := 0) (i := 0) (pc := 36) D_M_feed_36 rfl) (AJ_I (p0 := 37) (p1 := 39) (p2 := 39) (EJ_iload (i := 5) (pc := 37) D_M_feed_37) AJ_nil) m_M_puts E1_U D_M_feed_39 rfl rfl rfl q_1042 q_1043 q_36 q_97 ⟨by decide +kernel, by decide +kernel, by decide +kernel⟩ (by decide) (show 1 + 1 ≤ 2 from by decide) (show ∀ x_ ∈ ([13, 75] : List Nat), x_ ∈ ([13, 75] : List Nat) from by decide)))
 (SJ_ret (p0 := 42) (p1 := 46) (EJ_getI (t := 13) (c := 12) (kf := 7) (r := (RX12, TX12, 52)) (p0 := 42) (p1 := 43) (EJ_aload_n (j := 0) (i := 0) (pc := 42) D_M_feed_42 rfl) D_M_feed_43 ⟨rfl, rfl, by decide, q_939⟩ (fun _ _ => rfl)) D_M_feed_46)))))))
 RTm_int q_1041 (by decide +kernel) rfl (fun h => by cases h) (show 6 ≤ 40 from by decide) (fun _ => trivial)
theorem D_M_free_0 : decode cX12_free 0 = .ok (.aload_n 0, 1) := by decide +kernel
theorem D_M_free_1 : decode cX12_free 1 = .ok (.iload_n 2, 1) := by decide +kernel
theorem D_M_free_2 : decode cX12_free 2 = .ok (.invokevirtual 220, 3) := by decide +kernel
theorem D_M_free_5 : decode cX12_free 5 = .ok (.istore 4, 2) := by decide +kernel
theorem D_M_free_7 : decode cX12_free 7 = .ok (.aload_n 0, 1) := by decide +kernel
theorem D_M_free_8 : decode cX12_free 8 = .ok (.iload_n 1, 1) := by decide +kernel
theorem D_M_free_9 : decode cX12_free 9 = .ok (.invokevirtual 378, 3) := by decide +kernel
theorem D_M_free_12 : decode cX12_free 12 = .ok (.ifCond .eq (14), 3) := by decide +kernel
theorem D_M_free_15 : decode cX12_free 15 = .ok (.iload 4, 2) := by decide +kernel
theorem D_M_free_17 : decode cX12_free 17 = .ok (.iconst (-1), 1) := by decide +kernel
theorem D_M_free_18 : decode cX12_free 18 = .ok (.if_icmp .eq (8), 3) := by decide +kernel
theorem D_M_free_21 : decode cX12_free 21 = .ok (.iload_n 3, 1) := by decide +kernel
theorem D_M_free_22 : decode cX12_free 22 = .ok (.iconst (-1), 1) := by decide +kernel
theorem D_M_free_23 : decode cX12_free 23 = .ok (.if_icmp .ge (5), 3) := by decide +kernel
theorem D_M_free_26 : decode cX12_free 26 = .ok (.iconst (-1), 1) := by decide +kernel
theorem D_M_free_27 : decode cX12_free 27 = .ok (.ireturn, 1) := by decide +kernel
theorem D_M_free_28 : decode cX12_free 28 = .ok (.bipush (12), 2) := by decide +kernel
theorem D_M_free_30 : decode cX12_free 30 = .ok (.iload_n 1, 1) := by decide +kernel
theorem D_M_free_31 : decode cX12_free 31 = .ok (.imul, 1) := by decide +kernel
theorem D_M_free_32 : decode cX12_free 32 = .ok (.bipush (8), 2) := by decide +kernel
theorem D_M_free_34 : decode cX12_free 34 = .ok (.iadd, 1) := by decide +kernel
theorem D_M_free_35 : decode cX12_free 35 = .ok (.istore 5, 2) := by decide +kernel
theorem D_M_free_37 : decode cX12_free 37 = .ok (.aload_n 0, 1) := by decide +kernel
theorem D_M_free_38 : decode cX12_free 38 = .ok (.getfield 99, 3) := by decide +kernel
theorem D_M_free_41 : decode cX12_free 41 = .ok (.iload 5, 2) := by decide +kernel
theorem D_M_free_43 : decode cX12_free 43 = .ok (.iaload, 1) := by decide +kernel
theorem D_M_free_44 : decode cX12_free 44 = .ok (.iload 4, 2) := by decide +kernel
theorem D_M_free_46 : decode cX12_free 46 = .ok (.if_icmp .ne (15), 3) := by decide +kernel
theorem D_M_free_49 : decode cX12_free 49 = .ok (.aload_n 0, 1) := by decide +kernel
theorem D_M_free_50 : decode cX12_free 50 = .ok (.getfield 99, 3) := by decide +kernel
theorem D_M_free_53 : decode cX12_free 53 = .ok (.iload 5, 2) := by decide +kernel
theorem D_M_free_55 : decode cX12_free 55 = .ok (.iconst (1), 1) := by decide +kernel
theorem D_M_free_56 : decode cX12_free 56 = .ok (.iadd, 1) := by decide +kernel
theorem D_M_free_57 : decode cX12_free 57 = .ok (.iaload, 1) := by decide +kernel
theorem D_M_free_58 : decode cX12_free 58 = .ok (.goto (30), 3) := by decide +kernel
theorem D_M_free_61 : decode cX12_free 61 = .ok (.aload_n 0, 1) := by decide +kernel
theorem D_M_free_62 : decode cX12_free 62 = .ok (.getfield 99, 3) := by decide +kernel
theorem D_M_free_65 : decode cX12_free 65 = .ok (.iload 5, 2) := by decide +kernel
theorem D_M_free_67 : decode cX12_free 67 = .ok (.iconst (2), 1) := by decide +kernel
theorem D_M_free_68 : decode cX12_free 68 = .ok (.iadd, 1) := by decide +kernel
theorem D_M_free_69 : decode cX12_free 69 = .ok (.iaload, 1) := by decide +kernel
theorem D_M_free_70 : decode cX12_free 70 = .ok (.iload 4, 2) := by decide +kernel
theorem D_M_free_72 : decode cX12_free 72 = .ok (.if_icmp .ne (15), 3) := by decide +kernel
theorem D_M_free_75 : decode cX12_free 75 = .ok (.aload_n 0, 1) := by decide +kernel
theorem D_M_free_76 : decode cX12_free 76 = .ok (.getfield 99, 3) := by decide +kernel
theorem D_M_free_79 : decode cX12_free 79 = .ok (.iload 5, 2) := by decide +kernel
theorem D_M_free_81 : decode cX12_free 81 = .ok (.iconst (3), 1) := by decide +kernel
theorem D_M_free_82 : decode cX12_free 82 = .ok (.iadd, 1) := by decide +kernel
theorem D_M_free_83 : decode cX12_free 83 = .ok (.iaload, 1) := by decide +kernel
theorem D_M_free_84 : decode cX12_free 84 = .ok (.goto (4), 3) := by decide +kernel
theorem D_M_free_87 : decode cX12_free 87 = .ok (.iconst (-1), 1) := by decide +kernel
theorem D_M_free_88 : decode cX12_free 88 = .ok (.istore 6, 2) := by decide +kernel
theorem D_M_free_90 : decode cX12_free 90 = .ok (.iload 6, 2) := by decide +kernel
theorem D_M_free_92 : decode cX12_free 92 = .ok (.iconst (-1), 1) := by decide +kernel
theorem D_M_free_93 : decode cX12_free 93 = .ok (.if_icmp .ne (5), 3) := by decide +kernel
theorem D_M_free_96 : decode cX12_free 96 = .ok (.iconst (-1), 1) := by decide +kernel
theorem D_M_free_97 : decode cX12_free 97 = .ok (.ireturn, 1) := by decide +kernel
theorem D_M_free_98 : decode cX12_free 98 = .ok (.iload 6, 2) := by decide +kernel
theorem D_M_free_100 : decode cX12_free 100 = .ok (.bipush (20), 2) := by decide +kernel
theorem D_M_free_102 : decode cX12_free 102 = .ok (.iload 4, 2) := by decide +kernel
theorem D_M_free_104 : decode cX12_free 104 = .ok (.imul, 1) := by decide +kernel
theorem D_M_free_105 : decode cX12_free 105 = .ok (.iadd, 1) := by decide +kernel
theorem D_M_free_106 : decode cX12_free 106 = .ok (.istore 6, 2) := by decide +kernel
theorem D_M_free_108 : decode cX12_free 108 = .ok (.iload_n 3, 1) := by decide +kernel
theorem D_M_free_109 : decode cX12_free 109 = .ok (.iconst (-1), 1) := by decide +kernel
theorem D_M_free_110 : decode cX12_free 110 = .ok (.if_icmp .ne (11), 3) := by decide +kernel
theorem D_M_free_113 : decode cX12_free 113 = .ok (.aload_n 0, 1) := by decide +kernel
theorem D_M_free_114 : decode cX12_free 114 = .ok (.getfield 51, 3) := by decide +kernel
theorem D_M_free_117 : decode cX12_free 117 = .ok (.iload 6, 2) := by decide +kernel
theorem D_M_free_119 : decode cX12_free 119 = .ok (.iaload, 1) := by decide +kernel
theorem D_M_free_120 : decode cX12_free 120 = .ok (.ireturn, 1) := by decide +kernel
theorem D_M_free_121 : decode cX12_free 121 = .ok (.iload_n 3, 1) := by decide +kernel
theorem D_M_free_122 : decode cX12_free 122 = .ok (.aload_n 0, 1) := by decide +kernel
theorem D_M_free_123 : decode cX12_free 123 = .ok (.getfield 51, 3) := by decide +kernel
theorem D_M_free_126 : decode cX12_free 126 = .ok (.iload 6, 2) := by decide +kernel
theorem D_M_free_128 : decode cX12_free 128 = .ok (.iaload, 1) := by decide +kernel
theorem D_M_free_129 : decode cX12_free 129 = .ok (.if_icmp .ge (17), 3) := by decide +kernel
theorem D_M_free_132 : decode cX12_free 132 = .ok (.aload_n 0, 1) := by decide +kernel
theorem D_M_free_133 : decode cX12_free 133 = .ok (.getfield 54, 3) := by decide +kernel
theorem D_M_free_136 : decode cX12_free 136 = .ok (.iconst (3), 1) := by decide +kernel
theorem D_M_free_137 : decode cX12_free 137 = .ok (.iload 6, 2) := by decide +kernel
theorem D_M_free_139 : decode cX12_free 139 = .ok (.imul, 1) := by decide +kernel
theorem D_M_free_140 : decode cX12_free 140 = .ok (.iload_n 3, 1) := by decide +kernel
theorem D_M_free_141 : decode cX12_free 141 = .ok (.iadd, 1) := by decide +kernel
theorem D_M_free_142 : decode cX12_free 142 = .ok (.iaload, 1) := by decide +kernel
theorem D_M_free_143 : decode cX12_free 143 = .ok (.goto (4), 3) := by decide +kernel
theorem D_M_free_146 : decode cX12_free 146 = .ok (.iconst (-1), 1) := by decide +kernel
theorem D_M_free_147 : decode cX12_free 147 = .ok (.ireturn, 1) := by decide +kernel
def K_M_free : SC := (cX12_free, "TwoLevelsModel", 7, 210, false, [13, 79, 80, 81, 82, 83, 84, 85, 87, 88, 89, 92, 93, 94, 95, 96, 97, 98, 99, 100, 101], NoQ)
def d_M_free : MD Int32 := mth tt 7 (sq (sI1 4 (kV 13 d_M_metaOf (lR 0) [vI (lI 2)]))
 (sq (sIf (cOr (cOr (cNot (eh1 z_ne (kV 13 d_M_hasNode (lR 0) [vI (lI 1)]))) (eh2 c_eq (lI 4) (eC (-1)))) (eh2 c_lt (lI 3) (eC (-1)))) (rtn (eC (-1))) sk)
 (sq (sI1 5 (eh2 iaddF (eh2 imulF (eC (nI 12)) (lI 1)) (eC (nI 8))))
 (sq (sI1 6 (eIf (eh2 c_eq (eh2 (aI .int) (eh1 (gR 13 45) (lR 0)) (lI 5)) (lI 4)) (eh2 (aI .int) (eh1 (gR 13 45) (lR 0)) (eh2 iaddF (lI 5) (eC (nI 1)))) (eIf (eh2 c_eq (eh2 (aI .int) (eh1 (gR 13 45) (lR 0)) (eh2 iaddF (lI 5) (eC (nI 2)))) (lI 4)) (eh2 (aI .int) (eh1 (gR 13 45) (lR 0)) (eh2 iaddF (lI 5) (eC (nI 3)))) (eC (-1)))))
 (sq (sIf (eh2 c_eq (lI 6) (eC (-1))) (rtn (eC (-1))) sk)
 (sq (sI1 6 (eh2 iaddF (lI 6) (eh2 imulF (eC (nI 20)) (lI 4))))
 (sq (sIf (eh2 c_eq (lI 3) (eC (-1))) (rtn (eh2 (aI .int) (eh1 (gR 13 20) (lR 0)) (lI 6))) sk)
 (rtn (eIf (eh2 c_lt (lI 3) (eh2 (aI .int) (eh1 (gR 13 20) (lR 0)) (lI 6))) (eh2 (aI .int) (eh1 (gR 13 21) (lR 0)) (eh2 iaddF (eh2 imulF (eC (nI 3)) (lI 6)) (lI 3))) (eC (-1)))))))))))
theorem m_M_free : MJ 210 [13, 79, 80, 81, 82, 83, 84, 85, 87, 88, 89, 92, 93, 94, 95, 96, 97, 98, 99, 100, 101] yX12_free (some .int) eI (d_M_free) := MJ_of (K := K_M_free) (ri := .ireturn) (n1 := 0) (n2 := 0) (n3 := 0)
 (SJ_sq (p0 := 0) (p1 := 7) (nN := 0) (nB := 0) (nC := 0) (SJ_istore (i := 4) (p0 := 0) (p1 := 5) (EJ_callV (t := 13) (c := 12) (r := (RX12, TX12, 52)) (p0 := 0) (p1 := 1) (p2 := 2) (EJ_aload_n (j := 0) (i := 0) (pc := 0) D_M_free_0 rfl) (AJ_I (p0 := 1) (p1 := 2) (p2 := 2) (EJ_iload_n (j := 2) (i := 2) (pc := 1) D_M_free_1 rfl) AJ_nil) m_M_metaOf E1_I D_M_free_2 rfl rfl rfl q_1161 q_1162 q_56 q_97 ⟨by decide +kernel, by decide +kernel, by decide +kernel⟩ (by decide) (show 1 + 1 ≤ 210 from by decide) (fun _ h => absurd h List.not_mem_nil)) D_M_free_5)
 (SJ_sq (p0 := 7) (p1 := 28) (nN := 0) (nB := 0) (nC := 0) (SJ_if (p0 := 7) (pT := 26) (pF := 28) (nN := 28) (nB := 0) (nC := 0) (CJ_or (p0 := 7) (pM := 21) (pT := 26) (pF := 28) (CJ_or (p0 := 7) (pM := 15) (pT := 26) (pF := 21) (CJ_not (p0 := 7) (pT := 26) (pF := 15) (CZ_ne' (off := 14) (tgt := 26) (p0 := 7) (p1 := 12) (EJ_callV (t := 13) (c := 12) (r := (RX12, TX12, 52)) (p0 := 7) (p1 := 8) (p2 := 9) (EJ_aload_n (j := 0) (i := 0) (pc := 7) D_M_free_7 rfl) (AJ_I (p0 := 8) (p1 := 9) (p2 := 9) (EJ_iload_n (j := 1) (i := 1) (pc := 8) D_M_free_8 rfl) AJ_nil) m_M_hasNode E1_I D_M_free_9 rfl rfl rfl q_1334 q_1335 q_87 q_97 ⟨by decide +kernel, by decide +kernel, by decide +kernel⟩ (by decide) (show 209 + 1 ≤ 210 from by decide) (show ∀ x_ ∈ ([13, 79, 80, 81, 82, 83, 84, 85, 87, 88, 89, 92, 93, 94, 95, 96, 97, 98, 99, 100, 101] : List Nat), x_ ∈ ([13, 79, 80, 81, 82, 83, 84, 85, 87, 88, 89, 92, 93, 94, 95, 96, 97, 98, 99, 100, 101] : List Nat) from by decide)) D_M_free_12 rfl)) (CJ_eq (off := 8) (tgt := 26) (p0 := 15) (p1 := 17) (p2 := 18) (EJ_iload (i := 4) (pc := 15) D_M_free_15) (EJ_iconst (n := -1) (v := (-1)) (pc := 17) D_M_free_17 (by decide +kernel)) D_M_free_18 rfl)) (CJ_lt' (off := 5) (tgt := 28) (p0 := 21) (p1 := 22) (p2 := 23) (EJ_iload_n (j := 3) (i := 3) (pc := 21) D_M_free_21 rfl) (EJ_iconst (n := -1) (v := (-1)) (pc := 22) D_M_free_22 (by decide +kernel)) D_M_free_23 rfl)) (SJ_ret (p0 := 26) (p1 := 27) (EJ_iconst (n := -1) (v := (-1)) (pc := 26) D_M_free_26 (by decide +kernel)) D_M_free_27) SJ_sk)
 (SJ_sq (p0 := 28) (p1 := 37) (nN := 0) (nB := 0) (nC := 0) (SJ_istore (i := 5) (p0 := 28) (p1 := 35) (EJ_iadd (p0 := 28) (p1 := 32) (p2 := 34) (EJ_imul (p0 := 28) (p1 := 30) (p2 := 31) (EJ_bipush (n := 12) (v := (nI 12)) (pc := 28) D_M_free_28 (by decide +kernel)) (EJ_iload_n (j := 1) (i := 1) (pc := 30) D_M_free_30 rfl) D_M_free_31) (EJ_bipush (n := 8) (v := (nI 8)) (pc := 32) D_M_free_32 (by decide +kernel)) D_M_free_34) D_M_free_35)
 (SJ_sq (p0 := 37) (p1 := 90) (nN := 0) (nB := 0) (nC := 0) (SJ_istore (i := 6) (p0 := 37) (p1 := 88) (EJ_if (p0 := 37) (pT := 49) (pF := 61) (pE := 58) (p1 := 88) (CJ_eq' (off := 15) (tgt := 61) (p0 := 37) (p1 := 44) (p2 := 46) (EJ_iald (p0 := 37) (p1 := 41) (p2 := 43) (EJ_getR (t := 13) (c := 12) (kf := 45) (r := (RX12, TX12, 52)) (p0 := 37) (p1 := 38) (EJ_aload_n (j := 0) (i := 0) (pc := 37) D_M_free_37 rfl) D_M_free_38 ⟨rfl, rfl, by decide, q_977⟩ (fun _ _ => rfl)) (EJ_iload (i := 5) (pc := 41) D_M_free_41) D_M_free_43) (EJ_iload (i := 4) (pc := 44) D_M_free_44) D_M_free_46 rfl) (EJ_iald (p0 := 49) (p1 := 53) (p2 := 57) (EJ_getR (t := 13) (c := 12) (kf := 45) (r := (RX12, TX12, 52)) (p0 := 49) (p1 := 50) (EJ_aload_n (j := 0) (i := 0) (pc := 49) D_M_free_49 rfl) D_M_free_50 ⟨rfl, rfl, by decide, q_977⟩ (fun _ _ => rfl)) (EJ_iadd (p0 := 53) (p1 := 55) (p2 := 56) (EJ_iload (i := 5) (pc := 53) D_M_free_53) (EJ_iconst (n := 1) (v := (nI 1)) (pc := 55) D_M_free_55 (by decide +kernel)) D_M_free_56) D_M_free_57) (Lead.goto (K := K_M_free) (pc := 58) (tgt := 88) D_M_free_58 rfl) (EJ_if (p0 := 61) (pT := 75) (pF := 87) (pE := 84) (p1 := 88) (CJ_eq' (off := 15) (tgt := 87) (p0 := 61) (p1 := 70) (p2 := 72) (EJ_iald (p0 := 61) (p1 := 65) (p2 := 69) (EJ_getR (t := 13) (c := 12) (kf := 45) (r := (RX12, TX12, 52)) (p0 := 61) (p1 := 62) (EJ_aload_n (j := 0) (i := 0) (pc := 61) D_M_free_61 rfl) D_M_free_62 ⟨rfl, rfl, by decide, q_977⟩ (fun _ _ => rfl)) (EJ_iadd (p0 := 65) (p1 := 67) (p2 := 68) (EJ_iload (i := 5) (pc := 65) D_M_free_65) (EJ_iconst (n := 2) (v := (nI 2)) (pc := 67) D_M_free_67 (by decide +kernel)) D_M_free_68) D_M_free_69) (EJ_iload (i := 4) (pc := 70) D_M_free_70) D_M_free_72 rfl) (EJ_iald (p0 := 75) (p1 := 79) (p2 := 83) (EJ_getR (t := 13) (c := 12) (kf := 45) (r := (RX12, TX12, 52)) (p0 := 75) (p1 := 76) (EJ_aload_n (j := 0) (i := 0) (pc := 75) D_M_free_75 rfl) D_M_free_76 ⟨rfl, rfl, by decide, q_977⟩ (fun _ _ => rfl)) (EJ_iadd (p0 := 79) (p1 := 81) (p2 := 82) (EJ_iload (i := 5) (pc := 79) D_M_free_79) (EJ_iconst (n := 3) (v := (nI 3)) (pc := 81) D_M_free_81 (by decide +kernel)) D_M_free_82) D_M_free_83) (Lead.goto (K := K_M_free) (pc := 84) (tgt := 88) D_M_free_84 rfl) (EJ_iconst (n := -1) (v := (-1)) (pc := 87) D_M_free_87 (by decide +kernel)))) D_M_free_88)
 (SJ_sq (p0 := 90) (p1 := 98) (nN := 0) (nB := 0) (nC := 0) (SJ_if (p0 := 90) (pT := 96) (pF := 98) (nN := 98) (nB := 0) (nC := 0) (CJ_eq' (off := 5) (tgt := 98) (p0 := 90) (p1 := 92) (p2 := 93) (EJ_iload (i := 6) (pc := 90) D_M_free_90) (EJ_iconst (n := -1) (v := (-1)) (pc := 92) D_M_free_92 (by decide +kernel)) D_M_free_93 rfl) (SJ_ret (p0 := 96) (p1 := 97) (EJ_iconst (n := -1) (v := (-1)) (pc := 96) D_M_free_96 (by decide +kernel)) D_M_free_97) SJ_sk)
 (SJ_sq (p0 := 98) (p1 := 108) (nN := 0) (nB := 0) (nC := 0) (SJ_istore (i := 6) (p0 := 98) (p1 := 106) (EJ_iadd (p0 := 98) (p1 := 100) (p2 := 105) (EJ_iload (i := 6) (pc := 98) D_M_free_98) (EJ_imul (p0 := 100) (p1 := 102) (p2 := 104) (EJ_bipush (n := 20) (v := (nI 20)) (pc := 100) D_M_free_100 (by decide +kernel)) (EJ_iload (i := 4) (pc := 102) D_M_free_102) D_M_free_104) D_M_free_105) D_M_free_106)
 (SJ_sq (p0 := 108) (p1 := 121) (nN := 0) (nB := 0) (nC := 0) (SJ_if (p0 := 108) (pT := 113) (pF := 121) (nN := 121) (nB := 0) (nC := 0) (CJ_eq' (off := 11) (tgt := 121) (p0 := 108) (p1 := 109) (p2 := 110) (EJ_iload_n (j := 3) (i := 3) (pc := 108) D_M_free_108 rfl) (EJ_iconst (n := -1) (v := (-1)) (pc := 109) D_M_free_109 (by decide +kernel)) D_M_free_110 rfl) (SJ_ret (p0 := 113) (p1 := 120) (EJ_iald (p0 := 113) (p1 := 117) (p2 := 119) (EJ_getR (t := 13) (c := 12) (kf := 20) (r := (RX12, TX12, 52)) (p0 := 113) (p1 := 114) (EJ_aload_n (j := 0) (i := 0) (pc := 113) D_M_free_113 rfl) D_M_free_114 ⟨rfl, rfl, by decide, q_952⟩ (fun _ _ => rfl)) (EJ_iload (i := 6) (pc := 117) D_M_free_117) D_M_free_119) D_M_free_120) SJ_sk)
 (SJ_ret (p0 := 121) (p1 := 147) (EJ_if (p0 := 121) (pT := 132) (pF := 146) (pE := 143) (p1 := 147) (CJ_lt' (off := 17) (tgt := 146) (p0 := 121) (p1 := 122) (p2 := 129) (EJ_iload_n (j := 3) (i := 3) (pc := 121) D_M_free_121 rfl) (EJ_iald (p0 := 122) (p1 := 126) (p2 := 128) (EJ_getR (t := 13) (c := 12) (kf := 20) (r := (RX12, TX12, 52)) (p0 := 122) (p1 := 123) (EJ_aload_n (j := 0) (i := 0) (pc := 122) D_M_free_122 rfl) D_M_free_123 ⟨rfl, rfl, by decide, q_952⟩ (fun _ _ => rfl)) (EJ_iload (i := 6) (pc := 126) D_M_free_126) D_M_free_128) D_M_free_129 rfl) (EJ_iald (p0 := 132) (p1 := 136) (p2 := 142) (EJ_getR (t := 13) (c := 12) (kf := 21) (r := (RX12, TX12, 52)) (p0 := 132) (p1 := 133) (EJ_aload_n (j := 0) (i := 0) (pc := 132) D_M_free_132 rfl) D_M_free_133 ⟨rfl, rfl, by decide, q_953⟩ (fun _ _ => rfl)) (EJ_iadd (p0 := 136) (p1 := 140) (p2 := 141) (EJ_imul (p0 := 136) (p1 := 137) (p2 := 139) (EJ_iconst (n := 3) (v := (nI 3)) (pc := 136) D_M_free_136 (by decide +kernel)) (EJ_iload (i := 6) (pc := 137) D_M_free_137) D_M_free_139) (EJ_iload_n (j := 3) (i := 3) (pc := 140) D_M_free_140 rfl) D_M_free_141) D_M_free_142) (Lead.goto (K := K_M_free) (pc := 143) (tgt := 147) D_M_free_143 rfl) (EJ_iconst (n := -1) (v := (-1)) (pc := 146) D_M_free_146 (by decide +kernel))) D_M_free_147))))))))
 RTm_int q_1344 (by decide +kernel) rfl (fun h => by cases h) (show 7 ≤ 40 from by decide) (fun _ => trivial)
theorem D_M_head_0 : decode cX12_head 0 = .ok (.aload_n 0, 1) := by decide +kernel
theorem D_M_head_1 : decode cX12_head 1 = .ok (.iload_n 1, 1) := by decide +kernel
theorem D_M_head_2 : decode cX12_head 2 = .ok (.invokevirtual 217, 3) := by decide +kernel
theorem D_M_head_5 : decode cX12_head 5 = .ok (.ifCond .eq (7), 3) := by decide +kernel
theorem D_M_head_8 : decode cX12_head 8 = .ok (.iload_n 2, 1) := by decide +kernel
theorem D_M_head_9 : decode cX12_head 9 = .ok (.ifCond .ge (5), 3) := by decide +kernel
theorem D_M_head_12 : decode cX12_head 12 = .ok (.iconst (-1), 1) := by decide +kernel
theorem D_M_head_13 : decode cX12_head 13 = .ok (.ireturn, 1) := by decide +kernel
theorem D_M_head_14 : decode cX12_head 14 = .ok (.iload_n 2, 1) := by decide +kernel
theorem D_M_head_15 : decode cX12_head 15 = .ok (.aload_n 0, 1) := by decide +kernel
theorem D_M_head_16 : decode cX12_head 16 = .ok (.getfield 9, 3) := by decide +kernel
theorem D_M_head_19 : decode cX12_head 19 = .ok (.iload_n 1, 1) := by decide +kernel
theorem D_M_head_20 : decode cX12_head 20 = .ok (.invokestatic 255, 3) := by decide +kernel
theorem D_M_head_23 : decode cX12_head 23 = .ok (.iaload, 1) := by decide +kernel
theorem D_M_head_24 : decode cX12_head 24 = .ok (.if_icmp .ge (19), 3) := by decide +kernel
theorem D_M_head_27 : decode cX12_head 27 = .ok (.aload_n 0, 1) := by decide +kernel
theorem D_M_head_28 : decode cX12_head 28 = .ok (.getfield 9, 3) := by decide +kernel
theorem D_M_head_31 : decode cX12_head 31 = .ok (.iload_n 1, 1) := by decide +kernel
theorem D_M_head_32 : decode cX12_head 32 = .ok (.invokestatic 255, 3) := by decide +kernel
theorem D_M_head_35 : decode cX12_head 35 = .ok (.iconst (1), 1) := by decide +kernel
theorem D_M_head_36 : decode cX12_head 36 = .ok (.iadd, 1) := by decide +kernel
theorem D_M_head_37 : decode cX12_head 37 = .ok (.iload_n 2, 1) := by decide +kernel
theorem D_M_head_38 : decode cX12_head 38 = .ok (.iadd, 1) := by decide +kernel
theorem D_M_head_39 : decode cX12_head 39 = .ok (.iaload, 1) := by decide +kernel
theorem D_M_head_40 : decode cX12_head 40 = .ok (.goto (5), 3) := by decide +kernel
theorem D_M_head_43 : decode cX12_head 43 = .ok (.bipush (-2), 2) := by decide +kernel
theorem D_M_head_45 : decode cX12_head 45 = .ok (.ireturn, 1) := by decide +kernel
def K_M_head : SC := (cX12_head, "TwoLevelsModel", 3, 3, false, [], NoQ)
def d_M_head : MD Int32 := mth tt 3 (sq (sIf (cOr (cNot (eh1 z_ne (kV 13 d_M_isRule (lR 0) [vI (lI 1)]))) (eh1 z_lt (lI 2))) (rtn (eC (-1))) sk)
 (rtn (eIf (eh2 c_lt (lI 2) (eh2 (aI .int) (eh1 (gR 13 0) (lR 0)) (kS d_M_ruleAt [vI (lI 1)]))) (eh2 (aI .int) (eh1 (gR 13 0) (lR 0)) (eh2 iaddF (eh2 iaddF (kS d_M_ruleAt [vI (lI 1)]) (eC (nI 1))) (lI 2))) (eC (-2)))))
theorem m_M_head : MJ 3 [] yX12_head (some .int) eI (d_M_head) := MJ_of (K := K_M_head) (ri := .ireturn) (n1 := 0) (n2 := 0) (n3 := 0)
 (SJ_sq (p0 := 0) (p1 := 14) (nN := 0) (nB := 0) (nC := 0) (SJ_if (p0 := 0) (pT := 12) (pF := 14) (nN := 14) (nB := 0) (nC := 0) (CJ_or (p0 := 0) (pM := 8) (pT := 12) (pF := 14) (CJ_not (p0 := 0) (pT := 12) (pF := 8) (CZ_ne' (off := 7) (tgt := 12) (p0 := 0) (p1 := 5) (EJ_callV (t := 13) (c := 12) (r := (RX12, TX12, 52)) (p0 := 0) (p1 := 1) (p2 := 2) (EJ_aload_n (j := 0) (i := 0) (pc := 0) D_M_head_0 rfl) (AJ_I (p0 := 1) (p1 := 2) (p2 := 2) (EJ_iload_n (j := 1) (i := 1) (pc := 1) D_M_head_1 rfl) AJ_nil) m_M_isRule E1_I D_M_head_2 rfl rfl rfl q_1150 q_1151 q_55 q_97 ⟨by decide +kernel, by decide +kernel, by decide +kernel⟩ (by decide) (show 2 + 1 ≤ 3 from by decide) (fun _ h => absurd h List.not_mem_nil)) D_M_head_5 rfl)) (CZ_lt' (off := 5) (tgt := 14) (p0 := 8) (p1 := 9) (EJ_iload_n (j := 2) (i := 2) (pc := 8) D_M_head_8 rfl) D_M_head_9 rfl)) (SJ_ret (p0 := 12) (p1 := 13) (EJ_iconst (n := -1) (v := (-1)) (pc := 12) D_M_head_12 (by decide +kernel)) D_M_head_13) SJ_sk)
 (SJ_ret (p0 := 14) (p1 := 45) (EJ_if (p0 := 14) (pT := 27) (pF := 43) (pE := 40) (p1 := 45) (CJ_lt' (off := 19) (tgt := 43) (p0 := 14) (p1 := 15) (p2 := 24) (EJ_iload_n (j := 2) (i := 2) (pc := 14) D_M_head_14 rfl) (EJ_iald (p0 := 15) (p1 := 19) (p2 := 23) (EJ_getR (t := 13) (c := 12) (kf := 0) (r := (RX12, TX12, 52)) (p0 := 15) (p1 := 16) (EJ_aload_n (j := 0) (i := 0) (pc := 15) D_M_head_15 rfl) D_M_head_16 ⟨rfl, rfl, by decide, q_932⟩ (fun _ _ => rfl)) (EJ_callS (p0 := 19) (p1 := 20) (AJ_I (p0 := 19) (p1 := 20) (p2 := 20) (EJ_iload_n (j := 1) (i := 1) (pc := 19) D_M_head_19 rfl) AJ_nil) m_M_ruleAt E1_I D_M_head_20 q_1209 q_1210 q_97 ⟨by decide +kernel, by decide +kernel, by decide +kernel⟩ (by decide) (show 1 + 1 ≤ 3 from by decide) (fun _ h => absurd h List.not_mem_nil)) D_M_head_23) D_M_head_24 rfl) (EJ_iald (p0 := 27) (p1 := 31) (p2 := 39) (EJ_getR (t := 13) (c := 12) (kf := 0) (r := (RX12, TX12, 52)) (p0 := 27) (p1 := 28) (EJ_aload_n (j := 0) (i := 0) (pc := 27) D_M_head_27 rfl) D_M_head_28 ⟨rfl, rfl, by decide, q_932⟩ (fun _ _ => rfl)) (EJ_iadd (p0 := 31) (p1 := 37) (p2 := 38) (EJ_iadd (p0 := 31) (p1 := 35) (p2 := 36) (EJ_callS (p0 := 31) (p1 := 32) (AJ_I (p0 := 31) (p1 := 32) (p2 := 32) (EJ_iload_n (j := 1) (i := 1) (pc := 31) D_M_head_31 rfl) AJ_nil) m_M_ruleAt E1_I D_M_head_32 q_1209 q_1210 q_97 ⟨by decide +kernel, by decide +kernel, by decide +kernel⟩ (by decide) (show 1 + 1 ≤ 3 from by decide) (fun _ h => absurd h List.not_mem_nil)) (EJ_iconst (n := 1) (v := (nI 1)) (pc := 35) D_M_head_35 (by decide +kernel)) D_M_head_36) (EJ_iload_n (j := 2) (i := 2) (pc := 37) D_M_head_37 rfl) D_M_head_38) D_M_head_39) (Lead.goto (K := K_M_head) (pc := 40) (tgt := 45) D_M_head_40 rfl) (EJ_bipush (n := -2) (v := (-2)) (pc := 43) D_M_head_43 (by decide +kernel))) D_M_head_45))
 RTm_int q_1254 (by decide +kernel) rfl (fun h => by cases h) (show 3 ≤ 40 from by decide) (fun _ => trivial)
theorem D_M_heads_0 : decode cX12_heads 0 = .ok (.aload_n 0, 1) := by decide +kernel
theorem D_M_heads_1 : decode cX12_heads 1 = .ok (.iload_n 1, 1) := by decide +kernel
theorem D_M_heads_2 : decode cX12_heads 2 = .ok (.invokevirtual 217, 3) := by decide +kernel
theorem D_M_heads_5 : decode cX12_heads 5 = .ok (.ifCond .eq (12), 3) := by decide +kernel
theorem D_M_heads_8 : decode cX12_heads 8 = .ok (.aload_n 0, 1) := by decide +kernel
theorem D_M_heads_9 : decode cX12_heads 9 = .ok (.iload_n 1, 1) := by decide +kernel
theorem D_M_heads_10 : decode cX12_heads 10 = .ok (.iconst (-1), 1) := by decide +kernel
theorem D_M_heads_11 : decode cX12_heads 11 = .ok (.invokevirtual 317, 3) := by decide +kernel
theorem D_M_heads_14 : decode cX12_heads 14 = .ok (.goto (4), 3) := by decide +kernel
theorem D_M_heads_17 : decode cX12_heads 17 = .ok (.iconst (-1), 1) := by decide +kernel
theorem D_M_heads_18 : decode cX12_heads 18 = .ok (.ireturn, 1) := by decide +kernel
def K_M_heads : SC := (cX12_heads, "TwoLevelsModel", 2, 204, false, [13, 79, 80, 81, 88, 89, 90, 91], NoQ)
def d_M_heads : MD Int32 := mth tt 2 (rtn (eIf (eh1 z_ne (kV 13 d_M_isRule (lR 0) [vI (lI 1)])) (kV 13 d_M_assignments (lR 0) [vI (lI 1), vI (eC (-1))]) (eC (-1))))
theorem m_M_heads : MJ 204 [13, 79, 80, 81, 88, 89, 90, 91] yX12_heads (some .int) eI (d_M_heads) := MJ_of (K := K_M_heads) (ri := .ireturn) (n1 := 0) (n2 := 0) (n3 := 0)
 (SJ_ret (p0 := 0) (p1 := 18) (EJ_if (p0 := 0) (pT := 8) (pF := 17) (pE := 14) (p1 := 18) (CZ_ne' (off := 12) (tgt := 17) (p0 := 0) (p1 := 5) (EJ_callV (t := 13) (c := 12) (r := (RX12, TX12, 52)) (p0 := 0) (p1 := 1) (p2 := 2) (EJ_aload_n (j := 0) (i := 0) (pc := 0) D_M_heads_0 rfl) (AJ_I (p0 := 1) (p1 := 2) (p2 := 2) (EJ_iload_n (j := 1) (i := 1) (pc := 1) D_M_heads_1 rfl) AJ_nil) m_M_isRule E1_I D_M_heads_2 rfl rfl rfl q_1150 q_1151 q_55 q_97 ⟨by decide +kernel, by decide +kernel, by decide +kernel⟩ (by decide) (show 2 + 1 ≤ 204 from by decide) (fun _ h => absurd h List.not_mem_nil)) D_M_heads_5 rfl) (EJ_callV (t := 13) (c := 12) (r := (RX12, TX12, 52)) (p0 := 8) (p1 := 9) (p2 := 11) (EJ_aload_n (j := 0) (i := 0) (pc := 8) D_M_heads_8 rfl) (AJ_I (p0 := 9) (p1 := 10) (p2 := 11) (EJ_iload_n (j := 1) (i := 1) (pc := 9) D_M_heads_9 rfl) (AJ_I (p0 := 10) (p1 := 11) (p2 := 11) (EJ_iconst (n := -1) (v := (-1)) (pc := 10) D_M_heads_10 (by decide +kernel)) AJ_nil)) m_M_assignments E1_I D_M_heads_11 rfl rfl rfl q_1266 q_1267 q_74 q_97 ⟨by decide +kernel, by decide +kernel, by decide +kernel⟩ (by decide) (show 203 + 1 ≤ 204 from by decide) (show ∀ x_ ∈ ([13, 79, 80, 81, 88, 89, 90, 91] : List Nat), x_ ∈ ([13, 79, 80, 81, 88, 89, 90, 91] : List Nat) from by decide)) (Lead.goto (K := K_M_heads) (pc := 14) (tgt := 18) D_M_heads_14 rfl) (EJ_iconst (n := -1) (v := (-1)) (pc := 17) D_M_heads_17 (by decide +kernel))) D_M_heads_18)
 RTm_int q_1265 (by decide +kernel) rfl (fun h => by cases h) (show 2 ≤ 40 from by decide) (fun _ => trivial)
theorem D_M_holds_0 : decode cX12_holds 0 = .ok (.aload_n 0, 1) := by decide +kernel
theorem D_M_holds_1 : decode cX12_holds 1 = .ok (.iconst (0), 1) := by decide +kernel
theorem D_M_holds_2 : decode cX12_holds 2 = .ok (.aload_n 0, 1) := by decide +kernel
theorem D_M_holds_3 : decode cX12_holds 3 = .ok (.getfield 9, 3) := by decide +kernel
theorem D_M_holds_6 : decode cX12_holds 6 = .ok (.iconst (2), 1) := by decide +kernel
theorem D_M_holds_7 : decode cX12_holds 7 = .ok (.iaload, 1) := by decide +kernel
theorem D_M_holds_8 : decode cX12_holds 8 = .ok (.invokevirtual 369, 3) := by decide +kernel
theorem D_M_holds_11 : decode cX12_holds 11 = .ok (.ireturn, 1) := by decide +kernel
def K_M_holds : SC := (cX12_holds, "TwoLevelsModel", 1, 208, false, [13, 79, 80, 81, 82, 83, 84, 85, 87, 88, 89, 92, 93, 94, 95, 96, 97, 98, 99, 100, 101], NoQ)
def d_M_holds : MD Int32 := mth tt 1 (rtn (kV 13 d_M_searches (lR 0) [vI (eC (nI 0)), vI (eh2 (aI .int) (eh1 (gR 13 0) (lR 0)) (eC (nI 2)))]))
theorem m_M_holds : MJ 208 [13, 79, 80, 81, 82, 83, 84, 85, 87, 88, 89, 92, 93, 94, 95, 96, 97, 98, 99, 100, 101] yX12_holds (some .int) eI (d_M_holds) := MJ_of (K := K_M_holds) (ri := .ireturn) (n1 := 0) (n2 := 0) (n3 := 0)
 (SJ_ret (p0 := 0) (p1 := 11) (EJ_callV (t := 13) (c := 12) (r := (RX12, TX12, 52)) (p0 := 0) (p1 := 1) (p2 := 8) (EJ_aload_n (j := 0) (i := 0) (pc := 0) D_M_holds_0 rfl) (AJ_I (p0 := 1) (p1 := 2) (p2 := 8) (EJ_iconst (n := 0) (v := (nI 0)) (pc := 1) D_M_holds_1 (by decide +kernel)) (AJ_I (p0 := 2) (p1 := 8) (p2 := 8) (EJ_iald (p0 := 2) (p1 := 6) (p2 := 7) (EJ_getR (t := 13) (c := 12) (kf := 0) (r := (RX12, TX12, 52)) (p0 := 2) (p1 := 3) (EJ_aload_n (j := 0) (i := 0) (pc := 2) D_M_holds_2 rfl) D_M_holds_3 ⟨rfl, rfl, by decide, q_932⟩ (fun _ _ => rfl)) (EJ_iconst (n := 2) (v := (nI 2)) (pc := 6) D_M_holds_6 (by decide +kernel)) D_M_holds_7) AJ_nil)) m_M_searches E1_I D_M_holds_8 rfl rfl rfl q_1290 q_1291 q_78 q_97 ⟨by decide +kernel, by decide +kernel, by decide +kernel⟩ (by decide) (show 207 + 1 ≤ 208 from by decide) (show ∀ x_ ∈ ([13, 79, 80, 81, 82, 83, 84, 85, 87, 88, 89, 92, 93, 94, 95, 96, 97, 98, 99, 100, 101] : List Nat), x_ ∈ ([13, 79, 80, 81, 82, 83, 84, 85, 87, 88, 89, 92, 93, 94, 95, 96, 97, 98, 99, 100, 101] : List Nat) from by decide)) D_M_holds_11)
 RTm_int q_1289 (by decide +kernel) rfl (fun h => by cases h) (show 1 ≤ 40 from by decide) (fun _ => trivial)
theorem D_M_init_0 : decode cX12_init 0 = .ok (.aload_n 0, 1) := by decide +kernel
theorem D_M_init_1 : decode cX12_init 1 = .ok (.invokespecial 1, 3) := by decide +kernel
theorem D_M_init_4 : decode cX12_init 4 = .ok (.aload_n 0, 1) := by decide +kernel
theorem D_M_init_5 : decode cX12_init 5 = .ok (.sipush (1684), 3) := by decide +kernel
theorem D_M_init_8 : decode cX12_init 8 = .ok (.newarray .int, 2) := by decide +kernel
theorem D_M_init_10 : decode cX12_init 10 = .ok (.putfield 9, 3) := by decide +kernel
theorem D_M_init_13 : decode cX12_init 13 = .ok (.aload_n 0, 1) := by decide +kernel
theorem D_M_init_14 : decode cX12_init 14 = .ok (.sipush (1584), 3) := by decide +kernel
theorem D_M_init_17 : decode cX12_init 17 = .ok (.newarray .int, 2) := by decide +kernel
theorem D_M_init_19 : decode cX12_init 19 = .ok (.putfield 13, 3) := by decide +kernel
theorem D_M_init_22 : decode cX12_init 22 = .ok (.aload_n 0, 1) := by decide +kernel
theorem D_M_init_23 : decode cX12_init 23 = .ok (.sipush (15840), 3) := by decide +kernel
theorem D_M_init_26 : decode cX12_init 26 = .ok (.newarray .int, 2) := by decide +kernel
theorem D_M_init_28 : decode cX12_init 28 = .ok (.putfield 16, 3) := by decide +kernel
theorem D_M_init_31 : decode cX12_init 31 = .ok (.aload_n 0, 1) := by decide +kernel
theorem D_M_init_32 : decode cX12_init 32 = .ok (.sipush (3368), 3) := by decide +kernel
theorem D_M_init_35 : decode cX12_init 35 = .ok (.newarray .int, 2) := by decide +kernel
theorem D_M_init_37 : decode cX12_init 37 = .ok (.putfield 19, 3) := by decide +kernel
theorem D_M_init_40 : decode cX12_init 40 = .ok (.aload_n 0, 1) := by decide +kernel
theorem D_M_init_41 : decode cX12_init 41 = .ok (.iconst (2), 1) := by decide +kernel
theorem D_M_init_42 : decode cX12_init 42 = .ok (.newarray .boolean, 2) := by decide +kernel
theorem D_M_init_44 : decode cX12_init 44 = .ok (.putfield 22, 3) := by decide +kernel
theorem D_M_init_47 : decode cX12_init 47 = .ok (.aload_n 0, 1) := by decide +kernel
theorem D_M_init_48 : decode cX12_init 48 = .ok (.sipush (500), 3) := by decide +kernel
theorem D_M_init_51 : decode cX12_init 51 = .ok (.newarray .byte, 2) := by decide +kernel
theorem D_M_init_53 : decode cX12_init 53 = .ok (.putfield 26, 3) := by decide +kernel
theorem D_M_init_56 : decode cX12_init 56 = .ok (.aload_n 0, 1) := by decide +kernel
theorem D_M_init_57 : decode cX12_init 57 = .ok (.iconst (2), 1) := by decide +kernel
theorem D_M_init_58 : decode cX12_init 58 = .ok (.newarray .int, 2) := by decide +kernel
theorem D_M_init_60 : decode cX12_init 60 = .ok (.putfield 30, 3) := by decide +kernel
theorem D_M_init_63 : decode cX12_init 63 = .ok (.aload_n 0, 1) := by decide +kernel
theorem D_M_init_64 : decode cX12_init 64 = .ok (.bipush (7), 2) := by decide +kernel
theorem D_M_init_66 : decode cX12_init 66 = .ok (.newarray .int, 2) := by decide +kernel
theorem D_M_init_68 : decode cX12_init 68 = .ok (.putfield 33, 3) := by decide +kernel
theorem D_M_init_71 : decode cX12_init 71 = .ok (.aload_n 0, 1) := by decide +kernel
theorem D_M_init_72 : decode cX12_init 72 = .ok (.bipush (100), 2) := by decide +kernel
theorem D_M_init_74 : decode cX12_init 74 = .ok (.newarray .int, 2) := by decide +kernel
theorem D_M_init_76 : decode cX12_init 76 = .ok (.putfield 36, 3) := by decide +kernel
theorem D_M_init_79 : decode cX12_init 79 = .ok (.aload_n 0, 1) := by decide +kernel
theorem D_M_init_80 : decode cX12_init 80 = .ok (.sipush (140), 3) := by decide +kernel
theorem D_M_init_83 : decode cX12_init 83 = .ok (.newarray .int, 2) := by decide +kernel
theorem D_M_init_85 : decode cX12_init 85 = .ok (.putfield 39, 3) := by decide +kernel
theorem D_M_init_88 : decode cX12_init 88 = .ok (.aload_n 0, 1) := by decide +kernel
theorem D_M_init_89 : decode cX12_init 89 = .ok (.bipush (14), 2) := by decide +kernel
theorem D_M_init_91 : decode cX12_init 91 = .ok (.newarray .int, 2) := by decide +kernel
theorem D_M_init_93 : decode cX12_init 93 = .ok (.putfield 42, 3) := by decide +kernel
theorem D_M_init_96 : decode cX12_init 96 = .ok (.aload_n 0, 1) := by decide +kernel
theorem D_M_init_97 : decode cX12_init 97 = .ok (.sipush (924), 3) := by decide +kernel
theorem D_M_init_100 : decode cX12_init 100 = .ok (.newarray .int, 2) := by decide +kernel
theorem D_M_init_102 : decode cX12_init 102 = .ok (.putfield 45, 3) := by decide +kernel
theorem D_M_init_105 : decode cX12_init 105 = .ok (.aload_n 0, 1) := by decide +kernel
theorem D_M_init_106 : decode cX12_init 106 = .ok (.bipush (6), 2) := by decide +kernel
theorem D_M_init_108 : decode cX12_init 108 = .ok (.newarray .int, 2) := by decide +kernel
theorem D_M_init_110 : decode cX12_init 110 = .ok (.putfield 48, 3) := by decide +kernel
theorem D_M_init_113 : decode cX12_init 113 = .ok (.aload_n 0, 1) := by decide +kernel
theorem D_M_init_114 : decode cX12_init 114 = .ok (.bipush (120), 2) := by decide +kernel
theorem D_M_init_116 : decode cX12_init 116 = .ok (.newarray .int, 2) := by decide +kernel
theorem D_M_init_118 : decode cX12_init 118 = .ok (.putfield 51, 3) := by decide +kernel
theorem D_M_init_121 : decode cX12_init 121 = .ok (.aload_n 0, 1) := by decide +kernel
theorem D_M_init_122 : decode cX12_init 122 = .ok (.sipush (360), 3) := by decide +kernel
theorem D_M_init_125 : decode cX12_init 125 = .ok (.newarray .int, 2) := by decide +kernel
theorem D_M_init_127 : decode cX12_init 127 = .ok (.putfield 54, 3) := by decide +kernel
theorem D_M_init_130 : decode cX12_init 130 = .ok (.aload_n 0, 1) := by decide +kernel
theorem D_M_init_131 : decode cX12_init 131 = .ok (.bipush (26), 2) := by decide +kernel
theorem D_M_init_133 : decode cX12_init 133 = .ok (.newarray .boolean, 2) := by decide +kernel
theorem D_M_init_135 : decode cX12_init 135 = .ok (.putfield 57, 3) := by decide +kernel
theorem D_M_init_138 : decode cX12_init 138 = .ok (.aload_n 0, 1) := by decide +kernel
theorem D_M_init_139 : decode cX12_init 139 = .ok (.bipush (6), 2) := by decide +kernel
theorem D_M_init_141 : decode cX12_init 141 = .ok (.newarray .boolean, 2) := by decide +kernel
theorem D_M_init_143 : decode cX12_init 143 = .ok (.putfield 60, 3) := by decide +kernel
theorem D_M_init_146 : decode cX12_init 146 = .ok (.aload_n 0, 1) := by decide +kernel
theorem D_M_init_147 : decode cX12_init 147 = .ok (.iconst (2), 1) := by decide +kernel
theorem D_M_init_148 : decode cX12_init 148 = .ok (.newarray .int, 2) := by decide +kernel
theorem D_M_init_150 : decode cX12_init 150 = .ok (.putfield 63, 3) := by decide +kernel
theorem D_M_init_153 : decode cX12_init 153 = .ok (.aload_n 0, 1) := by decide +kernel
theorem D_M_init_154 : decode cX12_init 154 = .ok (.bipush (84), 2) := by decide +kernel
theorem D_M_init_156 : decode cX12_init 156 = .ok (.newarray .int, 2) := by decide +kernel
theorem D_M_init_158 : decode cX12_init 158 = .ok (.putfield 66, 3) := by decide +kernel
theorem D_M_init_161 : decode cX12_init 161 = .ok (.aload_n 0, 1) := by decide +kernel
theorem D_M_init_162 : decode cX12_init 162 = .ok (.bipush (84), 2) := by decide +kernel
theorem D_M_init_164 : decode cX12_init 164 = .ok (.newarray .int, 2) := by decide +kernel
theorem D_M_init_166 : decode cX12_init 166 = .ok (.putfield 69, 3) := by decide +kernel
theorem D_M_init_169 : decode cX12_init 169 = .ok (.aload_n 0, 1) := by decide +kernel
theorem D_M_init_170 : decode cX12_init 170 = .ok (.bipush (6), 2) := by decide +kernel
theorem D_M_init_172 : decode cX12_init 172 = .ok (.newarray .int, 2) := by decide +kernel
theorem D_M_init_174 : decode cX12_init 174 = .ok (.putfield 72, 3) := by decide +kernel
theorem D_M_init_177 : decode cX12_init 177 = .ok (.aload_n 0, 1) := by decide +kernel
theorem D_M_init_178 : decode cX12_init 178 = .ok (.bipush (6), 2) := by decide +kernel
theorem D_M_init_180 : decode cX12_init 180 = .ok (.newarray .int, 2) := by decide +kernel
theorem D_M_init_182 : decode cX12_init 182 = .ok (.putfield 75, 3) := by decide +kernel
theorem D_M_init_185 : decode cX12_init 185 = .ok (.aload_n 0, 1) := by decide +kernel
theorem D_M_init_186 : decode cX12_init 186 = .ok (.bipush (13), 2) := by decide +kernel
theorem D_M_init_188 : decode cX12_init 188 = .ok (.newarray .int, 2) := by decide +kernel
theorem D_M_init_190 : decode cX12_init 190 = .ok (.putfield 78, 3) := by decide +kernel
theorem D_M_init_193 : decode cX12_init 193 = .ok (.aload_n 0, 1) := by decide +kernel
theorem D_M_init_194 : decode cX12_init 194 = .ok (.bipush (13), 2) := by decide +kernel
theorem D_M_init_196 : decode cX12_init 196 = .ok (.newarray .int, 2) := by decide +kernel
theorem D_M_init_198 : decode cX12_init 198 = .ok (.putfield 81, 3) := by decide +kernel
theorem D_M_init_201 : decode cX12_init 201 = .ok (.aload_n 0, 1) := by decide +kernel
theorem D_M_init_202 : decode cX12_init 202 = .ok (.bipush (13), 2) := by decide +kernel
theorem D_M_init_204 : decode cX12_init 204 = .ok (.newarray .int, 2) := by decide +kernel
theorem D_M_init_206 : decode cX12_init 206 = .ok (.putfield 84, 3) := by decide +kernel
theorem D_M_init_209 : decode cX12_init 209 = .ok (.aload_n 0, 1) := by decide +kernel
theorem D_M_init_210 : decode cX12_init 210 = .ok (.bipush (13), 2) := by decide +kernel
theorem D_M_init_212 : decode cX12_init 212 = .ok (.newarray .int, 2) := by decide +kernel
theorem D_M_init_214 : decode cX12_init 214 = .ok (.putfield 87, 3) := by decide +kernel
theorem D_M_init_217 : decode cX12_init 217 = .ok (.aload_n 0, 1) := by decide +kernel
theorem D_M_init_218 : decode cX12_init 218 = .ok (.bipush (13), 2) := by decide +kernel
theorem D_M_init_220 : decode cX12_init 220 = .ok (.newarray .int, 2) := by decide +kernel
theorem D_M_init_222 : decode cX12_init 222 = .ok (.putfield 90, 3) := by decide +kernel
theorem D_M_init_225 : decode cX12_init 225 = .ok (.aload_n 0, 1) := by decide +kernel
theorem D_M_init_226 : decode cX12_init 226 = .ok (.bipush (78), 2) := by decide +kernel
theorem D_M_init_228 : decode cX12_init 228 = .ok (.newarray .int, 2) := by decide +kernel
theorem D_M_init_230 : decode cX12_init 230 = .ok (.putfield 93, 3) := by decide +kernel
theorem D_M_init_233 : decode cX12_init 233 = .ok (.aload_n 0, 1) := by decide +kernel
theorem D_M_init_234 : decode cX12_init 234 = .ok (.bipush (13), 2) := by decide +kernel
theorem D_M_init_236 : decode cX12_init 236 = .ok (.newarray .boolean, 2) := by decide +kernel
theorem D_M_init_238 : decode cX12_init 238 = .ok (.putfield 96, 3) := by decide +kernel
theorem D_M_init_241 : decode cX12_init 241 = .ok (.aload_n 0, 1) := by decide +kernel
theorem D_M_init_242 : decode cX12_init 242 = .ok (.sipush (6012), 3) := by decide +kernel
theorem D_M_init_245 : decode cX12_init 245 = .ok (.newarray .int, 2) := by decide +kernel
theorem D_M_init_247 : decode cX12_init 247 = .ok (.putfield 99, 3) := by decide +kernel
theorem D_M_init_250 : decode cX12_init 250 = .ok (.aload_n 0, 1) := by decide +kernel
theorem D_M_init_251 : decode cX12_init 251 = .ok (.sipush (5010), 3) := by decide +kernel
theorem D_M_init_254 : decode cX12_init 254 = .ok (.newarray .int, 2) := by decide +kernel
theorem D_M_init_256 : decode cX12_init 256 = .ok (.putfield 102, 3) := by decide +kernel
theorem D_M_init_259 : decode cX12_init 259 = .ok (.aload_n 0, 1) := by decide +kernel
theorem D_M_init_260 : decode cX12_init 260 = .ok (.bipush (60), 2) := by decide +kernel
theorem D_M_init_262 : decode cX12_init 262 = .ok (.newarray .int, 2) := by decide +kernel
theorem D_M_init_264 : decode cX12_init 264 = .ok (.putfield 105, 3) := by decide +kernel
theorem D_M_init_267 : decode cX12_init 267 = .ok (.aload_n 0, 1) := by decide +kernel
theorem D_M_init_268 : decode cX12_init 268 = .ok (.getfield 9, 3) := by decide +kernel
theorem D_M_init_271 : decode cX12_init 271 = .ok (.iconst (2), 1) := by decide +kernel
theorem D_M_init_272 : decode cX12_init 272 = .ok (.bipush (6), 2) := by decide +kernel
theorem D_M_init_274 : decode cX12_init 274 = .ok (.iastore, 1) := by decide +kernel
theorem D_M_init_275 : decode cX12_init 275 = .ok (.aload_n 0, 1) := by decide +kernel
theorem D_M_init_276 : decode cX12_init 276 = .ok (.getfield 9, 3) := by decide +kernel
theorem D_M_init_279 : decode cX12_init 279 = .ok (.iconst (3), 1) := by decide +kernel
theorem D_M_init_280 : decode cX12_init 280 = .ok (.iconst (2), 1) := by decide +kernel
theorem D_M_init_281 : decode cX12_init 281 = .ok (.iastore, 1) := by decide +kernel
theorem D_M_init_282 : decode cX12_init 282 = .ok (.return_, 1) := by decide +kernel
def K_M_init : SC := (cX12_init, "TwoLevelsModel", 1, 1, true, [13, 70], NoQ)
def d_M_init : MD Unit := mth tt 1 (sq sObj
 (sq (sh2 (pR 13 0) (lR 0) (nA 70 (eC (nI 1684))))
 (sq (sh2 (pR 13 1) (lR 0) (nA 71 (eC (nI 1584))))
 (sq (sh2 (pR 13 2) (lR 0) (nA 72 (eC (nI 15840))))
 (sq (sh2 (pR 13 3) (lR 0) (nA 73 (eC (nI 3368))))
 (sq (sh2 (pR 13 4) (lR 0) (nA 74 (eC (nI 2))))
 (sq (sh2 (pR 13 6) (lR 0) (nA 75 (eC (nI 500))))
 (sq (sh2 (pR 13 12) (lR 0) (nA 76 (eC (nI 2))))
 (sq (sh2 (pR 13 13) (lR 0) (nA 77 (eC (nI 7))))
 (sq (sh2 (pR 13 14) (lR 0) (nA 78 (eC (nI 100))))
 (sq (sh2 (pR 13 15) (lR 0) (nA 79 (eC (nI 140))))
 (sq (sh2 (pR 13 16) (lR 0) (nA 80 (eC (nI 14))))
 (sq (sh2 (pR 13 17) (lR 0) (nA 81 (eC (nI 924))))
 (sq (sh2 (pR 13 19) (lR 0) (nA 82 (eC (nI 6))))
 (sq (sh2 (pR 13 20) (lR 0) (nA 83 (eC (nI 120))))
 (sq (sh2 (pR 13 21) (lR 0) (nA 84 (eC (nI 360))))
 (sq (sh2 (pR 13 22) (lR 0) (nA 85 (eC (nI 26))))
 (sq (sh2 (pR 13 23) (lR 0) (nA 86 (eC (nI 6))))
 (sq (sh2 (pR 13 24) (lR 0) (nA 87 (eC (nI 2))))
 (sq (sh2 (pR 13 26) (lR 0) (nA 88 (eC (nI 84))))
 (sq (sh2 (pR 13 27) (lR 0) (nA 89 (eC (nI 84))))
 (sq (sh2 (pR 13 30) (lR 0) (nA 90 (eC (nI 6))))
 (sq (sh2 (pR 13 31) (lR 0) (nA 91 (eC (nI 6))))
 (sq (sh2 (pR 13 38) (lR 0) (nA 92 (eC (nI 13))))
 (sq (sh2 (pR 13 39) (lR 0) (nA 93 (eC (nI 13))))
 (sq (sh2 (pR 13 40) (lR 0) (nA 94 (eC (nI 13))))
 (sq (sh2 (pR 13 41) (lR 0) (nA 95 (eC (nI 13))))
 (sq (sh2 (pR 13 42) (lR 0) (nA 96 (eC (nI 13))))
 (sq (sh2 (pR 13 43) (lR 0) (nA 97 (eC (nI 78))))
 (sq (sh2 (pR 13 44) (lR 0) (nA 98 (eC (nI 13))))
 (sq (sh2 (pR 13 45) (lR 0) (nA 99 (eC (nI 6012))))
 (sq (sh2 (pR 13 46) (lR 0) (nA 100 (eC (nI 5010))))
 (sq (sh2 (pR 13 48) (lR 0) (nA 101 (eC (nI 60))))
 (sq (sh3 (stI [70]) (eh1 (gR 13 0) (lR 0)) (eC (nI 2)) (eC (nI 6)))
 (sq (sh3 (stI [70]) (eh1 (gR 13 0) (lR 0)) (eC (nI 3)) (eC (nI 2)))
 rtnU)))))))))))))))))))))))))))))))))))
theorem m_M_init : MJ 1 [13, 70] yX12_init none eU (d_M_init) := MJ_of (K := K_M_init) (ri := .return_) (n1 := 0) (n2 := 0) (n3 := 0)
 (SJ_sq (p0 := 0) (p1 := 4) (nN := 0) (nB := 0) (nC := 0) (SJ_obj (pc := 0) (idx := 1) D_M_init_0 D_M_init_1 q_931 q_114 q_115 (show 1 ≤ 1 from by decide))
 (SJ_sq (p0 := 4) (p1 := 13) (nN := 0) (nB := 0) (nC := 0) (SJ_putR (t := 13) (c := 12) (kf := 0) (r := (RX12, TX12, 52)) (p0 := 4) (p1 := 5) (p2 := 10) (EJ_aload_n (j := 0) (i := 0) (pc := 4) D_M_init_4 rfl) (EJ_newarr (atype := .int) (ty := .int) (t := 70) (p0 := 5) (p1 := 8) (EJ_sipush (n := 1684) (v := (nI 1684)) (pc := 5) D_M_init_5 (by decide +kernel)) D_M_init_8 rfl (by decide) q_145 rfl) D_M_init_10 ⟨rfl, rfl, by decide, q_932⟩ (Or.inr ⟨rfl, rfl⟩) (Or.inr ⟨_, rfl⟩) (fun _ _ => rfl) (show (13 : Nat) ∈ ([13, 70] : List Nat) from by decide))
 (SJ_sq (p0 := 13) (p1 := 22) (nN := 0) (nB := 0) (nC := 0) (SJ_putR (t := 13) (c := 12) (kf := 1) (r := (RX12, TX12, 52)) (p0 := 13) (p1 := 14) (p2 := 19) (EJ_aload_n (j := 0) (i := 0) (pc := 13) D_M_init_13 rfl) (EJ_newarr (atype := .int) (ty := .int) (t := 71) (p0 := 14) (p1 := 17) (EJ_sipush (n := 1584) (v := (nI 1584)) (pc := 14) D_M_init_14 (by decide +kernel)) D_M_init_17 rfl (by decide) q_145 rfl) D_M_init_19 ⟨rfl, rfl, by decide, q_933⟩ (Or.inr ⟨rfl, rfl⟩) (Or.inr ⟨_, rfl⟩) (fun _ _ => rfl) (show (13 : Nat) ∈ ([13, 70] : List Nat) from by decide))
 (SJ_sq (p0 := 22) (p1 := 31) (nN := 0) (nB := 0) (nC := 0) (SJ_putR (t := 13) (c := 12) (kf := 2) (r := (RX12, TX12, 52)) (p0 := 22) (p1 := 23) (p2 := 28) (EJ_aload_n (j := 0) (i := 0) (pc := 22) D_M_init_22 rfl) (EJ_newarr (atype := .int) (ty := .int) (t := 72) (p0 := 23) (p1 := 26) (EJ_sipush (n := 15840) (v := (nI 15840)) (pc := 23) D_M_init_23 (by decide +kernel)) D_M_init_26 rfl (by decide) q_145 rfl) D_M_init_28 ⟨rfl, rfl, by decide, q_934⟩ (Or.inr ⟨rfl, rfl⟩) (Or.inr ⟨_, rfl⟩) (fun _ _ => rfl) (show (13 : Nat) ∈ ([13, 70] : List Nat) from by decide))
 (SJ_sq (p0 := 31) (p1 := 40) (nN := 0) (nB := 0) (nC := 0) (SJ_putR (t := 13) (c := 12) (kf := 3) (r := (RX12, TX12, 52)) (p0 := 31) (p1 := 32) (p2 := 37) (EJ_aload_n (j := 0) (i := 0) (pc := 31) D_M_init_31 rfl) (EJ_newarr (atype := .int) (ty := .int) (t := 73) (p0 := 32) (p1 := 35) (EJ_sipush (n := 3368) (v := (nI 3368)) (pc := 32) D_M_init_32 (by decide +kernel)) D_M_init_35 rfl (by decide) q_145 rfl) D_M_init_37 ⟨rfl, rfl, by decide, q_935⟩ (Or.inr ⟨rfl, rfl⟩) (Or.inr ⟨_, rfl⟩) (fun _ _ => rfl) (show (13 : Nat) ∈ ([13, 70] : List Nat) from by decide))
 (SJ_sq (p0 := 40) (p1 := 47) (nN := 0) (nB := 0) (nC := 0) (SJ_putR (t := 13) (c := 12) (kf := 4) (r := (RX12, TX12, 52)) (p0 := 40) (p1 := 41) (p2 := 44) (EJ_aload_n (j := 0) (i := 0) (pc := 40) D_M_init_40 rfl) (EJ_newarr (atype := .boolean) (ty := .boolean) (t := 74) (p0 := 41) (p1 := 42) (EJ_iconst (n := 2) (v := (nI 2)) (pc := 41) D_M_init_41 (by decide +kernel)) D_M_init_42 rfl (by decide) q_1036 rfl) D_M_init_44 ⟨rfl, rfl, by decide, q_936⟩ (Or.inr ⟨rfl, rfl⟩) (Or.inr ⟨_, rfl⟩) (fun _ _ => rfl) (show (13 : Nat) ∈ ([13, 70] : List Nat) from by decide))
 (SJ_sq (p0 := 47) (p1 := 56) (nN := 0) (nB := 0) (nC := 0) (SJ_putR (t := 13) (c := 12) (kf := 6) (r := (RX12, TX12, 52)) (p0 := 47) (p1 := 48) (p2 := 53) (EJ_aload_n (j := 0) (i := 0) (pc := 47) D_M_init_47 rfl) (EJ_newarr (atype := .byte) (ty := .byte) (t := 75) (p0 := 48) (p1 := 51) (EJ_sipush (n := 500) (v := (nI 500)) (pc := 48) D_M_init_48 (by decide +kernel)) D_M_init_51 rfl (by decide) q_1037 rfl) D_M_init_53 ⟨rfl, rfl, by decide, q_938⟩ (Or.inr ⟨rfl, rfl⟩) (Or.inr ⟨_, rfl⟩) (fun _ _ => rfl) (show (13 : Nat) ∈ ([13, 70] : List Nat) from by decide))
 (SJ_sq (p0 := 56) (p1 := 63) (nN := 0) (nB := 0) (nC := 0) (SJ_putR (t := 13) (c := 12) (kf := 12) (r := (RX12, TX12, 52)) (p0 := 56) (p1 := 57) (p2 := 60) (EJ_aload_n (j := 0) (i := 0) (pc := 56) D_M_init_56 rfl) (EJ_newarr (atype := .int) (ty := .int) (t := 76) (p0 := 57) (p1 := 58) (EJ_iconst (n := 2) (v := (nI 2)) (pc := 57) D_M_init_57 (by decide +kernel)) D_M_init_58 rfl (by decide) q_145 rfl) D_M_init_60 ⟨rfl, rfl, by decide, q_944⟩ (Or.inr ⟨rfl, rfl⟩) (Or.inr ⟨_, rfl⟩) (fun _ _ => rfl) (show (13 : Nat) ∈ ([13, 70] : List Nat) from by decide))
 (SJ_sq (p0 := 63) (p1 := 71) (nN := 0) (nB := 0) (nC := 0) (SJ_putR (t := 13) (c := 12) (kf := 13) (r := (RX12, TX12, 52)) (p0 := 63) (p1 := 64) (p2 := 68) (EJ_aload_n (j := 0) (i := 0) (pc := 63) D_M_init_63 rfl) (EJ_newarr (atype := .int) (ty := .int) (t := 77) (p0 := 64) (p1 := 66) (EJ_bipush (n := 7) (v := (nI 7)) (pc := 64) D_M_init_64 (by decide +kernel)) D_M_init_66 rfl (by decide) q_145 rfl) D_M_init_68 ⟨rfl, rfl, by decide, q_945⟩ (Or.inr ⟨rfl, rfl⟩) (Or.inr ⟨_, rfl⟩) (fun _ _ => rfl) (show (13 : Nat) ∈ ([13, 70] : List Nat) from by decide))
 (SJ_sq (p0 := 71) (p1 := 79) (nN := 0) (nB := 0) (nC := 0) (SJ_putR (t := 13) (c := 12) (kf := 14) (r := (RX12, TX12, 52)) (p0 := 71) (p1 := 72) (p2 := 76) (EJ_aload_n (j := 0) (i := 0) (pc := 71) D_M_init_71 rfl) (EJ_newarr (atype := .int) (ty := .int) (t := 78) (p0 := 72) (p1 := 74) (EJ_bipush (n := 100) (v := (nI 100)) (pc := 72) D_M_init_72 (by decide +kernel)) D_M_init_74 rfl (by decide) q_145 rfl) D_M_init_76 ⟨rfl, rfl, by decide, q_946⟩ (Or.inr ⟨rfl, rfl⟩) (Or.inr ⟨_, rfl⟩) (fun _ _ => rfl) (show (13 : Nat) ∈ ([13, 70] : List Nat) from by decide))
 (SJ_sq (p0 := 79) (p1 := 88) (nN := 0) (nB := 0) (nC := 0) (SJ_putR (t := 13) (c := 12) (kf := 15) (r := (RX12, TX12, 52)) (p0 := 79) (p1 := 80) (p2 := 85) (EJ_aload_n (j := 0) (i := 0) (pc := 79) D_M_init_79 rfl) (EJ_newarr (atype := .int) (ty := .int) (t := 79) (p0 := 80) (p1 := 83) (EJ_sipush (n := 140) (v := (nI 140)) (pc := 80) D_M_init_80 (by decide +kernel)) D_M_init_83 rfl (by decide) q_145 rfl) D_M_init_85 ⟨rfl, rfl, by decide, q_947⟩ (Or.inr ⟨rfl, rfl⟩) (Or.inr ⟨_, rfl⟩) (fun _ _ => rfl) (show (13 : Nat) ∈ ([13, 70] : List Nat) from by decide))
 (SJ_sq (p0 := 88) (p1 := 96) (nN := 0) (nB := 0) (nC := 0) (SJ_putR (t := 13) (c := 12) (kf := 16) (r := (RX12, TX12, 52)) (p0 := 88) (p1 := 89) (p2 := 93) (EJ_aload_n (j := 0) (i := 0) (pc := 88) D_M_init_88 rfl) (EJ_newarr (atype := .int) (ty := .int) (t := 80) (p0 := 89) (p1 := 91) (EJ_bipush (n := 14) (v := (nI 14)) (pc := 89) D_M_init_89 (by decide +kernel)) D_M_init_91 rfl (by decide) q_145 rfl) D_M_init_93 ⟨rfl, rfl, by decide, q_948⟩ (Or.inr ⟨rfl, rfl⟩) (Or.inr ⟨_, rfl⟩) (fun _ _ => rfl) (show (13 : Nat) ∈ ([13, 70] : List Nat) from by decide))
 (SJ_sq (p0 := 96) (p1 := 105) (nN := 0) (nB := 0) (nC := 0) (SJ_putR (t := 13) (c := 12) (kf := 17) (r := (RX12, TX12, 52)) (p0 := 96) (p1 := 97) (p2 := 102) (EJ_aload_n (j := 0) (i := 0) (pc := 96) D_M_init_96 rfl) (EJ_newarr (atype := .int) (ty := .int) (t := 81) (p0 := 97) (p1 := 100) (EJ_sipush (n := 924) (v := (nI 924)) (pc := 97) D_M_init_97 (by decide +kernel)) D_M_init_100 rfl (by decide) q_145 rfl) D_M_init_102 ⟨rfl, rfl, by decide, q_949⟩ (Or.inr ⟨rfl, rfl⟩) (Or.inr ⟨_, rfl⟩) (fun _ _ => rfl) (show (13 : Nat) ∈ ([13, 70] : List Nat) from by decide))
 (SJ_sq (p0 := 105) (p1 := 113) (nN := 0) (nB := 0) (nC := 0) (SJ_putR (t := 13) (c := 12) (kf := 19) (r := (RX12, TX12, 52)) (p0 := 105) (p1 := 106) (p2 := 110) (EJ_aload_n (j := 0) (i := 0) (pc := 105) D_M_init_105 rfl) (EJ_newarr (atype := .int) (ty := .int) (t := 82) (p0 := 106) (p1 := 108) (EJ_bipush (n := 6) (v := (nI 6)) (pc := 106) D_M_init_106 (by decide +kernel)) D_M_init_108 rfl (by decide) q_145 rfl) D_M_init_110 ⟨rfl, rfl, by decide, q_951⟩ (Or.inr ⟨rfl, rfl⟩) (Or.inr ⟨_, rfl⟩) (fun _ _ => rfl) (show (13 : Nat) ∈ ([13, 70] : List Nat) from by decide))
 (SJ_sq (p0 := 113) (p1 := 121) (nN := 0) (nB := 0) (nC := 0) (SJ_putR (t := 13) (c := 12) (kf := 20) (r := (RX12, TX12, 52)) (p0 := 113) (p1 := 114) (p2 := 118) (EJ_aload_n (j := 0) (i := 0) (pc := 113) D_M_init_113 rfl) (EJ_newarr (atype := .int) (ty := .int) (t := 83) (p0 := 114) (p1 := 116) (EJ_bipush (n := 120) (v := (nI 120)) (pc := 114) D_M_init_114 (by decide +kernel)) D_M_init_116 rfl (by decide) q_145 rfl) D_M_init_118 ⟨rfl, rfl, by decide, q_952⟩ (Or.inr ⟨rfl, rfl⟩) (Or.inr ⟨_, rfl⟩) (fun _ _ => rfl) (show (13 : Nat) ∈ ([13, 70] : List Nat) from by decide))
 (SJ_sq (p0 := 121) (p1 := 130) (nN := 0) (nB := 0) (nC := 0) (SJ_putR (t := 13) (c := 12) (kf := 21) (r := (RX12, TX12, 52)) (p0 := 121) (p1 := 122) (p2 := 127) (EJ_aload_n (j := 0) (i := 0) (pc := 121) D_M_init_121 rfl) (EJ_newarr (atype := .int) (ty := .int) (t := 84) (p0 := 122) (p1 := 125) (EJ_sipush (n := 360) (v := (nI 360)) (pc := 122) D_M_init_122 (by decide +kernel)) D_M_init_125 rfl (by decide) q_145 rfl) D_M_init_127 ⟨rfl, rfl, by decide, q_953⟩ (Or.inr ⟨rfl, rfl⟩) (Or.inr ⟨_, rfl⟩) (fun _ _ => rfl) (show (13 : Nat) ∈ ([13, 70] : List Nat) from by decide))
 (SJ_sq (p0 := 130) (p1 := 138) (nN := 0) (nB := 0) (nC := 0) (SJ_putR (t := 13) (c := 12) (kf := 22) (r := (RX12, TX12, 52)) (p0 := 130) (p1 := 131) (p2 := 135) (EJ_aload_n (j := 0) (i := 0) (pc := 130) D_M_init_130 rfl) (EJ_newarr (atype := .boolean) (ty := .boolean) (t := 85) (p0 := 131) (p1 := 133) (EJ_bipush (n := 26) (v := (nI 26)) (pc := 131) D_M_init_131 (by decide +kernel)) D_M_init_133 rfl (by decide) q_1036 rfl) D_M_init_135 ⟨rfl, rfl, by decide, q_954⟩ (Or.inr ⟨rfl, rfl⟩) (Or.inr ⟨_, rfl⟩) (fun _ _ => rfl) (show (13 : Nat) ∈ ([13, 70] : List Nat) from by decide))
 (SJ_sq (p0 := 138) (p1 := 146) (nN := 0) (nB := 0) (nC := 0) (SJ_putR (t := 13) (c := 12) (kf := 23) (r := (RX12, TX12, 52)) (p0 := 138) (p1 := 139) (p2 := 143) (EJ_aload_n (j := 0) (i := 0) (pc := 138) D_M_init_138 rfl) (EJ_newarr (atype := .boolean) (ty := .boolean) (t := 86) (p0 := 139) (p1 := 141) (EJ_bipush (n := 6) (v := (nI 6)) (pc := 139) D_M_init_139 (by decide +kernel)) D_M_init_141 rfl (by decide) q_1036 rfl) D_M_init_143 ⟨rfl, rfl, by decide, q_955⟩ (Or.inr ⟨rfl, rfl⟩) (Or.inr ⟨_, rfl⟩) (fun _ _ => rfl) (show (13 : Nat) ∈ ([13, 70] : List Nat) from by decide))
 (SJ_sq (p0 := 146) (p1 := 153) (nN := 0) (nB := 0) (nC := 0) (SJ_putR (t := 13) (c := 12) (kf := 24) (r := (RX12, TX12, 52)) (p0 := 146) (p1 := 147) (p2 := 150) (EJ_aload_n (j := 0) (i := 0) (pc := 146) D_M_init_146 rfl) (EJ_newarr (atype := .int) (ty := .int) (t := 87) (p0 := 147) (p1 := 148) (EJ_iconst (n := 2) (v := (nI 2)) (pc := 147) D_M_init_147 (by decide +kernel)) D_M_init_148 rfl (by decide) q_145 rfl) D_M_init_150 ⟨rfl, rfl, by decide, q_956⟩ (Or.inr ⟨rfl, rfl⟩) (Or.inr ⟨_, rfl⟩) (fun _ _ => rfl) (show (13 : Nat) ∈ ([13, 70] : List Nat) from by decide))
 (SJ_sq (p0 := 153) (p1 := 161) (nN := 0) (nB := 0) (nC := 0) (SJ_putR (t := 13) (c := 12) (kf := 26) (r := (RX12, TX12, 52)) (p0 := 153) (p1 := 154) (p2 := 158) (EJ_aload_n (j := 0) (i := 0) (pc := 153) D_M_init_153 rfl) (EJ_newarr (atype := .int) (ty := .int) (t := 88) (p0 := 154) (p1 := 156) (EJ_bipush (n := 84) (v := (nI 84)) (pc := 154) D_M_init_154 (by decide +kernel)) D_M_init_156 rfl (by decide) q_145 rfl) D_M_init_158 ⟨rfl, rfl, by decide, q_958⟩ (Or.inr ⟨rfl, rfl⟩) (Or.inr ⟨_, rfl⟩) (fun _ _ => rfl) (show (13 : Nat) ∈ ([13, 70] : List Nat) from by decide))
 (SJ_sq (p0 := 161) (p1 := 169) (nN := 0) (nB := 0) (nC := 0) (SJ_putR (t := 13) (c := 12) (kf := 27) (r := (RX12, TX12, 52)) (p0 := 161) (p1 := 162) (p2 := 166) (EJ_aload_n (j := 0) (i := 0) (pc := 161) D_M_init_161 rfl) (EJ_newarr (atype := .int) (ty := .int) (t := 89) (p0 := 162) (p1 := 164) (EJ_bipush (n := 84) (v := (nI 84)) (pc := 162) D_M_init_162 (by decide +kernel)) D_M_init_164 rfl (by decide) q_145 rfl) D_M_init_166 ⟨rfl, rfl, by decide, q_959⟩ (Or.inr ⟨rfl, rfl⟩) (Or.inr ⟨_, rfl⟩) (fun _ _ => rfl) (show (13 : Nat) ∈ ([13, 70] : List Nat) from by decide))
 (SJ_sq (p0 := 169) (p1 := 177) (nN := 0) (nB := 0) (nC := 0) (SJ_putR (t := 13) (c := 12) (kf := 30) (r := (RX12, TX12, 52)) (p0 := 169) (p1 := 170) (p2 := 174) (EJ_aload_n (j := 0) (i := 0) (pc := 169) D_M_init_169 rfl) (EJ_newarr (atype := .int) (ty := .int) (t := 90) (p0 := 170) (p1 := 172) (EJ_bipush (n := 6) (v := (nI 6)) (pc := 170) D_M_init_170 (by decide +kernel)) D_M_init_172 rfl (by decide) q_145 rfl) D_M_init_174 ⟨rfl, rfl, by decide, q_962⟩ (Or.inr ⟨rfl, rfl⟩) (Or.inr ⟨_, rfl⟩) (fun _ _ => rfl) (show (13 : Nat) ∈ ([13, 70] : List Nat) from by decide))
 (SJ_sq (p0 := 177) (p1 := 185) (nN := 0) (nB := 0) (nC := 0) (SJ_putR (t := 13) (c := 12) (kf := 31) (r := (RX12, TX12, 52)) (p0 := 177) (p1 := 178) (p2 := 182) (EJ_aload_n (j := 0) (i := 0) (pc := 177) D_M_init_177 rfl) (EJ_newarr (atype := .int) (ty := .int) (t := 91) (p0 := 178) (p1 := 180) (EJ_bipush (n := 6) (v := (nI 6)) (pc := 178) D_M_init_178 (by decide +kernel)) D_M_init_180 rfl (by decide) q_145 rfl) D_M_init_182 ⟨rfl, rfl, by decide, q_963⟩ (Or.inr ⟨rfl, rfl⟩) (Or.inr ⟨_, rfl⟩) (fun _ _ => rfl) (show (13 : Nat) ∈ ([13, 70] : List Nat) from by decide))
 (SJ_sq (p0 := 185) (p1 := 193) (nN := 0) (nB := 0) (nC := 0) (SJ_putR (t := 13) (c := 12) (kf := 38) (r := (RX12, TX12, 52)) (p0 := 185) (p1 := 186) (p2 := 190) (EJ_aload_n (j := 0) (i := 0) (pc := 185) D_M_init_185 rfl) (EJ_newarr (atype := .int) (ty := .int) (t := 92) (p0 := 186) (p1 := 188) (EJ_bipush (n := 13) (v := (nI 13)) (pc := 186) D_M_init_186 (by decide +kernel)) D_M_init_188 rfl (by decide) q_145 rfl) D_M_init_190 ⟨rfl, rfl, by decide, q_970⟩ (Or.inr ⟨rfl, rfl⟩) (Or.inr ⟨_, rfl⟩) (fun _ _ => rfl) (show (13 : Nat) ∈ ([13, 70] : List Nat) from by decide))
 (SJ_sq (p0 := 193) (p1 := 201) (nN := 0) (nB := 0) (nC := 0) (SJ_putR (t := 13) (c := 12) (kf := 39) (r := (RX12, TX12, 52)) (p0 := 193) (p1 := 194) (p2 := 198) (EJ_aload_n (j := 0) (i := 0) (pc := 193) D_M_init_193 rfl) (EJ_newarr (atype := .int) (ty := .int) (t := 93) (p0 := 194) (p1 := 196) (EJ_bipush (n := 13) (v := (nI 13)) (pc := 194) D_M_init_194 (by decide +kernel)) D_M_init_196 rfl (by decide) q_145 rfl) D_M_init_198 ⟨rfl, rfl, by decide, q_971⟩ (Or.inr ⟨rfl, rfl⟩) (Or.inr ⟨_, rfl⟩) (fun _ _ => rfl) (show (13 : Nat) ∈ ([13, 70] : List Nat) from by decide))
 (SJ_sq (p0 := 201) (p1 := 209) (nN := 0) (nB := 0) (nC := 0) (SJ_putR (t := 13) (c := 12) (kf := 40) (r := (RX12, TX12, 52)) (p0 := 201) (p1 := 202) (p2 := 206) (EJ_aload_n (j := 0) (i := 0) (pc := 201) D_M_init_201 rfl) (EJ_newarr (atype := .int) (ty := .int) (t := 94) (p0 := 202) (p1 := 204) (EJ_bipush (n := 13) (v := (nI 13)) (pc := 202) D_M_init_202 (by decide +kernel)) D_M_init_204 rfl (by decide) q_145 rfl) D_M_init_206 ⟨rfl, rfl, by decide, q_972⟩ (Or.inr ⟨rfl, rfl⟩) (Or.inr ⟨_, rfl⟩) (fun _ _ => rfl) (show (13 : Nat) ∈ ([13, 70] : List Nat) from by decide))
 (SJ_sq (p0 := 209) (p1 := 217) (nN := 0) (nB := 0) (nC := 0) (SJ_putR (t := 13) (c := 12) (kf := 41) (r := (RX12, TX12, 52)) (p0 := 209) (p1 := 210) (p2 := 214) (EJ_aload_n (j := 0) (i := 0) (pc := 209) D_M_init_209 rfl) (EJ_newarr (atype := .int) (ty := .int) (t := 95) (p0 := 210) (p1 := 212) (EJ_bipush (n := 13) (v := (nI 13)) (pc := 210) D_M_init_210 (by decide +kernel)) D_M_init_212 rfl (by decide) q_145 rfl) D_M_init_214 ⟨rfl, rfl, by decide, q_973⟩ (Or.inr ⟨rfl, rfl⟩) (Or.inr ⟨_, rfl⟩) (fun _ _ => rfl) (show (13 : Nat) ∈ ([13, 70] : List Nat) from by decide))
 (SJ_sq (p0 := 217) (p1 := 225) (nN := 0) (nB := 0) (nC := 0) (SJ_putR (t := 13) (c := 12) (kf := 42) (r := (RX12, TX12, 52)) (p0 := 217) (p1 := 218) (p2 := 222) (EJ_aload_n (j := 0) (i := 0) (pc := 217) D_M_init_217 rfl) (EJ_newarr (atype := .int) (ty := .int) (t := 96) (p0 := 218) (p1 := 220) (EJ_bipush (n := 13) (v := (nI 13)) (pc := 218) D_M_init_218 (by decide +kernel)) D_M_init_220 rfl (by decide) q_145 rfl) D_M_init_222 ⟨rfl, rfl, by decide, q_974⟩ (Or.inr ⟨rfl, rfl⟩) (Or.inr ⟨_, rfl⟩) (fun _ _ => rfl) (show (13 : Nat) ∈ ([13, 70] : List Nat) from by decide))
 (SJ_sq (p0 := 225) (p1 := 233) (nN := 0) (nB := 0) (nC := 0) (SJ_putR (t := 13) (c := 12) (kf := 43) (r := (RX12, TX12, 52)) (p0 := 225) (p1 := 226) (p2 := 230) (EJ_aload_n (j := 0) (i := 0) (pc := 225) D_M_init_225 rfl) (EJ_newarr (atype := .int) (ty := .int) (t := 97) (p0 := 226) (p1 := 228) (EJ_bipush (n := 78) (v := (nI 78)) (pc := 226) D_M_init_226 (by decide +kernel)) D_M_init_228 rfl (by decide) q_145 rfl) D_M_init_230 ⟨rfl, rfl, by decide, q_975⟩ (Or.inr ⟨rfl, rfl⟩) (Or.inr ⟨_, rfl⟩) (fun _ _ => rfl) (show (13 : Nat) ∈ ([13, 70] : List Nat) from by decide))
 (SJ_sq (p0 := 233) (p1 := 241) (nN := 0) (nB := 0) (nC := 0) (SJ_putR (t := 13) (c := 12) (kf := 44) (r := (RX12, TX12, 52)) (p0 := 233) (p1 := 234) (p2 := 238) (EJ_aload_n (j := 0) (i := 0) (pc := 233) D_M_init_233 rfl) (EJ_newarr (atype := .boolean) (ty := .boolean) (t := 98) (p0 := 234) (p1 := 236) (EJ_bipush (n := 13) (v := (nI 13)) (pc := 234) D_M_init_234 (by decide +kernel)) D_M_init_236 rfl (by decide) q_1036 rfl) D_M_init_238 ⟨rfl, rfl, by decide, q_976⟩ (Or.inr ⟨rfl, rfl⟩) (Or.inr ⟨_, rfl⟩) (fun _ _ => rfl) (show (13 : Nat) ∈ ([13, 70] : List Nat) from by decide))
 (SJ_sq (p0 := 241) (p1 := 250) (nN := 0) (nB := 0) (nC := 0) (SJ_putR (t := 13) (c := 12) (kf := 45) (r := (RX12, TX12, 52)) (p0 := 241) (p1 := 242) (p2 := 247) (EJ_aload_n (j := 0) (i := 0) (pc := 241) D_M_init_241 rfl) (EJ_newarr (atype := .int) (ty := .int) (t := 99) (p0 := 242) (p1 := 245) (EJ_sipush (n := 6012) (v := (nI 6012)) (pc := 242) D_M_init_242 (by decide +kernel)) D_M_init_245 rfl (by decide) q_145 rfl) D_M_init_247 ⟨rfl, rfl, by decide, q_977⟩ (Or.inr ⟨rfl, rfl⟩) (Or.inr ⟨_, rfl⟩) (fun _ _ => rfl) (show (13 : Nat) ∈ ([13, 70] : List Nat) from by decide))
 (SJ_sq (p0 := 250) (p1 := 259) (nN := 0) (nB := 0) (nC := 0) (SJ_putR (t := 13) (c := 12) (kf := 46) (r := (RX12, TX12, 52)) (p0 := 250) (p1 := 251) (p2 := 256) (EJ_aload_n (j := 0) (i := 0) (pc := 250) D_M_init_250 rfl) (EJ_newarr (atype := .int) (ty := .int) (t := 100) (p0 := 251) (p1 := 254) (EJ_sipush (n := 5010) (v := (nI 5010)) (pc := 251) D_M_init_251 (by decide +kernel)) D_M_init_254 rfl (by decide) q_145 rfl) D_M_init_256 ⟨rfl, rfl, by decide, q_978⟩ (Or.inr ⟨rfl, rfl⟩) (Or.inr ⟨_, rfl⟩) (fun _ _ => rfl) (show (13 : Nat) ∈ ([13, 70] : List Nat) from by decide))
 (SJ_sq (p0 := 259) (p1 := 267) (nN := 0) (nB := 0) (nC := 0) (SJ_putR (t := 13) (c := 12) (kf := 48) (r := (RX12, TX12, 52)) (p0 := 259) (p1 := 260) (p2 := 264) (EJ_aload_n (j := 0) (i := 0) (pc := 259) D_M_init_259 rfl) (EJ_newarr (atype := .int) (ty := .int) (t := 101) (p0 := 260) (p1 := 262) (EJ_bipush (n := 60) (v := (nI 60)) (pc := 260) D_M_init_260 (by decide +kernel)) D_M_init_262 rfl (by decide) q_145 rfl) D_M_init_264 ⟨rfl, rfl, by decide, q_980⟩ (Or.inr ⟨rfl, rfl⟩) (Or.inr ⟨_, rfl⟩) (fun _ _ => rfl) (show (13 : Nat) ∈ ([13, 70] : List Nat) from by decide))
 (SJ_sq (p0 := 267) (p1 := 275) (nN := 0) (nB := 0) (nC := 0) (SJ_iast (ws := [70]) (p0 := 267) (p1 := 271) (p2 := 272) (p3 := 274) (EJ_getR (t := 13) (c := 12) (kf := 0) (r := (RX12, TX12, 52)) (p0 := 267) (p1 := 268) (EJ_aload_n (j := 0) (i := 0) (pc := 267) D_M_init_267 rfl) D_M_init_268 ⟨rfl, rfl, by decide, q_932⟩ (fun _ _ => rfl)) (EJ_iconst (n := 2) (v := (nI 2)) (pc := 271) D_M_init_271 (by decide +kernel)) (EJ_bipush (n := 6) (v := (nI 6)) (pc := 272) D_M_init_272 (by decide +kernel)) D_M_init_274 (show ∀ x_ ∈ ([70] : List Nat), x_ ∈ ([13, 70] : List Nat) from by decide))
 (SJ_sq (p0 := 275) (p1 := 282) (nN := 0) (nB := 0) (nC := 0) (SJ_iast (ws := [70]) (p0 := 275) (p1 := 279) (p2 := 280) (p3 := 281) (EJ_getR (t := 13) (c := 12) (kf := 0) (r := (RX12, TX12, 52)) (p0 := 275) (p1 := 276) (EJ_aload_n (j := 0) (i := 0) (pc := 275) D_M_init_275 rfl) D_M_init_276 ⟨rfl, rfl, by decide, q_932⟩ (fun _ _ => rfl)) (EJ_iconst (n := 3) (v := (nI 3)) (pc := 279) D_M_init_279 (by decide +kernel)) (EJ_iconst (n := 2) (v := (nI 2)) (pc := 280) D_M_init_280 (by decide +kernel)) D_M_init_281 (show ∀ x_ ∈ ([70] : List Nat), x_ ∈ ([13, 70] : List Nat) from by decide))
 (SJ_retU (pc := 282) D_M_init_282))))))))))))))))))))))))))))))))))))
 RTm_void q_930 (by decide +kernel) rfl (fun _ => rfl) (show 1 ≤ 40 from by decide) (fun _ => trivial)
