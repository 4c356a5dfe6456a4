/-! the program: part 13 -/
theorem D_M_takes_0 : decode cX12_takes 0 = .ok (.aload_n 0, 1) := by decide +kernel
theorem D_M_takes_1 : decode cX12_takes 1 = .ok (.bipush (13), 2) := by decide +kernel
theorem D_M_takes_3 : decode cX12_takes 3 = .ok (.invokevirtual 243, 3) := by decide +kernel
theorem D_M_takes_6 : decode cX12_takes 6 = .ok (.iconst (0), 1) := by decide +kernel
theorem D_M_takes_7 : decode cX12_takes 7 = .ok (.istore_n 1, 1) := by decide +kernel
theorem D_M_takes_8 : decode cX12_takes 8 = .ok (.iload_n 1, 1) := by decide +kernel
theorem D_M_takes_9 : decode cX12_takes 9 = .ok (.aload_n 0, 1) := by decide +kernel
theorem D_M_takes_10 : decode cX12_takes 10 = .ok (.getfield 9, 3) := by decide +kernel
theorem D_M_takes_13 : decode cX12_takes 13 = .ok (.iconst (0), 1) := by decide +kernel
theorem D_M_takes_14 : decode cX12_takes 14 = .ok (.iaload, 1) := by decide +kernel
theorem D_M_takes_15 : decode cX12_takes 15 = .ok (.if_icmp .ge (119), 3) := by decide +kernel
theorem D_M_takes_18 : decode cX12_takes 18 = .ok (.aload_n 0, 1) := by decide +kernel
theorem D_M_takes_19 : decode cX12_takes 19 = .ok (.getfield 45, 3) := by decide +kernel
theorem D_M_takes_22 : decode cX12_takes 22 = .ok (.bipush (13), 2) := by decide +kernel
theorem D_M_takes_24 : decode cX12_takes 24 = .ok (.iload_n 1, 1) := by decide +kernel
theorem D_M_takes_25 : decode cX12_takes 25 = .ok (.iconst (0), 1) := by decide +kernel
theorem D_M_takes_26 : decode cX12_takes 26 = .ok (.invokestatic 226, 3) := by decide +kernel
theorem D_M_takes_29 : decode cX12_takes 29 = .ok (.iaload, 1) := by decide +kernel
theorem D_M_takes_30 : decode cX12_takes 30 = .ok (.aload_n 0, 1) := by decide +kernel
theorem D_M_takes_31 : decode cX12_takes 31 = .ok (.getfield 42, 3) := by decide +kernel
theorem D_M_takes_34 : decode cX12_takes 34 = .ok (.bipush (13), 2) := by decide +kernel
theorem D_M_takes_36 : decode cX12_takes 36 = .ok (.iaload, 1) := by decide +kernel
theorem D_M_takes_37 : decode cX12_takes 37 = .ok (.invokestatic 223, 3) := by decide +kernel
theorem D_M_takes_40 : decode cX12_takes 40 = .ok (.ifCond .eq (88), 3) := by decide +kernel
theorem D_M_takes_43 : decode cX12_takes 43 = .ok (.aload_n 0, 1) := by decide +kernel
theorem D_M_takes_44 : decode cX12_takes 44 = .ok (.getfield 48, 3) := by decide +kernel
theorem D_M_takes_47 : decode cX12_takes 47 = .ok (.iload_n 1, 1) := by decide +kernel
theorem D_M_takes_48 : decode cX12_takes 48 = .ok (.iaload, 1) := by decide +kernel
theorem D_M_takes_49 : decode cX12_takes 49 = .ok (.bipush (20), 2) := by decide +kernel
theorem D_M_takes_51 : decode cX12_takes 51 = .ok (.if_icmp .ne (6), 3) := by decide +kernel
theorem D_M_takes_54 : decode cX12_takes 54 = .ok (.goto (74), 3) := by decide +kernel
theorem D_M_takes_57 : decode cX12_takes 57 = .ok (.bipush (20), 2) := by decide +kernel
theorem D_M_takes_59 : decode cX12_takes 59 = .ok (.iload_n 1, 1) := by decide +kernel
theorem D_M_takes_60 : decode cX12_takes 60 = .ok (.imul, 1) := by decide +kernel
theorem D_M_takes_61 : decode cX12_takes 61 = .ok (.aload_n 0, 1) := by decide +kernel
theorem D_M_takes_62 : decode cX12_takes 62 = .ok (.getfield 48, 3) := by decide +kernel
theorem D_M_takes_65 : decode cX12_takes 65 = .ok (.iload_n 1, 1) := by decide +kernel
theorem D_M_takes_66 : decode cX12_takes 66 = .ok (.iaload, 1) := by decide +kernel
theorem D_M_takes_67 : decode cX12_takes 67 = .ok (.iadd, 1) := by decide +kernel
theorem D_M_takes_68 : decode cX12_takes 68 = .ok (.istore_n 2, 1) := by decide +kernel
theorem D_M_takes_69 : decode cX12_takes 69 = .ok (.aload_n 0, 1) := by decide +kernel
theorem D_M_takes_70 : decode cX12_takes 70 = .ok (.getfield 51, 3) := by decide +kernel
theorem D_M_takes_73 : decode cX12_takes 73 = .ok (.iload_n 2, 1) := by decide +kernel
theorem D_M_takes_74 : decode cX12_takes 74 = .ok (.aload_n 0, 1) := by decide +kernel
theorem D_M_takes_75 : decode cX12_takes 75 = .ok (.getfield 42, 3) := by decide +kernel
theorem D_M_takes_78 : decode cX12_takes 78 = .ok (.bipush (13), 2) := by decide +kernel
theorem D_M_takes_80 : decode cX12_takes 80 = .ok (.iaload, 1) := by decide +kernel
theorem D_M_takes_81 : decode cX12_takes 81 = .ok (.iastore, 1) := by decide +kernel
theorem D_M_takes_82 : decode cX12_takes 82 = .ok (.iconst (0), 1) := by decide +kernel
theorem D_M_takes_83 : decode cX12_takes 83 = .ok (.istore_n 3, 1) := by decide +kernel
theorem D_M_takes_84 : decode cX12_takes 84 = .ok (.iload_n 3, 1) := by decide +kernel
theorem D_M_takes_85 : decode cX12_takes 85 = .ok (.aload_n 0, 1) := by decide +kernel
theorem D_M_takes_86 : decode cX12_takes 86 = .ok (.getfield 42, 3) := by decide +kernel
theorem D_M_takes_89 : decode cX12_takes 89 = .ok (.bipush (13), 2) := by decide +kernel
theorem D_M_takes_91 : decode cX12_takes 91 = .ok (.iaload, 1) := by decide +kernel
theorem D_M_takes_92 : decode cX12_takes 92 = .ok (.if_icmp .ge (26), 3) := by decide +kernel
theorem D_M_takes_95 : decode cX12_takes 95 = .ok (.aload_n 0, 1) := by decide +kernel
theorem D_M_takes_96 : decode cX12_takes 96 = .ok (.getfield 54, 3) := by decide +kernel
theorem D_M_takes_99 : decode cX12_takes 99 = .ok (.iconst (3), 1) := by decide +kernel
theorem D_M_takes_100 : decode cX12_takes 100 = .ok (.iload_n 2, 1) := by decide +kernel
theorem D_M_takes_101 : decode cX12_takes 101 = .ok (.imul, 1) := by decide +kernel
theorem D_M_takes_102 : decode cX12_takes 102 = .ok (.iload_n 3, 1) := by decide +kernel
theorem D_M_takes_103 : decode cX12_takes 103 = .ok (.iadd, 1) := by decide +kernel
theorem D_M_takes_104 : decode cX12_takes 104 = .ok (.aload_n 0, 1) := by decide +kernel
theorem D_M_takes_105 : decode cX12_takes 105 = .ok (.bipush (13), 2) := by decide +kernel
theorem D_M_takes_107 : decode cX12_takes 107 = .ok (.iload_n 3, 1) := by decide +kernel
theorem D_M_takes_108 : decode cX12_takes 108 = .ok (.invokevirtual 230, 3) := by decide +kernel
theorem D_M_takes_111 : decode cX12_takes 111 = .ok (.iastore, 1) := by decide +kernel
theorem D_M_takes_112 : decode cX12_takes 112 = .ok (.iinc 3 (1), 3) := by decide +kernel
theorem D_M_takes_115 : decode cX12_takes 115 = .ok (.goto (-31), 3) := by decide +kernel
theorem D_M_takes_118 : decode cX12_takes 118 = .ok (.aload_n 0, 1) := by decide +kernel
theorem D_M_takes_119 : decode cX12_takes 119 = .ok (.getfield 48, 3) := by decide +kernel
theorem D_M_takes_122 : decode cX12_takes 122 = .ok (.iload_n 1, 1) := by decide +kernel
theorem D_M_takes_123 : decode cX12_takes 123 = .ok (.dup2, 1) := by decide +kernel
theorem D_M_takes_124 : decode cX12_takes 124 = .ok (.iaload, 1) := by decide +kernel
theorem D_M_takes_125 : decode cX12_takes 125 = .ok (.iconst (1), 1) := by decide +kernel
theorem D_M_takes_126 : decode cX12_takes 126 = .ok (.iadd, 1) := by decide +kernel
theorem D_M_takes_127 : decode cX12_takes 127 = .ok (.iastore, 1) := by decide +kernel
theorem D_M_takes_128 : decode cX12_takes 128 = .ok (.iinc 1 (1), 3) := by decide +kernel
theorem D_M_takes_131 : decode cX12_takes 131 = .ok (.goto (-123), 3) := by decide +kernel
theorem D_M_takes_134 : decode cX12_takes 134 = .ok (.return_, 1) := by decide +kernel
def K_M_takes : SC := (cX12_takes, "TwoLevelsModel", 4, 5, false, [81, 82, 83, 84], NoQ)
def d_M_takes : MD Unit := mth tt 4 (sq (sE (kV 13 d_M_laysSpans (lR 0) [vI (eC (nI 13))]))
 (sq (sq (sI1 1 (eC (nI 0)))
 (loop (eh2 c_lt (lI 1) (eh2 (aI .int) (eh1 (gR 13 0) (lR 0)) (eC (nI 0))))
 (sq (sIf (cOr (cNot (eh1 z_ne (kS d_M_has [vI (eh2 (aI .int) (eh1 (gR 13 17) (lR 0)) (kS d_M_spanAt [vI (eC (nI 13)), vI (lI 1), vI (eC (nI 0))])), vI (eh2 (aI .int) (eh1 (gR 13 16) (lR 0)) (eC (nI 13)))]))) (eh2 c_eq (eh2 (aI .int) (eh1 (gR 13 19) (lR 0)) (lI 1)) (eC (nI 20)))) cnt sk)
 (sq (sI1 2 (eh2 iaddF (eh2 imulF (eC (nI 20)) (lI 1)) (eh2 (aI .int) (eh1 (gR 13 19) (lR 0)) (lI 1))))
 (sq (sh3 (stI [83]) (eh1 (gR 13 20) (lR 0)) (lI 2) (eh2 (aI .int) (eh1 (gR 13 16) (lR 0)) (eC (nI 13))))
 (sq (sq (sI1 3 (eC (nI 0)))
 (loop (eh2 c_lt (lI 3) (eh2 (aI .int) (eh1 (gR 13 16) (lR 0)) (eC (nI 13))))
 (sh3 (stI [84]) (eh1 (gR 13 21) (lR 0)) (eh2 iaddF (eh2 imulF (eC (nI 3)) (lI 2)) (lI 3)) (kV 13 d_M_letterAt (lR 0) [vI (eC (nI 13)), vI (lI 3)]))
 (sInc 3 (nI 1))))
 (su3 (aI .int) (uA [82] (fun x y => x + y)) (eh1 (gR 13 19) (lR 0)) (lI 1) (eC (nI 1)))))))
 (sInc 1 (nI 1))))
 rtnU))
theorem m_M_takes : MJ 5 [81, 82, 83, 84] yX12_takes none eU (d_M_takes) := MJ_of (K := K_M_takes) (ri := .return_) (n1 := 0) (n2 := 0) (n3 := 0)
 (SJ_sq (p0 := 0) (p1 := 6) (nN := 0) (nB := 0) (nC := 0) (SJ_void (p0 := 0) (p1 := 6) (EJ_callV (t := 13) (c := 12) (r := (RX12, TX12, 52)) (p0 := 0) (p1 := 1) (p2 := 3) (EJ_aload_n (j := 0) (i := 0) (pc := 0) D_M_takes_0 rfl) (AJ_I (p0 := 1) (p1 := 3) (p2 := 3) (EJ_bipush (n := 13) (v := (nI 13)) (pc := 1) D_M_takes_1 (by decide +kernel)) AJ_nil) m_M_laysSpans E1_U D_M_takes_3 rfl rfl rfl q_1179 q_1180 q_61 q_97 ⟨by decide +kernel, by decide +kernel, by decide +kernel⟩ (by decide) (show 4 + 1 ≤ 5 from by decide) (show ∀ x_ ∈ ([81] : List Nat), x_ ∈ ([81, 82, 83, 84] : List Nat) from by decide)))
 (SJ_sq (p0 := 6) (p1 := 134) (nN := 0) (nB := 0) (nC := 0) (SJ_sq (p0 := 6) (p1 := 8) (nN := 134) (nB := 0) (nC := 0) (SJ_istore_n (i := 1) (j := 1) (p0 := 6) (p1 := 7) (EJ_iconst (n := 0) (v := (nI 0)) (pc := 6) D_M_takes_6 (by decide +kernel)) D_M_takes_7 rfl)
 (SJ_loop (p0 := 8) (pB := 18) (pS := 128) (pE := 134) (CJ_lt' (off := 119) (tgt := 134) (p0 := 8) (p1 := 9) (p2 := 15) (EJ_iload_n (j := 1) (i := 1) (pc := 8) D_M_takes_8 rfl) (EJ_iald (p0 := 9) (p1 := 13) (p2 := 14) (EJ_getR (t := 13) (c := 12) (kf := 0) (r := (RX12, TX12, 52)) (p0 := 9) (p1 := 10) (EJ_aload_n (j := 0) (i := 0) (pc := 9) D_M_takes_9 rfl) D_M_takes_10 ⟨rfl, rfl, by decide, q_932⟩ (fun _ _ => rfl)) (EJ_iconst (n := 0) (v := (nI 0)) (pc := 13) D_M_takes_13 (by decide +kernel)) D_M_takes_14) D_M_takes_15 rfl)
 (SJ_sq (p0 := 18) (p1 := 57) (nN := 128) (nB := 134) (nC := 128) (SJ_if (p0 := 18) (pT := 128) (pF := 57) (nN := 57) (nB := 134) (nC := 128) (CJ_or (p0 := 18) (pM := 43) (pT := 128) (pF := 57) (CJ_not (p0 := 18) (pT := 128) (pF := 43) (CZ_ne' (off := 88) (tgt := 128) (p0 := 18) (p1 := 40) (EJ_callS (p0 := 18) (p1 := 37) (AJ_I (p0 := 18) (p1 := 30) (p2 := 37) (EJ_iald (p0 := 18) (p1 := 22) (p2 := 29) (EJ_getR (t := 13) (c := 12) (kf := 17) (r := (RX12, TX12, 52)) (p0 := 18) (p1 := 19) (EJ_aload_n (j := 0) (i := 0) (pc := 18) D_M_takes_18 rfl) D_M_takes_19 ⟨rfl, rfl, by decide, q_949⟩ (fun _ _ => rfl)) (EJ_callS (p0 := 22) (p1 := 26) (AJ_I (p0 := 22) (p1 := 24) (p2 := 26) (EJ_bipush (n := 13) (v := (nI 13)) (pc := 22) D_M_takes_22 (by decide +kernel)) (AJ_I (p0 := 24) (p1 := 25) (p2 := 26) (EJ_iload_n (j := 1) (i := 1) (pc := 24) D_M_takes_24 rfl) (AJ_I (p0 := 25) (p1 := 26) (p2 := 26) (EJ_iconst (n := 0) (v := (nI 0)) (pc := 25) D_M_takes_25 (by decide +kernel)) AJ_nil))) m_M_spanAt E1_I D_M_takes_26 q_1182 q_1183 q_97 ⟨by decide +kernel, by decide +kernel, by decide +kernel⟩ (by decide) (show 1 + 1 ≤ 5 from by decide) (fun _ h => absurd h List.not_mem_nil)) D_M_takes_29) (AJ_I (p0 := 30) (p1 := 37) (p2 := 37) (EJ_iald (p0 := 30) (p1 := 34) (p2 := 36) (EJ_getR (t := 13) (c := 12) (kf := 16) (r := (RX12, TX12, 52)) (p0 := 30) (p1 := 31) (EJ_aload_n (j := 0) (i := 0) (pc := 30) D_M_takes_30 rfl) D_M_takes_31 ⟨rfl, rfl, by decide, q_948⟩ (fun _ _ => rfl)) (EJ_bipush (n := 13) (v := (nI 13)) (pc := 34) D_M_takes_34 (by decide +kernel)) D_M_takes_36) AJ_nil)) m_M_has E1_I D_M_takes_37 q_1188 q_1189 q_97 ⟨by decide +kernel, by decide +kernel, by decide +kernel⟩ (by decide) (show 1 + 1 ≤ 5 from by decide) (fun _ h => absurd h List.not_mem_nil)) D_M_takes_40 rfl)) (CJ_lead (CJ_eq' (off := 6) (tgt := 57) (p0 := 43) (p1 := 49) (p2 := 51) (EJ_iald (p0 := 43) (p1 := 47) (p2 := 48) (EJ_getR (t := 13) (c := 12) (kf := 19) (r := (RX12, TX12, 52)) (p0 := 43) (p1 := 44) (EJ_aload_n (j := 0) (i := 0) (pc := 43) D_M_takes_43 rfl) D_M_takes_44 ⟨rfl, rfl, by decide, q_951⟩ (fun _ _ => rfl)) (EJ_iload_n (j := 1) (i := 1) (pc := 47) D_M_takes_47 rfl) D_M_takes_48) (EJ_bipush (n := 20) (v := (nI 20)) (pc := 49) D_M_takes_49 (by decide +kernel)) D_M_takes_51 rfl) (Lead.goto (K := K_M_takes) (pc := 54) (tgt := 128) D_M_takes_54 rfl) Lead.rf)) SJ_cnt SJ_sk)
 (SJ_sq (p0 := 57) (p1 := 69) (nN := 128) (nB := 134) (nC := 128) (SJ_istore_n (i := 2) (j := 2) (p0 := 57) (p1 := 68) (EJ_iadd (p0 := 57) (p1 := 61) (p2 := 67) (EJ_imul (p0 := 57) (p1 := 59) (p2 := 60) (EJ_bipush (n := 20) (v := (nI 20)) (pc := 57) D_M_takes_57 (by decide +kernel)) (EJ_iload_n (j := 1) (i := 1) (pc := 59) D_M_takes_59 rfl) D_M_takes_60) (EJ_iald (p0 := 61) (p1 := 65) (p2 := 66) (EJ_getR (t := 13) (c := 12) (kf := 19) (r := (RX12, TX12, 52)) (p0 := 61) (p1 := 62) (EJ_aload_n (j := 0) (i := 0) (pc := 61) D_M_takes_61 rfl) D_M_takes_62 ⟨rfl, rfl, by decide, q_951⟩ (fun _ _ => rfl)) (EJ_iload_n (j := 1) (i := 1) (pc := 65) D_M_takes_65 rfl) D_M_takes_66) D_M_takes_67) D_M_takes_68 rfl)
 (SJ_sq (p0 := 69) (p1 := 82) (nN := 128) (nB := 134) (nC := 128) (SJ_iast (ws := [83]) (p0 := 69) (p1 := 73) (p2 := 74) (p3 := 81) (EJ_getR (t := 13) (c := 12) (kf := 20) (r := (RX12, TX12, 52)) (p0 := 69) (p1 := 70) (EJ_aload_n (j := 0) (i := 0) (pc := 69) D_M_takes_69 rfl) D_M_takes_70 ⟨rfl, rfl, by decide, q_952⟩ (fun _ _ => rfl)) (EJ_iload_n (j := 2) (i := 2) (pc := 73) D_M_takes_73 rfl) (EJ_iald (p0 := 74) (p1 := 78) (p2 := 80) (EJ_getR (t := 13) (c := 12) (kf := 16) (r := (RX12, TX12, 52)) (p0 := 74) (p1 := 75) (EJ_aload_n (j := 0) (i := 0) (pc := 74) D_M_takes_74 rfl) D_M_takes_75 ⟨rfl, rfl, by decide, q_948⟩ (fun _ _ => rfl)) (EJ_bipush (n := 13) (v := (nI 13)) (pc := 78) D_M_takes_78 (by decide +kernel)) D_M_takes_80) D_M_takes_81 (show ∀ x_ ∈ ([83] : List Nat), x_ ∈ ([81, 82, 83, 84] : List Nat) from by decide))
 (SJ_sq (p0 := 82) (p1 := 118) (nN := 128) (nB := 134) (nC := 128) (SJ_sq (p0 := 82) (p1 := 84) (nN := 118) (nB := 134) (nC := 128) (SJ_istore_n (i := 3) (j := 3) (p0 := 82) (p1 := 83) (EJ_iconst (n := 0) (v := (nI 0)) (pc := 82) D_M_takes_82 (by decide +kernel)) D_M_takes_83 rfl)
 (SJ_loop (p0 := 84) (pB := 95) (pS := 112) (pE := 118) (CJ_lt' (off := 26) (tgt := 118) (p0 := 84) (p1 := 85) (p2 := 92) (EJ_iload_n (j := 3) (i := 3) (pc := 84) D_M_takes_84 rfl) (EJ_iald (p0 := 85) (p1 := 89) (p2 := 91) (EJ_getR (t := 13) (c := 12) (kf := 16) (r := (RX12, TX12, 52)) (p0 := 85) (p1 := 86) (EJ_aload_n (j := 0) (i := 0) (pc := 85) D_M_takes_85 rfl) D_M_takes_86 ⟨rfl, rfl, by decide, q_948⟩ (fun _ _ => rfl)) (EJ_bipush (n := 13) (v := (nI 13)) (pc := 89) D_M_takes_89 (by decide +kernel)) D_M_takes_91) D_M_takes_92 rfl)
 (SJ_iast (ws := [84]) (p0 := 95) (p1 := 99) (p2 := 104) (p3 := 111) (EJ_getR (t := 13) (c := 12) (kf := 21) (r := (RX12, TX12, 52)) (p0 := 95) (p1 := 96) (EJ_aload_n (j := 0) (i := 0) (pc := 95) D_M_takes_95 rfl) D_M_takes_96 ⟨rfl, rfl, by decide, q_953⟩ (fun _ _ => rfl)) (EJ_iadd (p0 := 99) (p1 := 102) (p2 := 103) (EJ_imul (p0 := 99) (p1 := 100) (p2 := 101) (EJ_iconst (n := 3) (v := (nI 3)) (pc := 99) D_M_takes_99 (by decide +kernel)) (EJ_iload_n (j := 2) (i := 2) (pc := 100) D_M_takes_100 rfl) D_M_takes_101) (EJ_iload_n (j := 3) (i := 3) (pc := 102) D_M_takes_102 rfl) D_M_takes_103) (EJ_callV (t := 13) (c := 12) (r := (RX12, TX12, 52)) (p0 := 104) (p1 := 105) (p2 := 108) (EJ_aload_n (j := 0) (i := 0) (pc := 104) D_M_takes_104 rfl) (AJ_I (p0 := 105) (p1 := 107) (p2 := 108) (EJ_bipush (n := 13) (v := (nI 13)) (pc := 105) D_M_takes_105 (by decide +kernel)) (AJ_I (p0 := 107) (p1 := 108) (p2 := 108) (EJ_iload_n (j := 3) (i := 3) (pc := 107) D_M_takes_107 rfl) AJ_nil)) m_M_letterAt E1_I D_M_takes_108 rfl rfl rfl q_1191 q_1192 q_63 q_97 ⟨by decide +kernel, by decide +kernel, by decide +kernel⟩ (by decide) (show 1 + 1 ≤ 5 from by decide) (fun _ h => absurd h List.not_mem_nil)) D_M_takes_111 (show ∀ x_ ∈ ([84] : List Nat), x_ ∈ ([81, 82, 83, 84] : List Nat) from by decide))
 (SJ_post (SJ_iinc (i := 3) (n := 1) (v := (nI 1)) (pc := 112) D_M_takes_112 (by decide +kernel)) (Lead.goto (K := K_M_takes) (pc := 115) (tgt := 84) D_M_takes_115 rfl))))
 (SJ_upA (ws := [82]) (f := (fun x y => x + y)) (p0 := 118) (p1 := 122) (p2 := 123) (p4 := 126) (EJ_getR (t := 13) (c := 12) (kf := 19) (r := (RX12, TX12, 52)) (p0 := 118) (p1 := 119) (EJ_aload_n (j := 0) (i := 0) (pc := 118) D_M_takes_118 rfl) D_M_takes_119 ⟨rfl, rfl, by decide, q_951⟩ (fun _ _ => rfl)) (EJ_iload_n (j := 1) (i := 1) (pc := 122) D_M_takes_122 rfl) D_M_takes_123 D_M_takes_124 (EJ_iconst (n := 1) (v := (nI 1)) (pc := 125) D_M_takes_125 (by decide +kernel)) (Op2_iadd D_M_takes_126) D_M_takes_127 (show ∀ x_ ∈ ([82] : List Nat), x_ ∈ ([81, 82, 83, 84] : List Nat) from by decide))))))
 (SJ_post (SJ_iinc (i := 1) (n := 1) (v := (nI 1)) (pc := 128) D_M_takes_128 (by decide +kernel)) (Lead.goto (K := K_M_takes) (pc := 131) (tgt := 8) D_M_takes_131 rfl))))
 (SJ_retU (pc := 134) D_M_takes_134)))
 RTm_void q_1178 (by decide +kernel) rfl (fun h => by cases h) (show 4 ≤ 40 from by decide) (fun _ => trivial)
theorem D_M_findsFrom_0 : decode cX12_findsFrom 0 = .ok (.iload_n 1, 1) := by decide +kernel
theorem D_M_findsFrom_1 : decode cX12_findsFrom 1 = .ok (.aload_n 0, 1) := by decide +kernel
theorem D_M_findsFrom_2 : decode cX12_findsFrom 2 = .ok (.getfield 42, 3) := by decide +kernel
theorem D_M_findsFrom_5 : decode cX12_findsFrom 5 = .ok (.bipush (13), 2) := by decide +kernel
theorem D_M_findsFrom_7 : decode cX12_findsFrom 7 = .ok (.iaload, 1) := by decide +kernel
theorem D_M_findsFrom_8 : decode cX12_findsFrom 8 = .ok (.if_icmp .ne (8), 3) := by decide +kernel
theorem D_M_findsFrom_11 : decode cX12_findsFrom 11 = .ok (.aload_n 0, 1) := by decide +kernel
theorem D_M_findsFrom_12 : decode cX12_findsFrom 12 = .ok (.invokevirtual 249, 3) := by decide +kernel
theorem D_M_findsFrom_15 : decode cX12_findsFrom 15 = .ok (.return_, 1) := by decide +kernel
theorem D_M_findsFrom_16 : decode cX12_findsFrom 16 = .ok (.iconst (0), 1) := by decide +kernel
theorem D_M_findsFrom_17 : decode cX12_findsFrom 17 = .ok (.istore_n 2, 1) := by decide +kernel
theorem D_M_findsFrom_18 : decode cX12_findsFrom 18 = .ok (.iload_n 2, 1) := by decide +kernel
theorem D_M_findsFrom_19 : decode cX12_findsFrom 19 = .ok (.bipush (26), 2) := by decide +kernel
theorem D_M_findsFrom_21 : decode cX12_findsFrom 21 = .ok (.if_icmp .ge (39), 3) := by decide +kernel
theorem D_M_findsFrom_24 : decode cX12_findsFrom 24 = .ok (.aload_n 0, 1) := by decide +kernel
theorem D_M_findsFrom_25 : decode cX12_findsFrom 25 = .ok (.getfield 57, 3) := by decide +kernel
theorem D_M_findsFrom_28 : decode cX12_findsFrom 28 = .ok (.iload_n 2, 1) := by decide +kernel
theorem D_M_findsFrom_29 : decode cX12_findsFrom 29 = .ok (.baload, 1) := by decide +kernel
theorem D_M_findsFrom_30 : decode cX12_findsFrom 30 = .ok (.ifCond .eq (24), 3) := by decide +kernel
theorem D_M_findsFrom_33 : decode cX12_findsFrom 33 = .ok (.aload_n 0, 1) := by decide +kernel
theorem D_M_findsFrom_34 : decode cX12_findsFrom 34 = .ok (.getfield 39, 3) := by decide +kernel
theorem D_M_findsFrom_37 : decode cX12_findsFrom 37 = .ok (.sipush (130), 3) := by decide +kernel
theorem D_M_findsFrom_40 : decode cX12_findsFrom 40 = .ok (.iload_n 1, 1) := by decide +kernel
theorem D_M_findsFrom_41 : decode cX12_findsFrom 41 = .ok (.iadd, 1) := by decide +kernel
theorem D_M_findsFrom_42 : decode cX12_findsFrom 42 = .ok (.bipush (97), 2) := by decide +kernel
theorem D_M_findsFrom_44 : decode cX12_findsFrom 44 = .ok (.iload_n 2, 1) := by decide +kernel
theorem D_M_findsFrom_45 : decode cX12_findsFrom 45 = .ok (.iadd, 1) := by decide +kernel
theorem D_M_findsFrom_46 : decode cX12_findsFrom 46 = .ok (.iastore, 1) := by decide +kernel
theorem D_M_findsFrom_47 : decode cX12_findsFrom 47 = .ok (.aload_n 0, 1) := by decide +kernel
theorem D_M_findsFrom_48 : decode cX12_findsFrom 48 = .ok (.iload_n 1, 1) := by decide +kernel
theorem D_M_findsFrom_49 : decode cX12_findsFrom 49 = .ok (.iconst (1), 1) := by decide +kernel
theorem D_M_findsFrom_50 : decode cX12_findsFrom 50 = .ok (.iadd, 1) := by decide +kernel
theorem D_M_findsFrom_51 : decode cX12_findsFrom 51 = .ok (.invokevirtual 246, 3) := by decide +kernel
theorem D_M_findsFrom_54 : decode cX12_findsFrom 54 = .ok (.iinc 2 (1), 3) := by decide +kernel
theorem D_M_findsFrom_57 : decode cX12_findsFrom 57 = .ok (.goto (-39), 3) := by decide +kernel
theorem D_M_findsFrom_60 : decode cX12_findsFrom 60 = .ok (.return_, 1) := by decide +kernel
def K_M_findsFrom (n : Nat) : SC := (cX12_findsFrom, "TwoLevelsModel", 3, 5 + n + 1, false, [79, 81, 82, 83, 84], NoQ)
def b_M_findsFrom (R : Nat → MD Unit) : MD Unit := mth tt 3 (sq (sIf (eh2 c_eq (lI 1) (eh2 (aI .int) (eh1 (gR 13 16) (lR 0)) (eC (nI 13)))) (sq (sE (kV 13 d_M_takes (lR 0) []))
 rtnU) sk)
 (sq (sq (sI1 2 (eC (nI 0)))
 (loop (eh2 c_lt (lI 2) (eC (nI 26)))
 (sIf (eh1 z_ne (eh2 (aI .boolean) (eh1 (gR 13 22) (lR 0)) (lI 2))) (sq (sh3 (stI [79]) (eh1 (gR 13 15) (lR 0)) (eh2 iaddF (eC (nI 130)) (lI 1)) (eh2 iaddF (eC (nI 97)) (lI 2)))
 (sE (kV 13 (R 0) (lR 0) [vI (eh2 iaddF (lI 1) (eC (nI 1)))]))) sk)
 (sInc 2 (nI 1))))
 rtnU))
theorem s_M_findsFrom (n : Nat) (R : Nat → MD Unit) (h0 : MJ (5 + n) [79, 81, 82, 83, 84] yX12_findsFrom none eU (R 0)) : MJ (5 + n + 1) [79, 81, 82, 83, 84] yX12_findsFrom none eU (b_M_findsFrom R) := MJ_of (K := K_M_findsFrom n) (ri := .return_) (n1 := 0) (n2 := 0) (n3 := 0)
 (SJ_sq (p0 := 0) (p1 := 16) (nN := 0) (nB := 0) (nC := 0) (SJ_if (p0 := 0) (pT := 11) (pF := 16) (nN := 16) (nB := 0) (nC := 0) (CJ_eq' (off := 8) (tgt := 16) (p0 := 0) (p1 := 1) (p2 := 8) (EJ_iload_n (j := 1) (i := 1) (pc := 0) D_M_findsFrom_0 rfl) (EJ_iald (p0 := 1) (p1 := 5) (p2 := 7) (EJ_getR (t := 13) (c := 12) (kf := 16) (r := (RX12, TX12, 52)) (p0 := 1) (p1 := 2) (EJ_aload_n (j := 0) (i := 0) (pc := 1) D_M_findsFrom_1 rfl) D_M_findsFrom_2 ⟨rfl, rfl, by decide, q_948⟩ (fun _ _ => rfl)) (EJ_bipush (n := 13) (v := (nI 13)) (pc := 5) D_M_findsFrom_5 (by decide +kernel)) D_M_findsFrom_7) D_M_findsFrom_8 rfl) (SJ_sq (p0 := 11) (p1 := 15) (nN := 16) (nB := 0) (nC := 0) (SJ_void (p0 := 11) (p1 := 15) (EJ_callV (t := 13) (c := 12) (r := (RX12, TX12, 52)) (p0 := 11) (p1 := 12) (p2 := 12) (EJ_aload_n (j := 0) (i := 0) (pc := 11) D_M_findsFrom_11 rfl) AJ_nil m_M_takes E1_U D_M_findsFrom_12 rfl rfl rfl q_1176 q_1177 q_60 q_97 ⟨by decide +kernel, by decide +kernel, by decide +kernel⟩ (by decide) (show 5 + 1 ≤ 5 + n + 1 from by omega) (show ∀ x_ ∈ ([81, 82, 83, 84] : List Nat), x_ ∈ ([79, 81, 82, 83, 84] : List Nat) from by decide)))
 (SJ_retU (pc := 15) D_M_findsFrom_15)) SJ_sk)
 (SJ_sq (p0 := 16) (p1 := 60) (nN := 0) (nB := 0) (nC := 0) (SJ_sq (p0 := 16) (p1 := 18) (nN := 60) (nB := 0) (nC := 0) (SJ_istore_n (i := 2) (j := 2) (p0 := 16) (p1 := 17) (EJ_iconst (n := 0) (v := (nI 0)) (pc := 16) D_M_findsFrom_16 (by decide +kernel)) D_M_findsFrom_17 rfl)
 (SJ_loop (p0 := 18) (pB := 24) (pS := 54) (pE := 60) (CJ_lt' (off := 39) (tgt := 60) (p0 := 18) (p1 := 19) (p2 := 21) (EJ_iload_n (j := 2) (i := 2) (pc := 18) D_M_findsFrom_18 rfl) (EJ_bipush (n := 26) (v := (nI 26)) (pc := 19) D_M_findsFrom_19 (by decide +kernel)) D_M_findsFrom_21 rfl)
 (SJ_if (p0 := 24) (pT := 33) (pF := 54) (nN := 54) (nB := 60) (nC := 54) (CZ_ne' (off := 24) (tgt := 54) (p0 := 24) (p1 := 30) (EJ_zald (p0 := 24) (p1 := 28) (p2 := 29) (EJ_getR (t := 13) (c := 12) (kf := 22) (r := (RX12, TX12, 52)) (p0 := 24) (p1 := 25) (EJ_aload_n (j := 0) (i := 0) (pc := 24) D_M_findsFrom_24 rfl) D_M_findsFrom_25 ⟨rfl, rfl, by decide, q_954⟩ (fun _ _ => rfl)) (EJ_iload_n (j := 2) (i := 2) (pc := 28) D_M_findsFrom_28 rfl) D_M_findsFrom_29) D_M_findsFrom_30 rfl) (SJ_sq (p0 := 33) (p1 := 47) (nN := 54) (nB := 60) (nC := 54) (SJ_iast (ws := [79]) (p0 := 33) (p1 := 37) (p2 := 42) (p3 := 46) (EJ_getR (t := 13) (c := 12) (kf := 15) (r := (RX12, TX12, 52)) (p0 := 33) (p1 := 34) (EJ_aload_n (j := 0) (i := 0) (pc := 33) D_M_findsFrom_33 rfl) D_M_findsFrom_34 ⟨rfl, rfl, by decide, q_947⟩ (fun _ _ => rfl)) (EJ_iadd (p0 := 37) (p1 := 40) (p2 := 41) (EJ_sipush (n := 130) (v := (nI 130)) (pc := 37) D_M_findsFrom_37 (by decide +kernel)) (EJ_iload_n (j := 1) (i := 1) (pc := 40) D_M_findsFrom_40 rfl) D_M_findsFrom_41) (EJ_iadd (p0 := 42) (p1 := 44) (p2 := 45) (EJ_bipush (n := 97) (v := (nI 97)) (pc := 42) D_M_findsFrom_42 (by decide +kernel)) (EJ_iload_n (j := 2) (i := 2) (pc := 44) D_M_findsFrom_44 rfl) D_M_findsFrom_45) D_M_findsFrom_46 (show ∀ x_ ∈ ([79] : List Nat), x_ ∈ ([79, 81, 82, 83, 84] : List Nat) from by decide))
 (SJ_void (p0 := 47) (p1 := 54) (EJ_callV (t := 13) (c := 12) (r := (RX12, TX12, 52)) (p0 := 47) (p1 := 48) (p2 := 51) (EJ_aload_n (j := 0) (i := 0) (pc := 47) D_M_findsFrom_47 rfl) (AJ_I (p0 := 48) (p1 := 51) (p2 := 51) (EJ_iadd (p0 := 48) (p1 := 49) (p2 := 50) (EJ_iload_n (j := 1) (i := 1) (pc := 48) D_M_findsFrom_48 rfl) (EJ_iconst (n := 1) (v := (nI 1)) (pc := 49) D_M_findsFrom_49 (by decide +kernel)) D_M_findsFrom_50) AJ_nil) h0 E1_U D_M_findsFrom_51 rfl rfl rfl q_1173 q_1174 q_59 q_97 ⟨by decide +kernel, by decide +kernel, by decide +kernel⟩ (by decide) (Nat.le_refl _) (show ∀ x_ ∈ ([79, 81, 82, 83, 84] : List Nat), x_ ∈ ([79, 81, 82, 83, 84] : List Nat) from by decide)))) SJ_sk)
 (SJ_post (SJ_iinc (i := 2) (n := 1) (v := (nI 1)) (pc := 54) D_M_findsFrom_54 (by decide +kernel)) (Lead.goto (K := (K_M_findsFrom n)) (pc := 57) (tgt := 18) D_M_findsFrom_57 rfl))))
 (SJ_retU (pc := 60) D_M_findsFrom_60)))
 RTm_void q_1175 (by decide +kernel) rfl (fun h => by cases h) (show 3 ≤ 40 from by decide) (fun _ => trivial)
def R_M_findsFrom : Nat → Nat → MD Unit
  | 0 => fun _ _ _ => none
  | n + 1 => fun _ => b_M_findsFrom (R_M_findsFrom n)
theorem g_M_findsFrom : ∀ n, MJ (5 + n) [79, 81, 82, 83, 84] yX12_findsFrom none eU (R_M_findsFrom n 0) := by
  intro n
  induction n with
  | zero => exact MJ_none q_1175 (by decide)
  | succ n ih => exact s_M_findsFrom n (R_M_findsFrom n) ih
def d_M_findsFrom : MD Unit := R_M_findsFrom 200 0
theorem m_M_findsFrom : MJ 205 [79, 81, 82, 83, 84] yX12_findsFrom none eU d_M_findsFrom := g_M_findsFrom 200
theorem D_M_finds_0 : decode cX12_finds 0 = .ok (.aload_n 0, 1) := by decide +kernel
theorem D_M_finds_1 : decode cX12_finds 1 = .ok (.getfield 207, 3) := by decide +kernel
theorem D_M_finds_4 : decode cX12_finds 4 = .ok (.ifCond .eq (4), 3) := by decide +kernel
theorem D_M_finds_7 : decode cX12_finds 7 = .ok (.return_, 1) := by decide +kernel
theorem D_M_finds_8 : decode cX12_finds 8 = .ok (.aload_n 0, 1) := by decide +kernel
theorem D_M_finds_9 : decode cX12_finds 9 = .ok (.iconst (1), 1) := by decide +kernel
theorem D_M_finds_10 : decode cX12_finds 10 = .ok (.putfield 207, 3) := by decide +kernel
theorem D_M_finds_13 : decode cX12_finds 13 = .ok (.iconst (0), 1) := by decide +kernel
theorem D_M_finds_14 : decode cX12_finds 14 = .ok (.istore_n 1, 1) := by decide +kernel
theorem D_M_finds_15 : decode cX12_finds 15 = .ok (.iload_n 1, 1) := by decide +kernel
theorem D_M_finds_16 : decode cX12_finds 16 = .ok (.bipush (26), 2) := by decide +kernel
theorem D_M_finds_18 : decode cX12_finds 18 = .ok (.if_icmp .ge (16), 3) := by decide +kernel
theorem D_M_finds_21 : decode cX12_finds 21 = .ok (.aload_n 0, 1) := by decide +kernel
theorem D_M_finds_22 : decode cX12_finds 22 = .ok (.getfield 57, 3) := by decide +kernel
theorem D_M_finds_25 : decode cX12_finds 25 = .ok (.iload_n 1, 1) := by decide +kernel
theorem D_M_finds_26 : decode cX12_finds 26 = .ok (.iconst (0), 1) := by decide +kernel
theorem D_M_finds_27 : decode cX12_finds 27 = .ok (.bastore, 1) := by decide +kernel
theorem D_M_finds_28 : decode cX12_finds 28 = .ok (.iinc 1 (1), 3) := by decide +kernel
theorem D_M_finds_31 : decode cX12_finds 31 = .ok (.goto (-16), 3) := by decide +kernel
theorem D_M_finds_34 : decode cX12_finds 34 = .ok (.iconst (0), 1) := by decide +kernel
theorem D_M_finds_35 : decode cX12_finds 35 = .ok (.istore_n 1, 1) := by decide +kernel
theorem D_M_finds_36 : decode cX12_finds 36 = .ok (.iload_n 1, 1) := by decide +kernel
theorem D_M_finds_37 : decode cX12_finds 37 = .ok (.aload_n 0, 1) := by decide +kernel
theorem D_M_finds_38 : decode cX12_finds 38 = .ok (.getfield 9, 3) := by decide +kernel
theorem D_M_finds_41 : decode cX12_finds 41 = .ok (.iconst (0), 1) := by decide +kernel
theorem D_M_finds_42 : decode cX12_finds 42 = .ok (.iaload, 1) := by decide +kernel
theorem D_M_finds_43 : decode cX12_finds 43 = .ok (.if_icmp .ge (88), 3) := by decide +kernel
theorem D_M_finds_46 : decode cX12_finds 46 = .ok (.aload_n 0, 1) := by decide +kernel
theorem D_M_finds_47 : decode cX12_finds 47 = .ok (.getfield 48, 3) := by decide +kernel
theorem D_M_finds_50 : decode cX12_finds 50 = .ok (.iload_n 1, 1) := by decide +kernel
theorem D_M_finds_51 : decode cX12_finds 51 = .ok (.iconst (0), 1) := by decide +kernel
theorem D_M_finds_52 : decode cX12_finds 52 = .ok (.iastore, 1) := by decide +kernel
theorem D_M_finds_53 : decode cX12_finds 53 = .ok (.iconst (0), 1) := by decide +kernel
theorem D_M_finds_54 : decode cX12_finds 54 = .ok (.istore_n 2, 1) := by decide +kernel
theorem D_M_finds_55 : decode cX12_finds 55 = .ok (.iload_n 2, 1) := by decide +kernel
theorem D_M_finds_56 : decode cX12_finds 56 = .ok (.aload_n 0, 1) := by decide +kernel
theorem D_M_finds_57 : decode cX12_finds 57 = .ok (.iload_n 1, 1) := by decide +kernel
theorem D_M_finds_58 : decode cX12_finds 58 = .ok (.invokevirtual 234, 3) := by decide +kernel
theorem D_M_finds_61 : decode cX12_finds 61 = .ok (.if_icmp .ge (64), 3) := by decide +kernel
theorem D_M_finds_64 : decode cX12_finds 64 = .ok (.iconst (1), 1) := by decide +kernel
theorem D_M_finds_65 : decode cX12_finds 65 = .ok (.istore_n 3, 1) := by decide +kernel
theorem D_M_finds_66 : decode cX12_finds 66 = .ok (.iload_n 3, 1) := by decide +kernel
theorem D_M_finds_67 : decode cX12_finds 67 = .ok (.aload_n 0, 1) := by decide +kernel
theorem D_M_finds_68 : decode cX12_finds 68 = .ok (.getfield 9, 3) := by decide +kernel
theorem D_M_finds_71 : decode cX12_finds 71 = .ok (.iload_n 1, 1) := by decide +kernel
theorem D_M_finds_72 : decode cX12_finds 72 = .ok (.iload_n 2, 1) := by decide +kernel
theorem D_M_finds_73 : decode cX12_finds 73 = .ok (.invokestatic 237, 3) := by decide +kernel
theorem D_M_finds_76 : decode cX12_finds 76 = .ok (.iaload, 1) := by decide +kernel
theorem D_M_finds_77 : decode cX12_finds 77 = .ok (.if_icmp .gt (42), 3) := by decide +kernel
theorem D_M_finds_80 : decode cX12_finds 80 = .ok (.aload_n 0, 1) := by decide +kernel
theorem D_M_finds_81 : decode cX12_finds 81 = .ok (.getfield 9, 3) := by decide +kernel
theorem D_M_finds_84 : decode cX12_finds 84 = .ok (.iload_n 1, 1) := by decide +kernel
theorem D_M_finds_85 : decode cX12_finds 85 = .ok (.iload_n 2, 1) := by decide +kernel
theorem D_M_finds_86 : decode cX12_finds 86 = .ok (.invokestatic 237, 3) := by decide +kernel
theorem D_M_finds_89 : decode cX12_finds 89 = .ok (.iload_n 3, 1) := by decide +kernel
theorem D_M_finds_90 : decode cX12_finds 90 = .ok (.iadd, 1) := by decide +kernel
theorem D_M_finds_91 : decode cX12_finds 91 = .ok (.iaload, 1) := by decide +kernel
theorem D_M_finds_92 : decode cX12_finds 92 = .ok (.istore 4, 2) := by decide +kernel
theorem D_M_finds_94 : decode cX12_finds 94 = .ok (.iload 4, 2) := by decide +kernel
theorem D_M_finds_96 : decode cX12_finds 96 = .ok (.invokestatic 137, 3) := by decide +kernel
theorem D_M_finds_99 : decode cX12_finds 99 = .ok (.ifCond .eq (14), 3) := by decide +kernel
theorem D_M_finds_102 : decode cX12_finds 102 = .ok (.aload_n 0, 1) := by decide +kernel
theorem D_M_finds_103 : decode cX12_finds 103 = .ok (.getfield 57, 3) := by decide +kernel
theorem D_M_finds_106 : decode cX12_finds 106 = .ok (.iload 4, 2) := by decide +kernel
theorem D_M_finds_108 : decode cX12_finds 108 = .ok (.bipush (97), 2) := by decide +kernel
theorem D_M_finds_110 : decode cX12_finds 110 = .ok (.isub, 1) := by decide +kernel
theorem D_M_finds_111 : decode cX12_finds 111 = .ok (.iconst (1), 1) := by decide +kernel
theorem D_M_finds_112 : decode cX12_finds 112 = .ok (.bastore, 1) := by decide +kernel
theorem D_M_finds_113 : decode cX12_finds 113 = .ok (.iinc 3 (1), 3) := by decide +kernel
theorem D_M_finds_116 : decode cX12_finds 116 = .ok (.goto (-50), 3) := by decide +kernel
theorem D_M_finds_119 : decode cX12_finds 119 = .ok (.iinc 2 (1), 3) := by decide +kernel
theorem D_M_finds_122 : decode cX12_finds 122 = .ok (.goto (-67), 3) := by decide +kernel
theorem D_M_finds_125 : decode cX12_finds 125 = .ok (.iinc 1 (1), 3) := by decide +kernel
theorem D_M_finds_128 : decode cX12_finds 128 = .ok (.goto (-92), 3) := by decide +kernel
theorem D_M_finds_131 : decode cX12_finds 131 = .ok (.iconst (0), 1) := by decide +kernel
theorem D_M_finds_132 : decode cX12_finds 132 = .ok (.istore_n 1, 1) := by decide +kernel
theorem D_M_finds_133 : decode cX12_finds 133 = .ok (.iload_n 1, 1) := by decide +kernel
theorem D_M_finds_134 : decode cX12_finds 134 = .ok (.aload_n 0, 1) := by decide +kernel
theorem D_M_finds_135 : decode cX12_finds 135 = .ok (.getfield 9, 3) := by decide +kernel
theorem D_M_finds_138 : decode cX12_finds 138 = .ok (.iconst (3), 1) := by decide +kernel
theorem D_M_finds_139 : decode cX12_finds 139 = .ok (.iaload, 1) := by decide +kernel
theorem D_M_finds_140 : decode cX12_finds 140 = .ok (.if_icmp .gt (22), 3) := by decide +kernel
theorem D_M_finds_143 : decode cX12_finds 143 = .ok (.aload_n 0, 1) := by decide +kernel
theorem D_M_finds_144 : decode cX12_finds 144 = .ok (.getfield 42, 3) := by decide +kernel
theorem D_M_finds_147 : decode cX12_finds 147 = .ok (.bipush (13), 2) := by decide +kernel
theorem D_M_finds_149 : decode cX12_finds 149 = .ok (.iload_n 1, 1) := by decide +kernel
theorem D_M_finds_150 : decode cX12_finds 150 = .ok (.iastore, 1) := by decide +kernel
theorem D_M_finds_151 : decode cX12_finds 151 = .ok (.aload_n 0, 1) := by decide +kernel
theorem D_M_finds_152 : decode cX12_finds 152 = .ok (.iconst (0), 1) := by decide +kernel
theorem D_M_finds_153 : decode cX12_finds 153 = .ok (.invokevirtual 246, 3) := by decide +kernel
theorem D_M_finds_156 : decode cX12_finds 156 = .ok (.iinc 1 (1), 3) := by decide +kernel
theorem D_M_finds_159 : decode cX12_finds 159 = .ok (.goto (-26), 3) := by decide +kernel
theorem D_M_finds_162 : decode cX12_finds 162 = .ok (.return_, 1) := by decide +kernel
def K_M_finds : SC := (cX12_finds, "TwoLevelsModel", 5, 206, false, [13, 79, 80, 81, 82, 83, 84, 85], NoQ)
def d_M_finds : MD Unit := mth tt 5 (sq (sIf (eh1 z_ne (eh1 (gI 13 18) (lR 0))) rtnU sk)
 (sq (sh2 (pI true 13 18) (lR 0) (eC (nI 1)))
 (sq (sq (sI1 1 (eC (nI 0)))
 (loop (eh2 c_lt (lI 1) (eC (nI 26)))
 (sh3 (stZ [85]) (eh1 (gR 13 22) (lR 0)) (lI 1) (eC (nI 0)))
 (sInc 1 (nI 1))))
 (sq (sq (sI1 1 (eC (nI 0)))
 (loop (eh2 c_lt (lI 1) (eh2 (aI .int) (eh1 (gR 13 0) (lR 0)) (eC (nI 0))))
 (sq (sh3 (stI [82]) (eh1 (gR 13 19) (lR 0)) (lI 1) (eC (nI 0)))
 (sq (sI1 2 (eC (nI 0)))
 (loop (eh2 c_lt (lI 2) (kV 13 d_M_alternatives (lR 0) [vI (lI 1)]))
 (sq (sI1 3 (eC (nI 1)))
 (loop (eh2 c_le (lI 3) (eh2 (aI .int) (eh1 (gR 13 0) (lR 0)) (kS d_M_rowAt [vI (lI 1), vI (lI 2)])))
 (sq (sI1 4 (eh2 (aI .int) (eh1 (gR 13 0) (lR 0)) (eh2 iaddF (kS d_M_rowAt [vI (lI 1), vI (lI 2)]) (lI 3))))
 (sIf (eh1 z_ne (kS d_M_isSmall [vI (lI 4)])) (sh3 (stZ [85]) (eh1 (gR 13 22) (lR 0)) (eh2 isubF (lI 4) (eC (nI 97))) (eC (nI 1))) sk))
 (sInc 3 (nI 1))))
 (sInc 2 (nI 1)))))
 (sInc 1 (nI 1))))
 (sq (sq (sI1 1 (eC (nI 0)))
 (loop (eh2 c_le (lI 1) (eh2 (aI .int) (eh1 (gR 13 0) (lR 0)) (eC (nI 3))))
 (sq (sh3 (stI [80]) (eh1 (gR 13 16) (lR 0)) (eC (nI 13)) (lI 1))
 (sE (kV 13 d_M_findsFrom (lR 0) [vI (eC (nI 0))])))
 (sInc 1 (nI 1))))
 rtnU)))))
theorem m_M_finds : MJ 206 [13, 79, 80, 81, 82, 83, 84, 85] yX12_finds none eU (d_M_finds) := MJ_of (K := K_M_finds) (ri := .return_) (n1 := 0) (n2 := 0) (n3 := 0)
 (SJ_sq (p0 := 0) (p1 := 8) (nN := 0) (nB := 0) (nC := 0) (SJ_if (p0 := 0) (pT := 7) (pF := 8) (nN := 8) (nB := 0) (nC := 0) (CZ_ne' (off := 4) (tgt := 8) (p0 := 0) (p1 := 4) (EJ_getI (t := 13) (c := 12) (kf := 18) (r := (RX12, TX12, 52)) (p0 := 0) (p1 := 1) (EJ_aload_n (j := 0) (i := 0) (pc := 0) D_M_finds_0 rfl) D_M_finds_1 ⟨rfl, rfl, by decide, q_950⟩ (fun _ _ => rfl)) D_M_finds_4 rfl) (SJ_retU (pc := 7) D_M_finds_7) SJ_sk)
 (SJ_sq (p0 := 8) (p1 := 13) (nN := 0) (nB := 0) (nC := 0) (SJ_putI (z := true) (t := 13) (c := 12) (kf := 18) (r := (RX12, TX12, 52)) (p0 := 8) (p1 := 9) (p2 := 10) (EJ_aload_n (j := 0) (i := 0) (pc := 8) D_M_finds_8 rfl) (EJ_iconst (n := 1) (v := (nI 1)) (pc := 9) D_M_finds_9 (by decide +kernel)) D_M_finds_10 ⟨rfl, rfl, by decide, q_950⟩ (Or.inl rfl) (okZ_bool rfl) (fun _ _ => rfl) (show (13 : Nat) ∈ ([13, 79, 80, 81, 82, 83, 84, 85] : List Nat) from by decide))
 (SJ_sq (p0 := 13) (p1 := 34) (nN := 0) (nB := 0) (nC := 0) (SJ_sq (p0 := 13) (p1 := 15) (nN := 34) (nB := 0) (nC := 0) (SJ_istore_n (i := 1) (j := 1) (p0 := 13) (p1 := 14) (EJ_iconst (n := 0) (v := (nI 0)) (pc := 13) D_M_finds_13 (by decide +kernel)) D_M_finds_14 rfl)
 (SJ_loop (p0 := 15) (pB := 21) (pS := 28) (pE := 34) (CJ_lt' (off := 16) (tgt := 34) (p0 := 15) (p1 := 16) (p2 := 18) (EJ_iload_n (j := 1) (i := 1) (pc := 15) D_M_finds_15 rfl) (EJ_bipush (n := 26) (v := (nI 26)) (pc := 16) D_M_finds_16 (by decide +kernel)) D_M_finds_18 rfl)
 (SJ_zast (ws := [85]) (p0 := 21) (p1 := 25) (p2 := 26) (p3 := 27) (EJ_getR (t := 13) (c := 12) (kf := 22) (r := (RX12, TX12, 52)) (p0 := 21) (p1 := 22) (EJ_aload_n (j := 0) (i := 0) (pc := 21) D_M_finds_21 rfl) D_M_finds_22 ⟨rfl, rfl, by decide, q_954⟩ (fun _ _ => rfl)) (EJ_iload_n (j := 1) (i := 1) (pc := 25) D_M_finds_25 rfl) (EJ_iconst (n := 0) (v := (nI 0)) (pc := 26) D_M_finds_26 (by decide +kernel)) D_M_finds_27 (show ∀ x_ ∈ ([85] : List Nat), x_ ∈ ([13, 79, 80, 81, 82, 83, 84, 85] : List Nat) from by decide))
 (SJ_post (SJ_iinc (i := 1) (n := 1) (v := (nI 1)) (pc := 28) D_M_finds_28 (by decide +kernel)) (Lead.goto (K := K_M_finds) (pc := 31) (tgt := 15) D_M_finds_31 rfl))))
 (SJ_sq (p0 := 34) (p1 := 131) (nN := 0) (nB := 0) (nC := 0) (SJ_sq (p0 := 34) (p1 := 36) (nN := 131) (nB := 0) (nC := 0) (SJ_istore_n (i := 1) (j := 1) (p0 := 34) (p1 := 35) (EJ_iconst (n := 0) (v := (nI 0)) (pc := 34) D_M_finds_34 (by decide +kernel)) D_M_finds_35 rfl)
 (SJ_loop (p0 := 36) (pB := 46) (pS := 125) (pE := 131) (CJ_lt' (off := 88) (tgt := 131) (p0 := 36) (p1 := 37) (p2 := 43) (EJ_iload_n (j := 1) (i := 1) (pc := 36) D_M_finds_36 rfl) (EJ_iald (p0 := 37) (p1 := 41) (p2 := 42) (EJ_getR (t := 13) (c := 12) (kf := 0) (r := (RX12, TX12, 52)) (p0 := 37) (p1 := 38) (EJ_aload_n (j := 0) (i := 0) (pc := 37) D_M_finds_37 rfl) D_M_finds_38 ⟨rfl, rfl, by decide, q_932⟩ (fun _ _ => rfl)) (EJ_iconst (n := 0) (v := (nI 0)) (pc := 41) D_M_finds_41 (by decide +kernel)) D_M_finds_42) D_M_finds_43 rfl)
 (SJ_sq (p0 := 46) (p1 := 53) (nN := 125) (nB := 131) (nC := 125) (SJ_iast (ws := [82]) (p0 := 46) (p1 := 50) (p2 := 51) (p3 := 52) (EJ_getR (t := 13) (c := 12) (kf := 19) (r := (RX12, TX12, 52)) (p0 := 46) (p1 := 47) (EJ_aload_n (j := 0) (i := 0) (pc := 46) D_M_finds_46 rfl) D_M_finds_47 ⟨rfl, rfl, by decide, q_951⟩ (fun _ _ => rfl)) (EJ_iload_n (j := 1) (i := 1) (pc := 50) D_M_finds_50 rfl) (EJ_iconst (n := 0) (v := (nI 0)) (pc := 51) D_M_finds_51 (by decide +kernel)) D_M_finds_52 (show ∀ x_ ∈ ([82] : List Nat), x_ ∈ ([13, 79, 80, 81, 82, 83, 84, 85] : List Nat) from by decide))
 (SJ_sq (p0 := 53) (p1 := 55) (nN := 125) (nB := 131) (nC := 125) (SJ_istore_n (i := 2) (j := 2) (p0 := 53) (p1 := 54) (EJ_iconst (n := 0) (v := (nI 0)) (pc := 53) D_M_finds_53 (by decide +kernel)) D_M_finds_54 rfl)
 (SJ_loop (p0 := 55) (pB := 64) (pS := 119) (pE := 125) (CJ_lt' (off := 64) (tgt := 125) (p0 := 55) (p1 := 56) (p2 := 61) (EJ_iload_n (j := 2) (i := 2) (pc := 55) D_M_finds_55 rfl) (EJ_callV (t := 13) (c := 12) (r := (RX12, TX12, 52)) (p0 := 56) (p1 := 57) (p2 := 58) (EJ_aload_n (j := 0) (i := 0) (pc := 56) D_M_finds_56 rfl) (AJ_I (p0 := 57) (p1 := 58) (p2 := 58) (EJ_iload_n (j := 1) (i := 1) (pc := 57) D_M_finds_57 rfl) AJ_nil) m_M_alternatives E1_I D_M_finds_58 rfl rfl rfl q_1164 q_1165 q_57 q_97 ⟨by decide +kernel, by decide +kernel, by decide +kernel⟩ (by decide) (show 1 + 1 ≤ 206 from by decide) (fun _ h => absurd h List.not_mem_nil)) D_M_finds_61 rfl)
 (SJ_sq (p0 := 64) (p1 := 66) (nN := 119) (nB := 125) (nC := 119) (SJ_istore_n (i := 3) (j := 3) (p0 := 64) (p1 := 65) (EJ_iconst (n := 1) (v := (nI 1)) (pc := 64) D_M_finds_64 (by decide +kernel)) D_M_finds_65 rfl)
 (SJ_loop (p0 := 66) (pB := 80) (pS := 113) (pE := 119) (CJ_le' (off := 42) (tgt := 119) (p0 := 66) (p1 := 67) (p2 := 77) (EJ_iload_n (j := 3) (i := 3) (pc := 66) D_M_finds_66 rfl) (EJ_iald (p0 := 67) (p1 := 71) (p2 := 76) (EJ_getR (t := 13) (c := 12) (kf := 0) (r := (RX12, TX12, 52)) (p0 := 67) (p1 := 68) (EJ_aload_n (j := 0) (i := 0) (pc := 67) D_M_finds_67 rfl) D_M_finds_68 ⟨rfl, rfl, by decide, q_932⟩ (fun _ _ => rfl)) (EJ_callS (p0 := 71) (p1 := 73) (AJ_I (p0 := 71) (p1 := 72) (p2 := 73) (EJ_iload_n (j := 1) (i := 1) (pc := 71) D_M_finds_71 rfl) (AJ_I (p0 := 72) (p1 := 73) (p2 := 73) (EJ_iload_n (j := 2) (i := 2) (pc := 72) D_M_finds_72 rfl) AJ_nil)) m_M_rowAt E1_I D_M_finds_73 q_1170 q_1171 q_97 ⟨by decide +kernel, by decide +kernel, by decide +kernel⟩ (by decide) (show 1 + 1 ≤ 206 from by decide) (fun _ h => absurd h List.not_mem_nil)) D_M_finds_76) D_M_finds_77 rfl)
 (SJ_sq (p0 := 80) (p1 := 94) (nN := 113) (nB := 119) (nC := 113) (SJ_istore (i := 4) (p0 := 80) (p1 := 92) (EJ_iald (p0 := 80) (p1 := 84) (p2 := 91) (EJ_getR (t := 13) (c := 12) (kf := 0) (r := (RX12, TX12, 52)) (p0 := 80) (p1 := 81) (EJ_aload_n (j := 0) (i := 0) (pc := 80) D_M_finds_80 rfl) D_M_finds_81 ⟨rfl, rfl, by decide, q_932⟩ (fun _ _ => rfl)) (EJ_iadd (p0 := 84) (p1 := 89) (p2 := 90) (EJ_callS (p0 := 84) (p1 := 86) (AJ_I (p0 := 84) (p1 := 85) (p2 := 86) (EJ_iload_n (j := 1) (i := 1) (pc := 84) D_M_finds_84 rfl) (AJ_I (p0 := 85) (p1 := 86) (p2 := 86) (EJ_iload_n (j := 2) (i := 2) (pc := 85) D_M_finds_85 rfl) AJ_nil)) m_M_rowAt E1_I D_M_finds_86 q_1170 q_1171 q_97 ⟨by decide +kernel, by decide +kernel, by decide +kernel⟩ (by decide) (show 1 + 1 ≤ 206 from by decide) (fun _ h => absurd h List.not_mem_nil)) (EJ_iload_n (j := 3) (i := 3) (pc := 89) D_M_finds_89 rfl) D_M_finds_90) D_M_finds_91) D_M_finds_92)
 (SJ_if (p0 := 94) (pT := 102) (pF := 113) (nN := 113) (nB := 119) (nC := 113) (CZ_ne' (off := 14) (tgt := 113) (p0 := 94) (p1 := 99) (EJ_callS (p0 := 94) (p1 := 96) (AJ_I (p0 := 94) (p1 := 96) (p2 := 96) (EJ_iload (i := 4) (pc := 94) D_M_finds_94) AJ_nil) m_M_isSmall E1_I D_M_finds_96 q_1068 q_1069 q_97 ⟨by decide +kernel, by decide +kernel, by decide +kernel⟩ (by decide) (show 2 + 1 ≤ 206 from by decide) (fun _ h => absurd h List.not_mem_nil)) D_M_finds_99 rfl) (SJ_zast (ws := [85]) (p0 := 102) (p1 := 106) (p2 := 111) (p3 := 112) (EJ_getR (t := 13) (c := 12) (kf := 22) (r := (RX12, TX12, 52)) (p0 := 102) (p1 := 103) (EJ_aload_n (j := 0) (i := 0) (pc := 102) D_M_finds_102 rfl) D_M_finds_103 ⟨rfl, rfl, by decide, q_954⟩ (fun _ _ => rfl)) (EJ_isub (p0 := 106) (p1 := 108) (p2 := 110) (EJ_iload (i := 4) (pc := 106) D_M_finds_106) (EJ_bipush (n := 97) (v := (nI 97)) (pc := 108) D_M_finds_108 (by decide +kernel)) D_M_finds_110) (EJ_iconst (n := 1) (v := (nI 1)) (pc := 111) D_M_finds_111 (by decide +kernel)) D_M_finds_112 (show ∀ x_ ∈ ([85] : List Nat), x_ ∈ ([13, 79, 80, 81, 82, 83, 84, 85] : List Nat) from by decide)) SJ_sk))
 (SJ_post (SJ_iinc (i := 3) (n := 1) (v := (nI 1)) (pc := 113) D_M_finds_113 (by decide +kernel)) (Lead.goto (K := K_M_finds) (pc := 116) (tgt := 66) D_M_finds_116 rfl))))
 (SJ_post (SJ_iinc (i := 2) (n := 1) (v := (nI 1)) (pc := 119) D_M_finds_119 (by decide +kernel)) (Lead.goto (K := K_M_finds) (pc := 122) (tgt := 55) D_M_finds_122 rfl)))))
 (SJ_post (SJ_iinc (i := 1) (n := 1) (v := (nI 1)) (pc := 125) D_M_finds_125 (by decide +kernel)) (Lead.goto (K := K_M_finds) (pc := 128) (tgt := 36) D_M_finds_128 rfl))))
 (SJ_sq (p0 := 131) (p1 := 162) (nN := 0) (nB := 0) (nC := 0) (SJ_sq (p0 := 131) (p1 := 133) (nN := 162) (nB := 0) (nC := 0) (SJ_istore_n (i := 1) (j := 1) (p0 := 131) (p1 := 132) (EJ_iconst (n := 0) (v := (nI 0)) (pc := 131) D_M_finds_131 (by decide +kernel)) D_M_finds_132 rfl)
 (SJ_loop (p0 := 133) (pB := 143) (pS := 156) (pE := 162) (CJ_le' (off := 22) (tgt := 162) (p0 := 133) (p1 := 134) (p2 := 140) (EJ_iload_n (j := 1) (i := 1) (pc := 133) D_M_finds_133 rfl) (EJ_iald (p0 := 134) (p1 := 138) (p2 := 139) (EJ_getR (t := 13) (c := 12) (kf := 0) (r := (RX12, TX12, 52)) (p0 := 134) (p1 := 135) (EJ_aload_n (j := 0) (i := 0) (pc := 134) D_M_finds_134 rfl) D_M_finds_135 ⟨rfl, rfl, by decide, q_932⟩ (fun _ _ => rfl)) (EJ_iconst (n := 3) (v := (nI 3)) (pc := 138) D_M_finds_138 (by decide +kernel)) D_M_finds_139) D_M_finds_140 rfl)
 (SJ_sq (p0 := 143) (p1 := 151) (nN := 156) (nB := 162) (nC := 156) (SJ_iast (ws := [80]) (p0 := 143) (p1 := 147) (p2 := 149) (p3 := 150) (EJ_getR (t := 13) (c := 12) (kf := 16) (r := (RX12, TX12, 52)) (p0 := 143) (p1 := 144) (EJ_aload_n (j := 0) (i := 0) (pc := 143) D_M_finds_143 rfl) D_M_finds_144 ⟨rfl, rfl, by decide, q_948⟩ (fun _ _ => rfl)) (EJ_bipush (n := 13) (v := (nI 13)) (pc := 147) D_M_finds_147 (by decide +kernel)) (EJ_iload_n (j := 1) (i := 1) (pc := 149) D_M_finds_149 rfl) D_M_finds_150 (show ∀ x_ ∈ ([80] : List Nat), x_ ∈ ([13, 79, 80, 81, 82, 83, 84, 85] : List Nat) from by decide))
 (SJ_void (p0 := 151) (p1 := 156) (EJ_callV (t := 13) (c := 12) (r := (RX12, TX12, 52)) (p0 := 151) (p1 := 152) (p2 := 153) (EJ_aload_n (j := 0) (i := 0) (pc := 151) D_M_finds_151 rfl) (AJ_I (p0 := 152) (p1 := 153) (p2 := 153) (EJ_iconst (n := 0) (v := (nI 0)) (pc := 152) D_M_finds_152 (by decide +kernel)) AJ_nil) m_M_findsFrom E1_U D_M_finds_153 rfl rfl rfl q_1173 q_1174 q_59 q_97 ⟨by decide +kernel, by decide +kernel, by decide +kernel⟩ (by decide) (show 205 + 1 ≤ 206 from by decide) (show ∀ x_ ∈ ([79, 81, 82, 83, 84] : List Nat), x_ ∈ ([13, 79, 80, 81, 82, 83, 84, 85] : List Nat) from by decide))))
 (SJ_post (SJ_iinc (i := 1) (n := 1) (v := (nI 1)) (pc := 156) D_M_finds_156 (by decide +kernel)) (Lead.goto (K := K_M_finds) (pc := 159) (tgt := 133) D_M_finds_159 rfl))))
 (SJ_retU (pc := 162) D_M_finds_162))))))
 RTm_void q_1169 (by decide +kernel) rfl (fun h => by cases h) (show 5 ≤ 40 from by decide) (fun _ => trivial)
theorem D_M_searches_0 : decode cX12_searches 0 = .ok (.aload_n 0, 1) := by decide +kernel
theorem D_M_searches_1 : decode cX12_searches 1 = .ok (.invokevirtual 273, 3) := by decide +kernel
theorem D_M_searches_4 : decode cX12_searches 4 = .ok (.aload_n 0, 1) := by decide +kernel
theorem D_M_searches_5 : decode cX12_searches 5 = .ok (.iconst (0), 1) := by decide +kernel
theorem D_M_searches_6 : decode cX12_searches 6 = .ok (.putfield 211, 3) := by decide +kernel
theorem D_M_searches_9 : decode cX12_searches 9 = .ok (.aload_n 0, 1) := by decide +kernel
theorem D_M_searches_10 : decode cX12_searches 10 = .ok (.iload_n 2, 1) := by decide +kernel
theorem D_M_searches_11 : decode cX12_searches 11 = .ok (.putfield 337, 3) := by decide +kernel
theorem D_M_searches_14 : decode cX12_searches 14 = .ok (.aload_n 0, 1) := by decide +kernel
theorem D_M_searches_15 : decode cX12_searches 15 = .ok (.iconst (0), 1) := by decide +kernel
theorem D_M_searches_16 : decode cX12_searches 16 = .ok (.putfield 326, 3) := by decide +kernel
theorem D_M_searches_19 : decode cX12_searches 19 = .ok (.aload_n 0, 1) := by decide +kernel
theorem D_M_searches_20 : decode cX12_searches 20 = .ok (.iconst (0), 1) := by decide +kernel
theorem D_M_searches_21 : decode cX12_searches 21 = .ok (.putfield 349, 3) := by decide +kernel
theorem D_M_searches_24 : decode cX12_searches 24 = .ok (.aload_n 0, 1) := by decide +kernel
theorem D_M_searches_25 : decode cX12_searches 25 = .ok (.iconst (0), 1) := by decide +kernel
theorem D_M_searches_26 : decode cX12_searches 26 = .ok (.putfield 340, 3) := by decide +kernel
theorem D_M_searches_29 : decode cX12_searches 29 = .ok (.aload_n 0, 1) := by decide +kernel
theorem D_M_searches_30 : decode cX12_searches 30 = .ok (.iconst (0), 1) := by decide +kernel
theorem D_M_searches_31 : decode cX12_searches 31 = .ok (.putfield 329, 3) := by decide +kernel
theorem D_M_searches_34 : decode cX12_searches 34 = .ok (.aload_n 0, 1) := by decide +kernel
theorem D_M_searches_35 : decode cX12_searches 35 = .ok (.iconst (0), 1) := by decide +kernel
theorem D_M_searches_36 : decode cX12_searches 36 = .ok (.putfield 320, 3) := by decide +kernel
theorem D_M_searches_39 : decode cX12_searches 39 = .ok (.aload_n 0, 1) := by decide +kernel
theorem D_M_searches_40 : decode cX12_searches 40 = .ok (.iconst (0), 1) := by decide +kernel
theorem D_M_searches_41 : decode cX12_searches 41 = .ok (.putfield 323, 3) := by decide +kernel
theorem D_M_searches_44 : decode cX12_searches 44 = .ok (.aload_n 0, 1) := by decide +kernel
theorem D_M_searches_45 : decode cX12_searches 45 = .ok (.getfield 42, 3) := by decide +kernel
theorem D_M_searches_48 : decode cX12_searches 48 = .ok (.iconst (0), 1) := by decide +kernel
theorem D_M_searches_49 : decode cX12_searches 49 = .ok (.aload_n 0, 1) := by decide +kernel
theorem D_M_searches_50 : decode cX12_searches 50 = .ok (.getfield 9, 3) := by decide +kernel
theorem D_M_searches_53 : decode cX12_searches 53 = .ok (.sipush (1584), 3) := by decide +kernel
theorem D_M_searches_56 : decode cX12_searches 56 = .ok (.iaload, 1) := by decide +kernel
theorem D_M_searches_57 : decode cX12_searches 57 = .ok (.iastore, 1) := by decide +kernel
theorem D_M_searches_58 : decode cX12_searches 58 = .ok (.iconst (0), 1) := by decide +kernel
theorem D_M_searches_59 : decode cX12_searches 59 = .ok (.istore_n 3, 1) := by decide +kernel
theorem D_M_searches_60 : decode cX12_searches 60 = .ok (.iload_n 3, 1) := by decide +kernel
theorem D_M_searches_61 : decode cX12_searches 61 = .ok (.aload_n 0, 1) := by decide +kernel
theorem D_M_searches_62 : decode cX12_searches 62 = .ok (.getfield 9, 3) := by decide +kernel
theorem D_M_searches_65 : decode cX12_searches 65 = .ok (.sipush (1584), 3) := by decide +kernel
theorem D_M_searches_68 : decode cX12_searches 68 = .ok (.iaload, 1) := by decide +kernel
theorem D_M_searches_69 : decode cX12_searches 69 = .ok (.if_icmp .ge (25), 3) := by decide +kernel
theorem D_M_searches_72 : decode cX12_searches 72 = .ok (.aload_n 0, 1) := by decide +kernel
theorem D_M_searches_73 : decode cX12_searches 73 = .ok (.getfield 39, 3) := by decide +kernel
theorem D_M_searches_76 : decode cX12_searches 76 = .ok (.iload_n 3, 1) := by decide +kernel
theorem D_M_searches_77 : decode cX12_searches 77 = .ok (.aload_n 0, 1) := by decide +kernel
theorem D_M_searches_78 : decode cX12_searches 78 = .ok (.getfield 9, 3) := by decide +kernel
theorem D_M_searches_81 : decode cX12_searches 81 = .ok (.sipush (1585), 3) := by decide +kernel
theorem D_M_searches_84 : decode cX12_searches 84 = .ok (.iload_n 3, 1) := by decide +kernel
theorem D_M_searches_85 : decode cX12_searches 85 = .ok (.iadd, 1) := by decide +kernel
theorem D_M_searches_86 : decode cX12_searches 86 = .ok (.iaload, 1) := by decide +kernel
theorem D_M_searches_87 : decode cX12_searches 87 = .ok (.iastore, 1) := by decide +kernel
theorem D_M_searches_88 : decode cX12_searches 88 = .ok (.iinc 3 (1), 3) := by decide +kernel
theorem D_M_searches_91 : decode cX12_searches 91 = .ok (.goto (-31), 3) := by decide +kernel
theorem D_M_searches_94 : decode cX12_searches 94 = .ok (.aload_n 0, 1) := by decide +kernel
theorem D_M_searches_95 : decode cX12_searches 95 = .ok (.iconst (0), 1) := by decide +kernel
theorem D_M_searches_96 : decode cX12_searches 96 = .ok (.iconst (0), 1) := by decide +kernel
theorem D_M_searches_97 : decode cX12_searches 97 = .ok (.iload_n 1, 1) := by decide +kernel
theorem D_M_searches_98 : decode cX12_searches 98 = .ok (.invokevirtual 366, 3) := by decide +kernel
theorem D_M_searches_101 : decode cX12_searches 101 = .ok (.istore_n 3, 1) := by decide +kernel
theorem D_M_searches_102 : decode cX12_searches 102 = .ok (.aload_n 0, 1) := by decide +kernel
theorem D_M_searches_103 : decode cX12_searches 103 = .ok (.getfield 323, 3) := by decide +kernel
theorem D_M_searches_106 : decode cX12_searches 106 = .ok (.ifCond .eq (8), 3) := by decide +kernel
theorem D_M_searches_109 : decode cX12_searches 109 = .ok (.bipush (-3), 2) := by decide +kernel
theorem D_M_searches_111 : decode cX12_searches 111 = .ok (.goto (7), 3) := by decide +kernel
theorem D_M_searches_114 : decode cX12_searches 114 = .ok (.iload_n 3, 1) := by decide +kernel
theorem D_M_searches_115 : decode cX12_searches 115 = .ok (.invokestatic 172, 3) := by decide +kernel
theorem D_M_searches_118 : decode cX12_searches 118 = .ok (.ireturn, 1) := by decide +kernel
def K_M_searches : SC := (cX12_searches, "TwoLevelsModel", 4, 207, false, [13, 79, 80, 81, 82, 83, 84, 85, 87, 88, 89, 92, 93, 94, 95, 96, 97, 98, 99, 100, 101], NoQ)
def d_M_searches : MD Int32 := mth tt 4 (sq (sE (kV 13 d_M_finds (lR 0) []))
 (sq (sh2 (pI true 13 50) (lR 0) (eC (nI 0)))
 (sq (sh2 (pI false 13 32) (lR 0) (lI 2))
 (sq (sh2 (pI false 13 33) (lR 0) (eC (nI 0)))
 (sq (sh2 (pI false 13 34) (lR 0) (eC (nI 0)))
 (sq (sh2 (pI false 13 35) (lR 0) (eC (nI 0)))
 (sq (sh2 (pI false 13 36) (lR 0) (eC (nI 0)))
 (sq (sh2 (pI false 13 47) (lR 0) (eC (nI 0)))
 (sq (sh2 (pI true 13 37) (lR 0) (eC (nI 0)))
 (sq (sh3 (stI [80]) (eh1 (gR 13 16) (lR 0)) (eC (nI 0)) (eh2 (aI .int) (eh1 (gR 13 0) (lR 0)) (eC (nI 1584))))
 (sq (sq (sI1 3 (eC (nI 0)))
 (loop (eh2 c_lt (lI 3) (eh2 (aI .int) (eh1 (gR 13 0) (lR 0)) (eC (nI 1584))))
 (sh3 (stI [79]) (eh1 (gR 13 15) (lR 0)) (lI 3) (eh2 (aI .int) (eh1 (gR 13 0) (lR 0)) (eh2 iaddF (eC (nI 1585)) (lI 3))))
 (sInc 3 (nI 1))))
 (sq (sI1 3 (kV 13 d_M_asks (lR 0) [vI (eC (nI 0)), vI (eC (nI 0)), vI (lI 1)]))
 (rtn (eIf (eh1 z_ne (eh1 (gI 13 37) (lR 0))) (eC (-3)) (kS d_M_truth [vI (lI 3)])))))))))))))))
theorem m_M_searches : MJ 207 [13, 79, 80, 81, 82, 83, 84, 85, 87, 88, 89, 92, 93, 94, 95, 96, 97, 98, 99, 100, 101] yX12_searches (some .int) eI (d_M_searches) := MJ_of (K := K_M_searches) (ri := .ireturn) (n1 := 0) (n2 := 0) (n3 := 0)
 (SJ_sq (p0 := 0) (p1 := 4) (nN := 0) (nB := 0) (nC := 0) (SJ_void (p0 := 0) (p1 := 4) (EJ_callV (t := 13) (c := 12) (r := (RX12, TX12, 52)) (p0 := 0) (p1 := 1) (p2 := 1) (EJ_aload_n (j := 0) (i := 0) (pc := 0) D_M_searches_0 rfl) AJ_nil m_M_finds E1_U D_M_searches_1 rfl rfl rfl q_1167 q_1168 q_58 q_97 ⟨by decide +kernel, by decide +kernel, by decide +kernel⟩ (by decide) (show 206 + 1 ≤ 207 from by decide) (show ∀ x_ ∈ ([13, 79, 80, 81, 82, 83, 84, 85] : List Nat), x_ ∈ ([13, 79, 80, 81, 82, 83, 84, 85, 87, 88, 89, 92, 93, 94, 95, 96, 97, 98, 99, 100, 101] : List Nat) from by decide)))
 (SJ_sq (p0 := 4) (p1 := 9) (nN := 0) (nB := 0) (nC := 0) (SJ_putI (z := true) (t := 13) (c := 12) (kf := 50) (r := (RX12, TX12, 52)) (p0 := 4) (p1 := 5) (p2 := 6) (EJ_aload_n (j := 0) (i := 0) (pc := 4) D_M_searches_4 rfl) (EJ_iconst (n := 0) (v := (nI 0)) (pc := 5) D_M_searches_5 (by decide +kernel)) D_M_searches_6 ⟨rfl, rfl, by decide, q_982⟩ (Or.inl rfl) (okZ_bool rfl) (fun _ _ => rfl) (show (13 : Nat) ∈ ([13, 79, 80, 81, 82, 83, 84, 85, 87, 88, 89, 92, 93, 94, 95, 96, 97, 98, 99, 100, 101] : List Nat) from by decide))
 (SJ_sq (p0 := 9) (p1 := 14) (nN := 0) (nB := 0) (nC := 0) (SJ_putI (z := false) (t := 13) (c := 12) (kf := 32) (r := (RX12, TX12, 52)) (p0 := 9) (p1 := 10) (p2 := 11) (EJ_aload_n (j := 0) (i := 0) (pc := 9) D_M_searches_9 rfl) (EJ_iload_n (j := 2) (i := 2) (pc := 10) D_M_searches_10 rfl) D_M_searches_11 ⟨rfl, rfl, by decide, q_964⟩ (Or.inl rfl) (fun _ _ => ⟨rfl, rfl⟩) (fun _ _ => rfl) (show (13 : Nat) ∈ ([13, 79, 80, 81, 82, 83, 84, 85, 87, 88, 89, 92, 93, 94, 95, 96, 97, 98, 99, 100, 101] : List Nat) from by decide))
 (SJ_sq (p0 := 14) (p1 := 19) (nN := 0) (nB := 0) (nC := 0) (SJ_putI (z := false) (t := 13) (c := 12) (kf := 33) (r := (RX12, TX12, 52)) (p0 := 14) (p1 := 15) (p2 := 16) (EJ_aload_n (j := 0) (i := 0) (pc := 14) D_M_searches_14 rfl) (EJ_iconst (n := 0) (v := (nI 0)) (pc := 15) D_M_searches_15 (by decide +kernel)) D_M_searches_16 ⟨rfl, rfl, by decide, q_965⟩ (Or.inl rfl) (fun _ _ => ⟨rfl, rfl⟩) (fun _ _ => rfl) (show (13 : Nat) ∈ ([13, 79, 80, 81, 82, 83, 84, 85, 87, 88, 89, 92, 93, 94, 95, 96, 97, 98, 99, 100, 101] : List Nat) from by decide))
 (SJ_sq (p0 := 19) (p1 := 24) (nN := 0) (nB := 0) (nC := 0) (SJ_putI (z := false) (t := 13) (c := 12) (kf := 34) (r := (RX12, TX12, 52)) (p0 := 19) (p1 := 20) (p2 := 21) (EJ_aload_n (j := 0) (i := 0) (pc := 19) D_M_searches_19 rfl) (EJ_iconst (n := 0) (v := (nI 0)) (pc := 20) D_M_searches_20 (by decide +kernel)) D_M_searches_21 ⟨rfl, rfl, by decide, q_966⟩ (Or.inl rfl) (fun _ _ => ⟨rfl, rfl⟩) (fun _ _ => rfl) (show (13 : Nat) ∈ ([13, 79, 80, 81, 82, 83, 84, 85, 87, 88, 89, 92, 93, 94, 95, 96, 97, 98, 99, 100, 101] : List Nat) from by decide))
 (SJ_sq (p0 := 24) (p1 := 29) (nN := 0) (nB := 0) (nC := 0) (SJ_putI (z := false) (t := 13) (c := 12) (kf := 35) (r := (RX12, TX12, 52)) (p0 := 24) (p1 := 25) (p2 := 26) (EJ_aload_n (j := 0) (i := 0) (pc := 24) D_M_searches_24 rfl) (EJ_iconst (n := 0) (v := (nI 0)) (pc := 25) D_M_searches_25 (by decide +kernel)) D_M_searches_26 ⟨rfl, rfl, by decide, q_967⟩ (Or.inl rfl) (fun _ _ => ⟨rfl, rfl⟩) (fun _ _ => rfl) (show (13 : Nat) ∈ ([13, 79, 80, 81, 82, 83, 84, 85, 87, 88, 89, 92, 93, 94, 95, 96, 97, 98, 99, 100, 101] : List Nat) from by decide))
 (SJ_sq (p0 := 29) (p1 := 34) (nN := 0) (nB := 0) (nC := 0) (SJ_putI (z := false) (t := 13) (c := 12) (kf := 36) (r := (RX12, TX12, 52)) (p0 := 29) (p1 := 30) (p2 := 31) (EJ_aload_n (j := 0) (i := 0) (pc := 29) D_M_searches_29 rfl) (EJ_iconst (n := 0) (v := (nI 0)) (pc := 30) D_M_searches_30 (by decide +kernel)) D_M_searches_31 ⟨rfl, rfl, by decide, q_968⟩ (Or.inl rfl) (fun _ _ => ⟨rfl, rfl⟩) (fun _ _ => rfl) (show (13 : Nat) ∈ ([13, 79, 80, 81, 82, 83, 84, 85, 87, 88, 89, 92, 93, 94, 95, 96, 97, 98, 99, 100, 101] : List Nat) from by decide))
 (SJ_sq (p0 := 34) (p1 := 39) (nN := 0) (nB := 0) (nC := 0) (SJ_putI (z := false) (t := 13) (c := 12) (kf := 47) (r := (RX12, TX12, 52)) (p0 := 34) (p1 := 35) (p2 := 36) (EJ_aload_n (j := 0) (i := 0) (pc := 34) D_M_searches_34 rfl) (EJ_iconst (n := 0) (v := (nI 0)) (pc := 35) D_M_searches_35 (by decide +kernel)) D_M_searches_36 ⟨rfl, rfl, by decide, q_979⟩ (Or.inl rfl) (fun _ _ => ⟨rfl, rfl⟩) (fun _ _ => rfl) (show (13 : Nat) ∈ ([13, 79, 80, 81, 82, 83, 84, 85, 87, 88, 89, 92, 93, 94, 95, 96, 97, 98, 99, 100, 101] : List Nat) from by decide))
 (SJ_sq (p0 := 39) (p1 := 44) (nN := 0) (nB := 0) (nC := 0) (SJ_putI (z := true) (t := 13) (c := 12) (kf := 37) (r := (RX12, TX12, 52)) (p0 := 39) (p1 := 40) (p2 := 41) (EJ_aload_n (j := 0) (i := 0) (pc := 39) D_M_searches_39 rfl) (EJ_iconst (n := 0) (v := (nI 0)) (pc := 40) D_M_searches_40 (by decide +kernel)) D_M_searches_41 ⟨rfl, rfl, by decide, q_969⟩ (Or.inl rfl) (okZ_bool rfl) (fun _ _ => rfl) (show (13 : Nat) ∈ ([13, 79, 80, 81, 82, 83, 84, 85, 87, 88, 89, 92, 93, 94, 95, 96, 97, 98, 99, 100, 101] : List Nat) from by decide))
 (SJ_sq (p0 := 44) (p1 := 58) (nN := 0) (nB := 0) (nC := 0) (SJ_iast (ws := [80]) (p0 := 44) (p1 := 48) (p2 := 49) (p3 := 57) (EJ_getR (t := 13) (c := 12) (kf := 16) (r := (RX12, TX12, 52)) (p0 := 44) (p1 := 45) (EJ_aload_n (j := 0) (i := 0) (pc := 44) D_M_searches_44 rfl) D_M_searches_45 ⟨rfl, rfl, by decide, q_948⟩ (fun _ _ => rfl)) (EJ_iconst (n := 0) (v := (nI 0)) (pc := 48) D_M_searches_48 (by decide +kernel)) (EJ_iald (p0 := 49) (p1 := 53) (p2 := 56) (EJ_getR (t := 13) (c := 12) (kf := 0) (r := (RX12, TX12, 52)) (p0 := 49) (p1 := 50) (EJ_aload_n (j := 0) (i := 0) (pc := 49) D_M_searches_49 rfl) D_M_searches_50 ⟨rfl, rfl, by decide, q_932⟩ (fun _ _ => rfl)) (EJ_sipush (n := 1584) (v := (nI 1584)) (pc := 53) D_M_searches_53 (by decide +kernel)) D_M_searches_56) D_M_searches_57 (show ∀ x_ ∈ ([80] : List Nat), x_ ∈ ([13, 79, 80, 81, 82, 83, 84, 85, 87, 88, 89, 92, 93, 94, 95, 96, 97, 98, 99, 100, 101] : List Nat) from by decide))
 (SJ_sq (p0 := 58) (p1 := 94) (nN := 0) (nB := 0) (nC := 0) (SJ_sq (p0 := 58) (p1 := 60) (nN := 94) (nB := 0) (nC := 0) (SJ_istore_n (i := 3) (j := 3) (p0 := 58) (p1 := 59) (EJ_iconst (n := 0) (v := (nI 0)) (pc := 58) D_M_searches_58 (by decide +kernel)) D_M_searches_59 rfl)
 (SJ_loop (p0 := 60) (pB := 72) (pS := 88) (pE := 94) (CJ_lt' (off := 25) (tgt := 94) (p0 := 60) (p1 := 61) (p2 := 69) (EJ_iload_n (j := 3) (i := 3) (pc := 60) D_M_searches_60 rfl) (EJ_iald (p0 := 61) (p1 := 65) (p2 := 68) (EJ_getR (t := 13) (c := 12) (kf := 0) (r := (RX12, TX12, 52)) (p0 := 61) (p1 := 62) (EJ_aload_n (j := 0) (i := 0) (pc := 61) D_M_searches_61 rfl) D_M_searches_62 ⟨rfl, rfl, by decide, q_932⟩ (fun _ _ => rfl)) (EJ_sipush (n := 1584) (v := (nI 1584)) (pc := 65) D_M_searches_65 (by decide +kernel)) D_M_searches_68) D_M_searches_69 rfl)
 (SJ_iast (ws := [79]) (p0 := 72) (p1 := 76) (p2 := 77) (p3 := 87) (EJ_getR (t := 13) (c := 12) (kf := 15) (r := (RX12, TX12, 52)) (p0 := 72) (p1 := 73) (EJ_aload_n (j := 0) (i := 0) (pc := 72) D_M_searches_72 rfl) D_M_searches_73 ⟨rfl, rfl, by decide, q_947⟩ (fun _ _ => rfl)) (EJ_iload_n (j := 3) (i := 3) (pc := 76) D_M_searches_76 rfl) (EJ_iald (p0 := 77) (p1 := 81) (p2 := 86) (EJ_getR (t := 13) (c := 12) (kf := 0) (r := (RX12, TX12, 52)) (p0 := 77) (p1 := 78) (EJ_aload_n (j := 0) (i := 0) (pc := 77) D_M_searches_77 rfl) D_M_searches_78 ⟨rfl, rfl, by decide, q_932⟩ (fun _ _ => rfl)) (EJ_iadd (p0 := 81) (p1 := 84) (p2 := 85) (EJ_sipush (n := 1585) (v := (nI 1585)) (pc := 81) D_M_searches_81 (by decide +kernel)) (EJ_iload_n (j := 3) (i := 3) (pc := 84) D_M_searches_84 rfl) D_M_searches_85) D_M_searches_86) D_M_searches_87 (show ∀ x_ ∈ ([79] : List Nat), x_ ∈ ([13, 79, 80, 81, 82, 83, 84, 85, 87, 88, 89, 92, 93, 94, 95, 96, 97, 98, 99, 100, 101] : List Nat) from by decide))
 (SJ_post (SJ_iinc (i := 3) (n := 1) (v := (nI 1)) (pc := 88) D_M_searches_88 (by decide +kernel)) (Lead.goto (K := K_M_searches) (pc := 91) (tgt := 60) D_M_searches_91 rfl))))
 (SJ_sq (p0 := 94) (p1 := 102) (nN := 0) (nB := 0) (nC := 0) (SJ_istore_n (i := 3) (j := 3) (p0 := 94) (p1 := 101) (EJ_callV (t := 13) (c := 12) (r := (RX12, TX12, 52)) (p0 := 94) (p1 := 95) (p2 := 98) (EJ_aload_n (j := 0) (i := 0) (pc := 94) D_M_searches_94 rfl) (AJ_I (p0 := 95) (p1 := 96) (p2 := 98) (EJ_iconst (n := 0) (v := (nI 0)) (pc := 95) D_M_searches_95 (by decide +kernel)) (AJ_I (p0 := 96) (p1 := 97) (p2 := 98) (EJ_iconst (n := 0) (v := (nI 0)) (pc := 96) D_M_searches_96 (by decide +kernel)) (AJ_I (p0 := 97) (p1 := 98) (p2 := 98) (EJ_iload_n (j := 1) (i := 1) (pc := 97) D_M_searches_97 rfl) AJ_nil))) m_M_asks E1_I D_M_searches_98 rfl rfl rfl q_1293 q_1294 q_79 q_97 ⟨by decide +kernel, by decide +kernel, by decide +kernel⟩ (by decide) (show 204 + 1 ≤ 207 from by decide) (show ∀ x_ ∈ ([13, 79, 80, 81, 87, 88, 89, 92, 93, 94, 95, 96, 97, 98, 99, 100, 101] : List Nat), x_ ∈ ([13, 79, 80, 81, 82, 83, 84, 85, 87, 88, 89, 92, 93, 94, 95, 96, 97, 98, 99, 100, 101] : List Nat) from by decide)) D_M_searches_101 rfl)
 (SJ_ret (p0 := 102) (p1 := 118) (EJ_if (p0 := 102) (pT := 109) (pF := 114) (pE := 111) (p1 := 118) (CZ_ne' (off := 8) (tgt := 114) (p0 := 102) (p1 := 106) (EJ_getI (t := 13) (c := 12) (kf := 37) (r := (RX12, TX12, 52)) (p0 := 102) (p1 := 103) (EJ_aload_n (j := 0) (i := 0) (pc := 102) D_M_searches_102 rfl) D_M_searches_103 ⟨rfl, rfl, by decide, q_969⟩ (fun _ _ => rfl)) D_M_searches_106 rfl) (EJ_bipush (n := -3) (v := (-3)) (pc := 109) D_M_searches_109 (by decide +kernel)) (Lead.goto (K := K_M_searches) (pc := 111) (tgt := 118) D_M_searches_111 rfl) (EJ_callS (p0 := 114) (p1 := 115) (AJ_I (p0 := 114) (p1 := 115) (p2 := 115) (EJ_iload_n (j := 3) (i := 3) (pc := 114) D_M_searches_114 rfl) AJ_nil) m_M_truth E1_I D_M_searches_115 q_1107 q_1108 q_97 ⟨by decide +kernel, by decide +kernel, by decide +kernel⟩ (by decide) (show 1 + 1 ≤ 207 from by decide) (fun _ h => absurd h List.not_mem_nil))) D_M_searches_118)))))))))))))
 RTm_int q_1292 (by decide +kernel) rfl (fun h => by cases h) (show 4 ≤ 40 from by decide) (fun _ => trivial)
theorem D_M_searchesText_0 : decode cX12_searchesText 0 = .ok (.aload_n 0, 1) := by decide +kernel
theorem D_M_searchesText_1 : decode cX12_searchesText 1 = .ok (.getfield 211, 3) := by decide +kernel
theorem D_M_searchesText_4 : decode cX12_searchesText 4 = .ok (.ifCond .eq (4), 3) := by decide +kernel
theorem D_M_searchesText_7 : decode cX12_searchesText 7 = .ok (.return_, 1) := by decide +kernel
theorem D_M_searchesText_8 : decode cX12_searchesText 8 = .ok (.aload_n 0, 1) := by decide +kernel
theorem D_M_searchesText_9 : decode cX12_searchesText 9 = .ok (.aload_n 0, 1) := by decide +kernel
theorem D_M_searchesText_10 : decode cX12_searchesText 10 = .ok (.aload_n 0, 1) := by decide +kernel
theorem D_M_searchesText_11 : decode cX12_searchesText 11 = .ok (.getfield 9, 3) := by decide +kernel
theorem D_M_searchesText_14 : decode cX12_searchesText 14 = .ok (.sipush (1595), 3) := by decide +kernel
theorem D_M_searchesText_17 : decode cX12_searchesText 17 = .ok (.iaload, 1) := by decide +kernel
theorem D_M_searchesText_18 : decode cX12_searchesText 18 = .ok (.aload_n 0, 1) := by decide +kernel
theorem D_M_searchesText_19 : decode cX12_searchesText 19 = .ok (.getfield 9, 3) := by decide +kernel
theorem D_M_searchesText_22 : decode cX12_searchesText 22 = .ok (.iconst (2), 1) := by decide +kernel
theorem D_M_searchesText_23 : decode cX12_searchesText 23 = .ok (.iaload, 1) := by decide +kernel
theorem D_M_searchesText_24 : decode cX12_searchesText 24 = .ok (.invokevirtual 369, 3) := by decide +kernel
theorem D_M_searchesText_27 : decode cX12_searchesText 27 = .ok (.iconst (1), 1) := by decide +kernel
theorem D_M_searchesText_28 : decode cX12_searchesText 28 = .ok (.if_icmp .ne (7), 3) := by decide +kernel
theorem D_M_searchesText_31 : decode cX12_searchesText 31 = .ok (.iconst (1), 1) := by decide +kernel
theorem D_M_searchesText_32 : decode cX12_searchesText 32 = .ok (.goto (4), 3) := by decide +kernel
theorem D_M_searchesText_35 : decode cX12_searchesText 35 = .ok (.iconst (0), 1) := by decide +kernel
theorem D_M_searchesText_36 : decode cX12_searchesText 36 = .ok (.putfield 372, 3) := by decide +kernel
theorem D_M_searchesText_39 : decode cX12_searchesText 39 = .ok (.aload_n 0, 1) := by decide +kernel
theorem D_M_searchesText_40 : decode cX12_searchesText 40 = .ok (.iconst (1), 1) := by decide +kernel
theorem D_M_searchesText_41 : decode cX12_searchesText 41 = .ok (.putfield 211, 3) := by decide +kernel
theorem D_M_searchesText_44 : decode cX12_searchesText 44 = .ok (.return_, 1) := by decide +kernel
def K_M_searchesText : SC := (cX12_searchesText, "TwoLevelsModel", 1, 208, false, [13, 79, 80, 81, 82, 83, 84, 85, 87, 88, 89, 92, 93, 94, 95, 96, 97, 98, 99, 100, 101], NoQ)
def d_M_searchesText : MD Unit := mth tt 1 (sq (sIf (eh1 z_ne (eh1 (gI 13 50) (lR 0))) rtnU sk)
 (sq (sh2 (pI true 13 51) (lR 0) (eIf (eh2 c_eq (kV 13 d_M_searches (lR 0) [vI (eh2 (aI .int) (eh1 (gR 13 0) (lR 0)) (eC (nI 1595))), vI (eh2 (aI .int) (eh1 (gR 13 0) (lR 0)) (eC (nI 2)))]) (eC (nI 1))) (eC (nI 1)) (eC (nI 0))))
 (sq (sh2 (pI true 13 50) (lR 0) (eC (nI 1)))
 rtnU)))
theorem m_M_searchesText : MJ 208 [13, 79, 80, 81, 82, 83, 84, 85, 87, 88, 89, 92, 93, 94, 95, 96, 97, 98, 99, 100, 101] yX12_searchesText none eU (d_M_searchesText) := MJ_of (K := K_M_searchesText) (ri := .return_) (n1 := 0) (n2 := 0) (n3 := 0)
 (SJ_sq (p0 := 0) (p1 := 8) (nN := 0) (nB := 0) (nC := 0) (SJ_if (p0 := 0) (pT := 7) (pF := 8) (nN := 8) (nB := 0) (nC := 0) (CZ_ne' (off := 4) (tgt := 8) (p0 := 0) (p1 := 4) (EJ_getI (t := 13) (c := 12) (kf := 50) (r := (RX12, TX12, 52)) (p0 := 0) (p1 := 1) (EJ_aload_n (j := 0) (i := 0) (pc := 0) D_M_searchesText_0 rfl) D_M_searchesText_1 ⟨rfl, rfl, by decide, q_982⟩ (fun _ _ => rfl)) D_M_searchesText_4 rfl) (SJ_retU (pc := 7) D_M_searchesText_7) SJ_sk)
 (SJ_sq (p0 := 8) (p1 := 39) (nN := 0) (nB := 0) (nC := 0) (SJ_putI (z := true) (t := 13) (c := 12) (kf := 51) (r := (RX12, TX12, 52)) (p0 := 8) (p1 := 9) (p2 := 36) (EJ_aload_n (j := 0) (i := 0) (pc := 8) D_M_searchesText_8 rfl) (EJ_if (p0 := 9) (pT := 31) (pF := 35) (pE := 32) (p1 := 36) (CJ_eq' (off := 7) (tgt := 35) (p0 := 9) (p1 := 27) (p2 := 28) (EJ_callV (t := 13) (c := 12) (r := (RX12, TX12, 52)) (p0 := 9) (p1 := 10) (p2 := 24) (EJ_aload_n (j := 0) (i := 0) (pc := 9) D_M_searchesText_9 rfl) (AJ_I (p0 := 10) (p1 := 18) (p2 := 24) (EJ_iald (p0 := 10) (p1 := 14) (p2 := 17) (EJ_getR (t := 13) (c := 12) (kf := 0) (r := (RX12, TX12, 52)) (p0 := 10) (p1 := 11) (EJ_aload_n (j := 0) (i := 0) (pc := 10) D_M_searchesText_10 rfl) D_M_searchesText_11 ⟨rfl, rfl, by decide, q_932⟩ (fun _ _ => rfl)) (EJ_sipush (n := 1595) (v := (nI 1595)) (pc := 14) D_M_searchesText_14 (by decide +kernel)) D_M_searchesText_17) (AJ_I (p0 := 18) (p1 := 24) (p2 := 24) (EJ_iald (p0 := 18) (p1 := 22) (p2 := 23) (EJ_getR (t := 13) (c := 12) (kf := 0) (r := (RX12, TX12, 52)) (p0 := 18) (p1 := 19) (EJ_aload_n (j := 0) (i := 0) (pc := 18) D_M_searchesText_18 rfl) D_M_searchesText_19 ⟨rfl, rfl, by decide, q_932⟩ (fun _ _ => rfl)) (EJ_iconst (n := 2) (v := (nI 2)) (pc := 22) D_M_searchesText_22 (by decide +kernel)) D_M_searchesText_23) AJ_nil)) m_M_searches E1_I D_M_searchesText_24 rfl rfl rfl q_1290 q_1291 q_78 q_97 ⟨by decide +kernel, by decide +kernel, by decide +kernel⟩ (by decide) (show 207 + 1 ≤ 208 from by decide) (show ∀ x_ ∈ ([13, 79, 80, 81, 82, 83, 84, 85, 87, 88, 89, 92, 93, 94, 95, 96, 97, 98, 99, 100, 101] : List Nat), x_ ∈ ([13, 79, 80, 81, 82, 83, 84, 85, 87, 88, 89, 92, 93, 94, 95, 96, 97, 98, 99, 100, 101] : List Nat) from by decide)) (EJ_iconst (n := 1) (v := (nI 1)) (pc := 27) D_M_searchesText_27 (by decide +kernel)) D_M_searchesText_28 rfl) (EJ_iconst (n := 1) (v := (nI 1)) (pc := 31) D_M_searchesText_31 (by decide +kernel)) (Lead.goto (K := K_M_searchesText) (pc := 32) (tgt := 36) D_M_searchesText_32 rfl) (EJ_iconst (n := 0) (v := (nI 0)) (pc := 35) D_M_searchesText_35 (by decide +kernel))) D_M_searchesText_36 ⟨rfl, rfl, by decide, q_983⟩ (Or.inl rfl) (okZ_bool rfl) (fun _ _ => rfl) (show (13 : Nat) ∈ ([13, 79, 80, 81, 82, 83, 84, 85, 87, 88, 89, 92, 93, 94, 95, 96, 97, 98, 99, 100, 101] : List Nat) from by decide))
 (SJ_sq (p0 := 39) (p1 := 44) (nN := 0) (nB := 0) (nC := 0) (SJ_putI (z := true) (t := 13) (c := 12) (kf := 50) (r := (RX12, TX12, 52)) (p0 := 39) (p1 := 40) (p2 := 41) (EJ_aload_n (j := 0) (i := 0) (pc := 39) D_M_searchesText_39 rfl) (EJ_iconst (n := 1) (v := (nI 1)) (pc := 40) D_M_searchesText_40 (by decide +kernel)) D_M_searchesText_41 ⟨rfl, rfl, by decide, q_982⟩ (Or.inl rfl) (okZ_bool rfl) (fun _ _ => rfl) (show (13 : Nat) ∈ ([13, 79, 80, 81, 82, 83, 84, 85, 87, 88, 89, 92, 93, 94, 95, 96, 97, 98, 99, 100, 101] : List Nat) from by decide))
 (SJ_retU (pc := 44) D_M_searchesText_44))))
 RTm_void q_1321 (by decide +kernel) rfl (fun h => by cases h) (show 1 ≤ 40 from by decide) (fun _ => trivial)
theorem D_M_hasNode_0 : decode cX12_hasNode 0 = .ok (.aload_n 0, 1) := by decide +kernel
theorem D_M_hasNode_1 : decode cX12_hasNode 1 = .ok (.invokevirtual 375, 3) := by decide +kernel
theorem D_M_hasNode_4 : decode cX12_hasNode 4 = .ok (.aload_n 0, 1) := by decide +kernel
theorem D_M_hasNode_5 : decode cX12_hasNode 5 = .ok (.getfield 372, 3) := by decide +kernel
theorem D_M_hasNode_8 : decode cX12_hasNode 8 = .ok (.ifCond .eq (28), 3) := by decide +kernel
theorem D_M_hasNode_11 : decode cX12_hasNode 11 = .ok (.aload_n 0, 1) := by decide +kernel
theorem D_M_hasNode_12 : decode cX12_hasNode 12 = .ok (.getfield 323, 3) := by decide +kernel
theorem D_M_hasNode_15 : decode cX12_hasNode 15 = .ok (.ifCond .ne (21), 3) := by decide +kernel
theorem D_M_hasNode_18 : decode cX12_hasNode 18 = .ok (.iload_n 1, 1) := by decide +kernel
theorem D_M_hasNode_19 : decode cX12_hasNode 19 = .ok (.iconst (0), 1) := by decide +kernel
theorem D_M_hasNode_20 : decode cX12_hasNode 20 = .ok (.aload_n 0, 1) := by decide +kernel
theorem D_M_hasNode_21 : decode cX12_hasNode 21 = .ok (.getfield 320, 3) := by decide +kernel
theorem D_M_hasNode_24 : decode cX12_hasNode 24 = .ok (.iconst (1), 1) := by decide +kernel
theorem D_M_hasNode_25 : decode cX12_hasNode 25 = .ok (.isub, 1) := by decide +kernel
theorem D_M_hasNode_26 : decode cX12_hasNode 26 = .ok (.invokestatic 108, 3) := by decide +kernel
theorem D_M_hasNode_29 : decode cX12_hasNode 29 = .ok (.ifCond .eq (7), 3) := by decide +kernel
theorem D_M_hasNode_32 : decode cX12_hasNode 32 = .ok (.iconst (1), 1) := by decide +kernel
theorem D_M_hasNode_33 : decode cX12_hasNode 33 = .ok (.goto (4), 3) := by decide +kernel
theorem D_M_hasNode_36 : decode cX12_hasNode 36 = .ok (.iconst (0), 1) := by decide +kernel
theorem D_M_hasNode_37 : decode cX12_hasNode 37 = .ok (.ireturn, 1) := by decide +kernel
def K_M_hasNode : SC := (cX12_hasNode, "TwoLevelsModel", 2, 209, false, [13, 79, 80, 81, 82, 83, 84, 85, 87, 88, 89, 92, 93, 94, 95, 96, 97, 98, 99, 100, 101], NoQ)
def d_M_hasNode : MD Int32 := mth zz 2 (sq (sE (kV 13 d_M_searchesText (lR 0) []))
 (rtn (eIf (cAnd (cAnd (eh1 z_ne (eh1 (gI 13 51) (lR 0))) (cNot (eh1 z_ne (eh1 (gI 13 37) (lR 0))))) (eh1 z_ne (kS d_M_in [vI (lI 1), vI (eC (nI 0)), vI (eh2 isubF (eh1 (gI 13 47) (lR 0)) (eC (nI 1)))]))) (eC (nI 1)) (eC (nI 0)))))
theorem m_M_hasNode : MJ 209 [13, 79, 80, 81, 82, 83, 84, 85, 87, 88, 89, 92, 93, 94, 95, 96, 97, 98, 99, 100, 101] yX12_hasNode (some .boolean) eI (d_M_hasNode) := MJ_of (K := K_M_hasNode) (ri := .ireturn) (n1 := 0) (n2 := 0) (n3 := 0)
 (SJ_sq (p0 := 0) (p1 := 4) (nN := 0) (nB := 0) (nC := 0) (SJ_void (p0 := 0) (p1 := 4) (EJ_callV (t := 13) (c := 12) (r := (RX12, TX12, 52)) (p0 := 0) (p1 := 1) (p2 := 1) (EJ_aload_n (j := 0) (i := 0) (pc := 0) D_M_hasNode_0 rfl) AJ_nil m_M_searchesText E1_U D_M_hasNode_1 rfl rfl rfl q_1319 q_1320 q_86 q_97 ⟨by decide +kernel, by decide +kernel, by decide +kernel⟩ (by decide) (show 208 + 1 ≤ 209 from by decide) (show ∀ x_ ∈ ([13, 79, 80, 81, 82, 83, 84, 85, 87, 88, 89, 92, 93, 94, 95, 96, 97, 98, 99, 100, 101] : List Nat), x_ ∈ ([13, 79, 80, 81, 82, 83, 84, 85, 87, 88, 89, 92, 93, 94, 95, 96, 97, 98, 99, 100, 101] : List Nat) from by decide)))
 (SJ_ret (p0 := 4) (p1 := 37) (EJ_if (p0 := 4) (pT := 32) (pF := 36) (pE := 33) (p1 := 37) (CJ_and (p0 := 4) (pM := 18) (pT := 32) (pF := 36) (CJ_and (p0 := 4) (pM := 11) (pT := 18) (pF := 36) (CZ_ne' (off := 28) (tgt := 36) (p0 := 4) (p1 := 8) (EJ_getI (t := 13) (c := 12) (kf := 51) (r := (RX12, TX12, 52)) (p0 := 4) (p1 := 5) (EJ_aload_n (j := 0) (i := 0) (pc := 4) D_M_hasNode_4 rfl) D_M_hasNode_5 ⟨rfl, rfl, by decide, q_983⟩ (fun _ _ => rfl)) D_M_hasNode_8 rfl) (CJ_not (p0 := 11) (pT := 18) (pF := 36) (CZ_ne (off := 21) (tgt := 36) (p0 := 11) (p1 := 15) (EJ_getI (t := 13) (c := 12) (kf := 37) (r := (RX12, TX12, 52)) (p0 := 11) (p1 := 12) (EJ_aload_n (j := 0) (i := 0) (pc := 11) D_M_hasNode_11 rfl) D_M_hasNode_12 ⟨rfl, rfl, by decide, q_969⟩ (fun _ _ => rfl)) D_M_hasNode_15 rfl))) (CZ_ne' (off := 7) (tgt := 36) (p0 := 18) (p1 := 29) (EJ_callS (p0 := 18) (p1 := 26) (AJ_I (p0 := 18) (p1 := 19) (p2 := 26) (EJ_iload_n (j := 1) (i := 1) (pc := 18) D_M_hasNode_18 rfl) (AJ_I (p0 := 19) (p1 := 20) (p2 := 26) (EJ_iconst (n := 0) (v := (nI 0)) (pc := 19) D_M_hasNode_19 (by decide +kernel)) (AJ_I (p0 := 20) (p1 := 26) (p2 := 26) (EJ_isub (p0 := 20) (p1 := 24) (p2 := 25) (EJ_getI (t := 13) (c := 12) (kf := 47) (r := (RX12, TX12, 52)) (p0 := 20) (p1 := 21) (EJ_aload_n (j := 0) (i := 0) (pc := 20) D_M_hasNode_20 rfl) D_M_hasNode_21 ⟨rfl, rfl, by decide, q_979⟩ (fun _ _ => rfl)) (EJ_iconst (n := 1) (v := (nI 1)) (pc := 24) D_M_hasNode_24 (by decide +kernel)) D_M_hasNode_25) AJ_nil))) m_M_in E1_I D_M_hasNode_26 q_1071 q_1072 q_97 ⟨by decide +kernel, by decide +kernel, by decide +kernel⟩ (by decide) (show 1 + 1 ≤ 209 from by decide) (fun _ h => absurd h List.not_mem_nil)) D_M_hasNode_29 rfl)) (EJ_iconst (n := 1) (v := (nI 1)) (pc := 32) D_M_hasNode_32 (by decide +kernel)) (Lead.goto (K := K_M_hasNode) (pc := 33) (tgt := 37) D_M_hasNode_33 rfl) (EJ_iconst (n := 0) (v := (nI 0)) (pc := 36) D_M_hasNode_36 (by decide +kernel))) D_M_hasNode_37))
 RTm_bool q_1336 (by decide +kernel) rfl (fun h => by cases h) (show 2 ≤ 40 from by decide) (fun _ => trivial)
theorem D_M_checked_0 : decode cX12_checked 0 = .ok (.aload_n 0, 1) := by decide +kernel
theorem D_M_checked_1 : decode cX12_checked 1 = .ok (.iconst (0), 1) := by decide +kernel
theorem D_M_checked_2 : decode cX12_checked 2 = .ok (.invokevirtual 378, 3) := by decide +kernel
theorem D_M_checked_5 : decode cX12_checked 5 = .ok (.ifCond .eq (7), 3) := by decide +kernel
theorem D_M_checked_8 : decode cX12_checked 8 = .ok (.iconst (-1), 1) := by decide +kernel
theorem D_M_checked_9 : decode cX12_checked 9 = .ok (.goto (5), 3) := by decide +kernel
theorem D_M_checked_12 : decode cX12_checked 12 = .ok (.bipush (-2), 2) := by decide +kernel
theorem D_M_checked_14 : decode cX12_checked 14 = .ok (.ireturn, 1) := by decide +kernel
def K_M_checked : SC := (cX12_checked, "TwoLevelsModel", 1, 210, false, [13, 79, 80, 81, 82, 83, 84, 85, 87, 88, 89, 92, 93, 94, 95, 96, 97, 98, 99, 100, 101], NoQ)
def d_M_checked : MD Int32 := mth tt 1 (rtn (eIf (eh1 z_ne (kV 13 d_M_hasNode (lR 0) [vI (eC (nI 0))])) (eC (-1)) (eC (-2))))
theorem m_M_checked : MJ 210 [13, 79, 80, 81, 82, 83, 84, 85, 87, 88, 89, 92, 93, 94, 95, 96, 97, 98, 99, 100, 101] yX12_checked (some .int) eI (d_M_checked) := MJ_of (K := K_M_checked) (ri := .ireturn) (n1 := 0) (n2 := 0) (n3 := 0)
 (SJ_ret (p0 := 0) (p1 := 14) (EJ_if (p0 := 0) (pT := 8) (pF := 12) (pE := 9) (p1 := 14) (CZ_ne' (off := 7) (tgt := 12) (p0 := 0) (p1 := 5) (EJ_callV (t := 13) (c := 12) (r := (RX12, TX12, 52)) (p0 := 0) (p1 := 1) (p2 := 2) (EJ_aload_n (j := 0) (i := 0) (pc := 0) D_M_checked_0 rfl) (AJ_I (p0 := 1) (p1 := 2) (p2 := 2) (EJ_iconst (n := 0) (v := (nI 0)) (pc := 1) D_M_checked_1 (by decide +kernel)) AJ_nil) m_M_hasNode E1_I D_M_checked_2 rfl rfl rfl q_1334 q_1335 q_87 q_97 ⟨by decide +kernel, by decide +kernel, by decide +kernel⟩ (by decide) (show 209 + 1 ≤ 210 from by decide) (show ∀ x_ ∈ ([13, 79, 80, 81, 82, 83, 84, 85, 87, 88, 89, 92, 93, 94, 95, 96, 97, 98, 99, 100, 101] : List Nat), x_ ∈ ([13, 79, 80, 81, 82, 83, 84, 85, 87, 88, 89, 92, 93, 94, 95, 96, 97, 98, 99, 100, 101] : List Nat) from by decide)) D_M_checked_5 rfl) (EJ_iconst (n := -1) (v := (-1)) (pc := 8) D_M_checked_8 (by decide +kernel)) (Lead.goto (K := K_M_checked) (pc := 9) (tgt := 14) D_M_checked_9 rfl) (EJ_bipush (n := -2) (v := (-2)) (pc := 12) D_M_checked_12 (by decide +kernel))) D_M_checked_14)
 RTm_int q_1348 (by decide +kernel) rfl (fun h => by cases h) (show 1 ≤ 40 from by decide) (fun _ => trivial)
theorem D_M_choice_0 : decode cX12_choice 0 = .ok (.aload_n 0, 1) := by decide +kernel
theorem D_M_choice_1 : decode cX12_choice 1 = .ok (.iload_n 1, 1) := by decide +kernel
theorem D_M_choice_2 : decode cX12_choice 2 = .ok (.invokevirtual 217, 3) := by decide +kernel
theorem D_M_choice_5 : decode cX12_choice 5 = .ok (.ifCond .eq (18), 3) := by decide +kernel
theorem D_M_choice_8 : decode cX12_choice 8 = .ok (.iload_n 2, 1) := by decide +kernel
theorem D_M_choice_9 : decode cX12_choice 9 = .ok (.iconst (0), 1) := by decide +kernel
theorem D_M_choice_10 : decode cX12_choice 10 = .ok (.aload_n 0, 1) := by decide +kernel
theorem D_M_choice_11 : decode cX12_choice 11 = .ok (.iload_n 1, 1) := by decide +kernel
theorem D_M_choice_12 : decode cX12_choice 12 = .ok (.invokevirtual 264, 3) := by decide +kernel
theorem D_M_choice_15 : decode cX12_choice 15 = .ok (.iconst (1), 1) := by decide +kernel
theorem D_M_choice_16 : decode cX12_choice 16 = .ok (.isub, 1) := by decide +kernel
theorem D_M_choice_17 : decode cX12_choice 17 = .ok (.invokestatic 108, 3) := by decide +kernel
theorem D_M_choice_20 : decode cX12_choice 20 = .ok (.ifCond .ne (5), 3) := by decide +kernel
theorem D_M_choice_23 : decode cX12_choice 23 = .ok (.iconst (-1), 1) := by decide +kernel
theorem D_M_choice_24 : decode cX12_choice 24 = .ok (.ireturn, 1) := by decide +kernel
theorem D_M_choice_25 : decode cX12_choice 25 = .ok (.aload_n 0, 1) := by decide +kernel
theorem D_M_choice_26 : decode cX12_choice 26 = .ok (.getfield 9, 3) := by decide +kernel
theorem D_M_choice_29 : decode cX12_choice 29 = .ok (.iload_n 1, 1) := by decide +kernel
theorem D_M_choice_30 : decode cX12_choice 30 = .ok (.iload_n 2, 1) := by decide +kernel
theorem D_M_choice_31 : decode cX12_choice 31 = .ok (.invokestatic 258, 3) := by decide +kernel
theorem D_M_choice_34 : decode cX12_choice 34 = .ok (.iaload, 1) := by decide +kernel
theorem D_M_choice_35 : decode cX12_choice 35 = .ok (.istore 4, 2) := by decide +kernel
theorem D_M_choice_37 : decode cX12_choice 37 = .ok (.iconst (0), 1) := by decide +kernel
theorem D_M_choice_38 : decode cX12_choice 38 = .ok (.istore 5, 2) := by decide +kernel
theorem D_M_choice_40 : decode cX12_choice 40 = .ok (.iconst (0), 1) := by decide +kernel
theorem D_M_choice_41 : decode cX12_choice 41 = .ok (.istore 6, 2) := by decide +kernel
theorem D_M_choice_43 : decode cX12_choice 43 = .ok (.iload 6, 2) := by decide +kernel
theorem D_M_choice_45 : decode cX12_choice 45 = .ok (.iload 4, 2) := by decide +kernel
theorem D_M_choice_47 : decode cX12_choice 47 = .ok (.if_icmp .ge (26), 3) := by decide +kernel
theorem D_M_choice_50 : decode cX12_choice 50 = .ok (.iload 5, 2) := by decide +kernel
theorem D_M_choice_52 : decode cX12_choice 52 = .ok (.aload_n 0, 1) := by decide +kernel
theorem D_M_choice_53 : decode cX12_choice 53 = .ok (.getfield 9, 3) := by decide +kernel
theorem D_M_choice_56 : decode cX12_choice 56 = .ok (.iload_n 1, 1) := by decide +kernel
theorem D_M_choice_57 : decode cX12_choice 57 = .ok (.iload_n 2, 1) := by decide +kernel
theorem D_M_choice_58 : decode cX12_choice 58 = .ok (.iload 6, 2) := by decide +kernel
theorem D_M_choice_60 : decode cX12_choice 60 = .ok (.invokestatic 267, 3) := by decide +kernel
theorem D_M_choice_63 : decode cX12_choice 63 = .ok (.iaload, 1) := by decide +kernel
theorem D_M_choice_64 : decode cX12_choice 64 = .ok (.iadd, 1) := by decide +kernel
theorem D_M_choice_65 : decode cX12_choice 65 = .ok (.istore 5, 2) := by decide +kernel
theorem D_M_choice_67 : decode cX12_choice 67 = .ok (.iinc 6 (1), 3) := by decide +kernel
theorem D_M_choice_70 : decode cX12_choice 70 = .ok (.goto (-27), 3) := by decide +kernel
theorem D_M_choice_73 : decode cX12_choice 73 = .ok (.aload_n 0, 1) := by decide +kernel
theorem D_M_choice_74 : decode cX12_choice 74 = .ok (.iload_n 1, 1) := by decide +kernel
theorem D_M_choice_75 : decode cX12_choice 75 = .ok (.iload_n 2, 1) := by decide +kernel
theorem D_M_choice_76 : decode cX12_choice 76 = .ok (.invokevirtual 297, 3) := by decide +kernel
theorem D_M_choice_79 : decode cX12_choice 79 = .ok (.iconst (0), 1) := by decide +kernel
theorem D_M_choice_80 : decode cX12_choice 80 = .ok (.istore 6, 2) := by decide +kernel
theorem D_M_choice_82 : decode cX12_choice 82 = .ok (.iconst (0), 1) := by decide +kernel
theorem D_M_choice_83 : decode cX12_choice 83 = .ok (.istore 7, 2) := by decide +kernel
theorem D_M_choice_85 : decode cX12_choice 85 = .ok (.iload 7, 2) := by decide +kernel
theorem D_M_choice_87 : decode cX12_choice 87 = .ok (.aload_n 0, 1) := by decide +kernel
theorem D_M_choice_88 : decode cX12_choice 88 = .ok (.getfield 294, 3) := by decide +kernel
theorem D_M_choice_91 : decode cX12_choice 91 = .ok (.if_icmp .ge (36), 3) := by decide +kernel
theorem D_M_choice_94 : decode cX12_choice 94 = .ok (.iload 6, 2) := by decide +kernel
theorem D_M_choice_96 : decode cX12_choice 96 = .ok (.iconst (1), 1) := by decide +kernel
theorem D_M_choice_97 : decode cX12_choice 97 = .ok (.aload_n 0, 1) := by decide +kernel
theorem D_M_choice_98 : decode cX12_choice 98 = .ok (.getfield 9, 3) := by decide +kernel
theorem D_M_choice_101 : decode cX12_choice 101 = .ok (.iconst (4), 1) := by decide +kernel
theorem D_M_choice_102 : decode cX12_choice 102 = .ok (.bipush (30), 2) := by decide +kernel
theorem D_M_choice_104 : decode cX12_choice 104 = .ok (.aload_n 0, 1) := by decide +kernel
theorem D_M_choice_105 : decode cX12_choice 105 = .ok (.getfield 63, 3) := by decide +kernel
theorem D_M_choice_108 : decode cX12_choice 108 = .ok (.iload 7, 2) := by decide +kernel
theorem D_M_choice_110 : decode cX12_choice 110 = .ok (.iaload, 1) := by decide +kernel
theorem D_M_choice_111 : decode cX12_choice 111 = .ok (.imul, 1) := by decide +kernel
theorem D_M_choice_112 : decode cX12_choice 112 = .ok (.iadd, 1) := by decide +kernel
theorem D_M_choice_113 : decode cX12_choice 113 = .ok (.iaload, 1) := by decide +kernel
theorem D_M_choice_114 : decode cX12_choice 114 = .ok (.bipush (65), 2) := by decide +kernel
theorem D_M_choice_116 : decode cX12_choice 116 = .ok (.isub, 1) := by decide +kernel
theorem D_M_choice_117 : decode cX12_choice 117 = .ok (.ishl, 1) := by decide +kernel
theorem D_M_choice_118 : decode cX12_choice 118 = .ok (.ior, 1) := by decide +kernel
theorem D_M_choice_119 : decode cX12_choice 119 = .ok (.istore 6, 2) := by decide +kernel
theorem D_M_choice_121 : decode cX12_choice 121 = .ok (.iinc 7 (1), 3) := by decide +kernel
theorem D_M_choice_124 : decode cX12_choice 124 = .ok (.goto (-39), 3) := by decide +kernel
theorem D_M_choice_127 : decode cX12_choice 127 = .ok (.iload_n 3, 1) := by decide +kernel
theorem D_M_choice_128 : decode cX12_choice 128 = .ok (.tableswitch 37 0 2 #[28, 31, 34], 28) := by decide +kernel
theorem D_M_choice_156 : decode cX12_choice 156 = .ok (.iload 4, 2) := by decide +kernel
theorem D_M_choice_158 : decode cX12_choice 158 = .ok (.ireturn, 1) := by decide +kernel
theorem D_M_choice_159 : decode cX12_choice 159 = .ok (.iload 6, 2) := by decide +kernel
theorem D_M_choice_161 : decode cX12_choice 161 = .ok (.ireturn, 1) := by decide +kernel
theorem D_M_choice_162 : decode cX12_choice 162 = .ok (.iload 5, 2) := by decide +kernel
theorem D_M_choice_164 : decode cX12_choice 164 = .ok (.ireturn, 1) := by decide +kernel
theorem D_M_choice_165 : decode cX12_choice 165 = .ok (.iconst (-1), 1) := by decide +kernel
theorem D_M_choice_166 : decode cX12_choice 166 = .ok (.ireturn, 1) := by decide +kernel
def K_M_choice : SC := (cX12_choice, "TwoLevelsModel", 8, 5, false, [13, 87], NoQ)
def d_M_choice : MD Int32 := mth tt 8 (sq (sIf (cOr (cNot (eh1 z_ne (kV 13 d_M_isRule (lR 0) [vI (lI 1)]))) (cNot (eh1 z_ne (kS d_M_in [vI (lI 2), vI (eC (nI 0)), vI (eh2 isubF (kV 13 d_M_choices (lR 0) [vI (lI 1)]) (eC (nI 1)))])))) (rtn (eC (-1))) sk)
 (sq (sI1 4 (eh2 (aI .int) (eh1 (gR 13 0) (lR 0)) (kS d_M_choiceAt [vI (lI 1), vI (lI 2)])))
 (sq (sI1 5 (eC (nI 0)))
 (sq (sq (sI1 6 (eC (nI 0)))
 (loop (eh2 c_lt (lI 6) (lI 4))
 (sI1 5 (eh2 iaddF (lI 5) (eh2 (aI .int) (eh1 (gR 13 0) (lR 0)) (kS d_M_memberAt [vI (lI 1), vI (lI 2), vI (lI 6)]))))
 (sInc 6 (nI 1))))
 (sq (sE (kV 13 d_M_laysFree (lR 0) [vI (lI 1), vI (lI 2)]))
 (sq (sI1 6 (eC (nI 0)))
 (sq (sq (sI1 7 (eC (nI 0)))
 (loop (eh2 c_lt (lI 7) (eh1 (gI 13 25) (lR 0)))
 (sI1 6 (eh2 iorF (lI 6) (eh2 ishlF (eC (nI 1)) (eh2 isubF (eh2 (aI .int) (eh1 (gR 13 0) (lR 0)) (eh2 iaddF (eC (nI 4)) (eh2 imulF (eC (nI 30)) (eh2 (aI .int) (eh1 (gR 13 24) (lR 0)) (lI 7))))) (eC (nI 65))))))
 (sInc 7 (nI 1))))
 (sSw (lI 3) [((rtn (lI 4)), 156),
 ((rtn (lI 6)), 159),
 ((rtn (lI 5)), 162)]
 (rtn (eC (-1)))))))))))
theorem m_M_choice : MJ 5 [13, 87] yX12_choice (some .int) eI (d_M_choice) := MJ_of (K := K_M_choice) (ri := .ireturn) (n1 := 0) (n2 := 0) (n3 := 0)
 (SJ_sq (p0 := 0) (p1 := 25) (nN := 0) (nB := 0) (nC := 0) (SJ_if (p0 := 0) (pT := 23) (pF := 25) (nN := 25) (nB := 0) (nC := 0) (CJ_or (p0 := 0) (pM := 8) (pT := 23) (pF := 25) (CJ_not (p0 := 0) (pT := 23) (pF := 8) (CZ_ne' (off := 18) (tgt := 23) (p0 := 0) (p1 := 5) (EJ_callV (t := 13) (c := 12) (r := (RX12, TX12, 52)) (p0 := 0) (p1 := 1) (p2 := 2) (EJ_aload_n (j := 0) (i := 0) (pc := 0) D_M_choice_0 rfl) (AJ_I (p0 := 1) (p1 := 2) (p2 := 2) (EJ_iload_n (j := 1) (i := 1) (pc := 1) D_M_choice_1 rfl) AJ_nil) m_M_isRule E1_I D_M_choice_2 rfl rfl rfl q_1150 q_1151 q_55 q_97 ⟨by decide +kernel, by decide +kernel, by decide +kernel⟩ (by decide) (show 2 + 1 ≤ 5 from by decide) (fun _ h => absurd h List.not_mem_nil)) D_M_choice_5 rfl)) (CJ_not (p0 := 8) (pT := 23) (pF := 25) (CZ_ne (off := 5) (tgt := 25) (p0 := 8) (p1 := 20) (EJ_callS (p0 := 8) (p1 := 17) (AJ_I (p0 := 8) (p1 := 9) (p2 := 17) (EJ_iload_n (j := 2) (i := 2) (pc := 8) D_M_choice_8 rfl) (AJ_I (p0 := 9) (p1 := 10) (p2 := 17) (EJ_iconst (n := 0) (v := (nI 0)) (pc := 9) D_M_choice_9 (by decide +kernel)) (AJ_I (p0 := 10) (p1 := 17) (p2 := 17) (EJ_isub (p0 := 10) (p1 := 15) (p2 := 16) (EJ_callV (t := 13) (c := 12) (r := (RX12, TX12, 52)) (p0 := 10) (p1 := 11) (p2 := 12) (EJ_aload_n (j := 0) (i := 0) (pc := 10) D_M_choice_10 rfl) (AJ_I (p0 := 11) (p1 := 12) (p2 := 12) (EJ_iload_n (j := 1) (i := 1) (pc := 11) D_M_choice_11 rfl) AJ_nil) m_M_choices E1_I D_M_choice_12 rfl rfl rfl q_1215 q_1216 q_70 q_97 ⟨by decide +kernel, by decide +kernel, by decide +kernel⟩ (by decide) (show 2 + 1 ≤ 5 from by decide) (fun _ h => absurd h List.not_mem_nil)) (EJ_iconst (n := 1) (v := (nI 1)) (pc := 15) D_M_choice_15 (by decide +kernel)) D_M_choice_16) AJ_nil))) m_M_in E1_I D_M_choice_17 q_1071 q_1072 q_97 ⟨by decide +kernel, by decide +kernel, by decide +kernel⟩ (by decide) (show 1 + 1 ≤ 5 from by decide) (fun _ h => absurd h List.not_mem_nil)) D_M_choice_20 rfl))) (SJ_ret (p0 := 23) (p1 := 24) (EJ_iconst (n := -1) (v := (-1)) (pc := 23) D_M_choice_23 (by decide +kernel)) D_M_choice_24) SJ_sk)
 (SJ_sq (p0 := 25) (p1 := 37) (nN := 0) (nB := 0) (nC := 0) (SJ_istore (i := 4) (p0 := 25) (p1 := 35) (EJ_iald (p0 := 25) (p1 := 29) (p2 := 34) (EJ_getR (t := 13) (c := 12) (kf := 0) (r := (RX12, TX12, 52)) (p0 := 25) (p1 := 26) (EJ_aload_n (j := 0) (i := 0) (pc := 25) D_M_choice_25 rfl) D_M_choice_26 ⟨rfl, rfl, by decide, q_932⟩ (fun _ _ => rfl)) (EJ_callS (p0 := 29) (p1 := 31) (AJ_I (p0 := 29) (p1 := 30) (p2 := 31) (EJ_iload_n (j := 1) (i := 1) (pc := 29) D_M_choice_29 rfl) (AJ_I (p0 := 30) (p1 := 31) (p2 := 31) (EJ_iload_n (j := 2) (i := 2) (pc := 30) D_M_choice_30 rfl) AJ_nil)) m_M_choiceAt E1_I D_M_choice_31 q_1218 q_1219 q_97 ⟨by decide +kernel, by decide +kernel, by decide +kernel⟩ (by decide) (show 2 + 1 ≤ 5 from by decide) (fun _ h => absurd h List.not_mem_nil)) D_M_choice_34) D_M_choice_35)
 (SJ_sq (p0 := 37) (p1 := 40) (nN := 0) (nB := 0) (nC := 0) (SJ_istore (i := 5) (p0 := 37) (p1 := 38) (EJ_iconst (n := 0) (v := (nI 0)) (pc := 37) D_M_choice_37 (by decide +kernel)) D_M_choice_38)
 (SJ_sq (p0 := 40) (p1 := 73) (nN := 0) (nB := 0) (nC := 0) (SJ_sq (p0 := 40) (p1 := 43) (nN := 73) (nB := 0) (nC := 0) (SJ_istore (i := 6) (p0 := 40) (p1 := 41) (EJ_iconst (n := 0) (v := (nI 0)) (pc := 40) D_M_choice_40 (by decide +kernel)) D_M_choice_41)
 (SJ_loop (p0 := 43) (pB := 50) (pS := 67) (pE := 73) (CJ_lt' (off := 26) (tgt := 73) (p0 := 43) (p1 := 45) (p2 := 47) (EJ_iload (i := 6) (pc := 43) D_M_choice_43) (EJ_iload (i := 4) (pc := 45) D_M_choice_45) D_M_choice_47 rfl)
 (SJ_istore (i := 5) (p0 := 50) (p1 := 65) (EJ_iadd (p0 := 50) (p1 := 52) (p2 := 64) (EJ_iload (i := 5) (pc := 50) D_M_choice_50) (EJ_iald (p0 := 52) (p1 := 56) (p2 := 63) (EJ_getR (t := 13) (c := 12) (kf := 0) (r := (RX12, TX12, 52)) (p0 := 52) (p1 := 53) (EJ_aload_n (j := 0) (i := 0) (pc := 52) D_M_choice_52 rfl) D_M_choice_53 ⟨rfl, rfl, by decide, q_932⟩ (fun _ _ => rfl)) (EJ_callS (p0 := 56) (p1 := 60) (AJ_I (p0 := 56) (p1 := 57) (p2 := 60) (EJ_iload_n (j := 1) (i := 1) (pc := 56) D_M_choice_56 rfl) (AJ_I (p0 := 57) (p1 := 58) (p2 := 60) (EJ_iload_n (j := 2) (i := 2) (pc := 57) D_M_choice_57 rfl) (AJ_I (p0 := 58) (p1 := 60) (p2 := 60) (EJ_iload (i := 6) (pc := 58) D_M_choice_58) AJ_nil))) m_M_memberAt E1_I D_M_choice_60 q_1221 q_1222 q_97 ⟨by decide +kernel, by decide +kernel, by decide +kernel⟩ (by decide) (show 3 + 1 ≤ 5 from by decide) (fun _ h => absurd h List.not_mem_nil)) D_M_choice_63) D_M_choice_64) D_M_choice_65)
 (SJ_post (SJ_iinc (i := 6) (n := 1) (v := (nI 1)) (pc := 67) D_M_choice_67 (by decide +kernel)) (Lead.goto (K := K_M_choice) (pc := 70) (tgt := 43) D_M_choice_70 rfl))))
 (SJ_sq (p0 := 73) (p1 := 79) (nN := 0) (nB := 0) (nC := 0) (SJ_void (p0 := 73) (p1 := 79) (EJ_callV (t := 13) (c := 12) (r := (RX12, TX12, 52)) (p0 := 73) (p1 := 74) (p2 := 76) (EJ_aload_n (j := 0) (i := 0) (pc := 73) D_M_choice_73 rfl) (AJ_I (p0 := 74) (p1 := 75) (p2 := 76) (EJ_iload_n (j := 1) (i := 1) (pc := 74) D_M_choice_74 rfl) (AJ_I (p0 := 75) (p1 := 76) (p2 := 76) (EJ_iload_n (j := 2) (i := 2) (pc := 75) D_M_choice_75 rfl) AJ_nil)) m_M_laysFree E1_U D_M_choice_76 rfl rfl rfl q_1259 q_1260 q_73 q_97 ⟨by decide +kernel, by decide +kernel, by decide +kernel⟩ (by decide) (show 4 + 1 ≤ 5 from by decide) (show ∀ x_ ∈ ([13, 87] : List Nat), x_ ∈ ([13, 87] : List Nat) from by decide)))
 (SJ_sq (p0 := 79) (p1 := 82) (nN := 0) (nB := 0) (nC := 0) (SJ_istore (i := 6) (p0 := 79) (p1 := 80) (EJ_iconst (n := 0) (v := (nI 0)) (pc := 79) D_M_choice_79 (by decide +kernel)) D_M_choice_80)
 (SJ_sq (p0 := 82) (p1 := 127) (nN := 0) (nB := 0) (nC := 0) (SJ_sq (p0 := 82) (p1 := 85) (nN := 127) (nB := 0) (nC := 0) (SJ_istore (i := 7) (p0 := 82) (p1 := 83) (EJ_iconst (n := 0) (v := (nI 0)) (pc := 82) D_M_choice_82 (by decide +kernel)) D_M_choice_83)
 (SJ_loop (p0 := 85) (pB := 94) (pS := 121) (pE := 127) (CJ_lt' (off := 36) (tgt := 127) (p0 := 85) (p1 := 87) (p2 := 91) (EJ_iload (i := 7) (pc := 85) D_M_choice_85) (EJ_getI (t := 13) (c := 12) (kf := 25) (r := (RX12, TX12, 52)) (p0 := 87) (p1 := 88) (EJ_aload_n (j := 0) (i := 0) (pc := 87) D_M_choice_87 rfl) D_M_choice_88 ⟨rfl, rfl, by decide, q_957⟩ (fun _ _ => rfl)) D_M_choice_91 rfl)
 (SJ_istore (i := 6) (p0 := 94) (p1 := 119) (EJ_ior (p0 := 94) (p1 := 96) (p2 := 118) (EJ_iload (i := 6) (pc := 94) D_M_choice_94) (EJ_ishl (p0 := 96) (p1 := 97) (p2 := 117) (EJ_iconst (n := 1) (v := (nI 1)) (pc := 96) D_M_choice_96 (by decide +kernel)) (EJ_isub (p0 := 97) (p1 := 114) (p2 := 116) (EJ_iald (p0 := 97) (p1 := 101) (p2 := 113) (EJ_getR (t := 13) (c := 12) (kf := 0) (r := (RX12, TX12, 52)) (p0 := 97) (p1 := 98) (EJ_aload_n (j := 0) (i := 0) (pc := 97) D_M_choice_97 rfl) D_M_choice_98 ⟨rfl, rfl, by decide, q_932⟩ (fun _ _ => rfl)) (EJ_iadd (p0 := 101) (p1 := 102) (p2 := 112) (EJ_iconst (n := 4) (v := (nI 4)) (pc := 101) D_M_choice_101 (by decide +kernel)) (EJ_imul (p0 := 102) (p1 := 104) (p2 := 111) (EJ_bipush (n := 30) (v := (nI 30)) (pc := 102) D_M_choice_102 (by decide +kernel)) (EJ_iald (p0 := 104) (p1 := 108) (p2 := 110) (EJ_getR (t := 13) (c := 12) (kf := 24) (r := (RX12, TX12, 52)) (p0 := 104) (p1 := 105) (EJ_aload_n (j := 0) (i := 0) (pc := 104) D_M_choice_104 rfl) D_M_choice_105 ⟨rfl, rfl, by decide, q_956⟩ (fun _ _ => rfl)) (EJ_iload (i := 7) (pc := 108) D_M_choice_108) D_M_choice_110) D_M_choice_111) D_M_choice_112) D_M_choice_113) (EJ_bipush (n := 65) (v := (nI 65)) (pc := 114) D_M_choice_114 (by decide +kernel)) D_M_choice_116) D_M_choice_117) D_M_choice_118) D_M_choice_119)
 (SJ_post (SJ_iinc (i := 7) (n := 1) (v := (nI 1)) (pc := 121) D_M_choice_121 (by decide +kernel)) (Lead.goto (K := K_M_choice) (pc := 124) (tgt := 85) D_M_choice_124 rfl))))
 (SJ_sw (p0 := 127) (p1 := 128) (pD := 165) (EJ_iload_n (j := 3) (i := 3) (pc := 127) D_M_choice_127 rfl) D_M_choice_128 (by decide) (fun j qq hq => match j, hq with | 0, hq => (by cases hq; exact ⟨⟨_, rfl, rfl⟩, (SJ_ret (p0 := 156) (p1 := 158) (EJ_iload (i := 4) (pc := 156) D_M_choice_156) D_M_choice_158)⟩) | 1, hq => (by cases hq; exact ⟨⟨_, rfl, rfl⟩, (SJ_ret (p0 := 159) (p1 := 161) (EJ_iload (i := 6) (pc := 159) D_M_choice_159) D_M_choice_161)⟩) | 2, hq => (by cases hq; exact ⟨⟨_, rfl, rfl⟩, (SJ_ret (p0 := 162) (p1 := 164) (EJ_iload (i := 5) (pc := 162) D_M_choice_162) D_M_choice_164)⟩) | (_ + 3), hq => by simp at hq) rfl (SJ_ret (p0 := 165) (p1 := 166) (EJ_iconst (n := -1) (v := (-1)) (pc := 165) D_M_choice_165 (by decide +kernel)) D_M_choice_166)))))))))
 RTm_int q_1258 (by decide +kernel) rfl (fun h => by cases h) (show 8 ≤ 40 from by decide) (fun _ => trivial)
theorem D_M_allChoices_0 : decode cX12_allChoices 0 = .ok (.iconst (0), 1) := by decide +kernel
theorem D_M_allChoices_1 : decode cX12_allChoices 1 = .ok (.istore_n 1, 1) := by decide +kernel
theorem D_M_allChoices_2 : decode cX12_allChoices 2 = .ok (.iconst (0), 1) := by decide +kernel
theorem D_M_allChoices_3 : decode cX12_allChoices 3 = .ok (.istore_n 2, 1) := by decide +kernel
theorem D_M_allChoices_4 : decode cX12_allChoices 4 = .ok (.iload_n 2, 1) := by decide +kernel
theorem D_M_allChoices_5 : decode cX12_allChoices 5 = .ok (.aload_n 0, 1) := by decide +kernel
theorem D_M_allChoices_6 : decode cX12_allChoices 6 = .ok (.getfield 9, 3) := by decide +kernel
theorem D_M_allChoices_9 : decode cX12_allChoices 9 = .ok (.iconst (1), 1) := by decide +kernel
theorem D_M_allChoices_10 : decode cX12_allChoices 10 = .ok (.iaload, 1) := by decide +kernel
theorem D_M_allChoices_11 : decode cX12_allChoices 11 = .ok (.if_icmp .ge (17), 3) := by decide +kernel
theorem D_M_allChoices_14 : decode cX12_allChoices 14 = .ok (.iload_n 1, 1) := by decide +kernel
theorem D_M_allChoices_15 : decode cX12_allChoices 15 = .ok (.aload_n 0, 1) := by decide +kernel
theorem D_M_allChoices_16 : decode cX12_allChoices 16 = .ok (.iload_n 2, 1) := by decide +kernel
theorem D_M_allChoices_17 : decode cX12_allChoices 17 = .ok (.invokevirtual 264, 3) := by decide +kernel
theorem D_M_allChoices_20 : decode cX12_allChoices 20 = .ok (.iadd, 1) := by decide +kernel
theorem D_M_allChoices_21 : decode cX12_allChoices 21 = .ok (.istore_n 1, 1) := by decide +kernel
theorem D_M_allChoices_22 : decode cX12_allChoices 22 = .ok (.iinc 2 (1), 3) := by decide +kernel
theorem D_M_allChoices_25 : decode cX12_allChoices 25 = .ok (.goto (-21), 3) := by decide +kernel
theorem D_M_allChoices_28 : decode cX12_allChoices 28 = .ok (.iload_n 1, 1) := by decide +kernel
theorem D_M_allChoices_29 : decode cX12_allChoices 29 = .ok (.ireturn, 1) := by decide +kernel
def K_M_allChoices : SC := (cX12_allChoices, "TwoLevelsModel", 3, 3, false, [], NoQ)
def d_M_allChoices : MD Int32 := mth tt 3 (sq (sI1 1 (eC (nI 0)))
 (sq (sq (sI1 2 (eC (nI 0)))
 (loop (eh2 c_lt (lI 2) (eh2 (aI .int) (eh1 (gR 13 0) (lR 0)) (eC (nI 1))))
 (sI1 1 (eh2 iaddF (lI 1) (kV 13 d_M_choices (lR 0) [vI (lI 2)])))
 (sInc 2 (nI 1))))
 (rtn (lI 1))))
theorem m_M_allChoices : MJ 3 [] yX12_allChoices (some .int) eI (d_M_allChoices) := MJ_of (K := K_M_allChoices) (ri := .ireturn) (n1 := 0) (n2 := 0) (n3 := 0)
 (SJ_sq (p0 := 0) (p1 := 2) (nN := 0) (nB := 0) (nC := 0) (SJ_istore_n (i := 1) (j := 1) (p0 := 0) (p1 := 1) (EJ_iconst (n := 0) (v := (nI 0)) (pc := 0) D_M_allChoices_0 (by decide +kernel)) D_M_allChoices_1 rfl)
 (SJ_sq (p0 := 2) (p1 := 28) (nN := 0) (nB := 0) (nC := 0) (SJ_sq (p0 := 2) (p1 := 4) (nN := 28) (nB := 0) (nC := 0) (SJ_istore_n (i := 2) (j := 2) (p0 := 2) (p1 := 3) (EJ_iconst (n := 0) (v := (nI 0)) (pc := 2) D_M_allChoices_2 (by decide +kernel)) D_M_allChoices_3 rfl)
 (SJ_loop (p0 := 4) (pB := 14) (pS := 22) (pE := 28) (CJ_lt' (off := 17) (tgt := 28) (p0 := 4) (p1 := 5) (p2 := 11) (EJ_iload_n (j := 2) (i := 2) (pc := 4) D_M_allChoices_4 rfl) (EJ_iald (p0 := 5) (p1 := 9) (p2 := 10) (EJ_getR (t := 13) (c := 12) (kf := 0) (r := (RX12, TX12, 52)) (p0 := 5) (p1 := 6) (EJ_aload_n (j := 0) (i := 0) (pc := 5) D_M_allChoices_5 rfl) D_M_allChoices_6 ⟨rfl, rfl, by decide, q_932⟩ (fun _ _ => rfl)) (EJ_iconst (n := 1) (v := (nI 1)) (pc := 9) D_M_allChoices_9 (by decide +kernel)) D_M_allChoices_10) D_M_allChoices_11 rfl)
 (SJ_istore_n (i := 1) (j := 1) (p0 := 14) (p1 := 21) (EJ_iadd (p0 := 14) (p1 := 15) (p2 := 20) (EJ_iload_n (j := 1) (i := 1) (pc := 14) D_M_allChoices_14 rfl) (EJ_callV (t := 13) (c := 12) (r := (RX12, TX12, 52)) (p0 := 15) (p1 := 16) (p2 := 17) (EJ_aload_n (j := 0) (i := 0) (pc := 15) D_M_allChoices_15 rfl) (AJ_I (p0 := 16) (p1 := 17) (p2 := 17) (EJ_iload_n (j := 2) (i := 2) (pc := 16) D_M_allChoices_16 rfl) AJ_nil) m_M_choices E1_I D_M_allChoices_17 rfl rfl rfl q_1215 q_1216 q_70 q_97 ⟨by decide +kernel, by decide +kernel, by decide +kernel⟩ (by decide) (show 2 + 1 ≤ 3 from by decide) (fun _ h => absurd h List.not_mem_nil)) D_M_allChoices_20) D_M_allChoices_21 rfl)
 (SJ_post (SJ_iinc (i := 2) (n := 1) (v := (nI 1)) (pc := 22) D_M_allChoices_22 (by decide +kernel)) (Lead.goto (K := K_M_allChoices) (pc := 25) (tgt := 4) D_M_allChoices_25 rfl))))
 (SJ_ret (p0 := 28) (p1 := 29) (EJ_iload_n (j := 1) (i := 1) (pc := 28) D_M_allChoices_28 rfl) D_M_allChoices_29)))
 RTm_int q_1355 (by decide +kernel) rfl (fun h => by cases h) (show 3 ≤ 40 from by decide) (fun _ => trivial)
theorem D_M_canRow_0 : decode cX12_canRow 0 = .ok (.iconst (1), 1) := by decide +kernel
theorem D_M_canRow_1 : decode cX12_canRow 1 = .ok (.istore_n 2, 1) := by decide +kernel
theorem D_M_canRow_2 : decode cX12_canRow 2 = .ok (.iload_n 2, 1) := by decide +kernel
theorem D_M_canRow_3 : decode cX12_canRow 3 = .ok (.aload_n 0, 1) := by decide +kernel
theorem D_M_canRow_4 : decode cX12_canRow 4 = .ok (.getfield 9, 3) := by decide +kernel
theorem D_M_canRow_7 : decode cX12_canRow 7 = .ok (.iload_n 1, 1) := by decide +kernel
theorem D_M_canRow_8 : decode cX12_canRow 8 = .ok (.iaload, 1) := by decide +kernel
theorem D_M_canRow_9 : decode cX12_canRow 9 = .ok (.if_icmp .gt (45), 3) := by decide +kernel
theorem D_M_canRow_12 : decode cX12_canRow 12 = .ok (.aload_n 0, 1) := by decide +kernel
theorem D_M_canRow_13 : decode cX12_canRow 13 = .ok (.getfield 9, 3) := by decide +kernel
theorem D_M_canRow_16 : decode cX12_canRow 16 = .ok (.iload_n 1, 1) := by decide +kernel
theorem D_M_canRow_17 : decode cX12_canRow 17 = .ok (.iload_n 2, 1) := by decide +kernel
theorem D_M_canRow_18 : decode cX12_canRow 18 = .ok (.iadd, 1) := by decide +kernel
theorem D_M_canRow_19 : decode cX12_canRow 19 = .ok (.iaload, 1) := by decide +kernel
theorem D_M_canRow_20 : decode cX12_canRow 20 = .ok (.invokestatic 141, 3) := by decide +kernel
theorem D_M_canRow_23 : decode cX12_canRow 23 = .ok (.ifCond .eq (25), 3) := by decide +kernel
theorem D_M_canRow_26 : decode cX12_canRow 26 = .ok (.aload_n 0, 1) := by decide +kernel
theorem D_M_canRow_27 : decode cX12_canRow 27 = .ok (.getfield 60, 3) := by decide +kernel
theorem D_M_canRow_30 : decode cX12_canRow 30 = .ok (.aload_n 0, 1) := by decide +kernel
theorem D_M_canRow_31 : decode cX12_canRow 31 = .ok (.aload_n 0, 1) := by decide +kernel
theorem D_M_canRow_32 : decode cX12_canRow 32 = .ok (.getfield 9, 3) := by decide +kernel
theorem D_M_canRow_35 : decode cX12_canRow 35 = .ok (.iload_n 1, 1) := by decide +kernel
theorem D_M_canRow_36 : decode cX12_canRow 36 = .ok (.iload_n 2, 1) := by decide +kernel
theorem D_M_canRow_37 : decode cX12_canRow 37 = .ok (.iadd, 1) := by decide +kernel
theorem D_M_canRow_38 : decode cX12_canRow 38 = .ok (.iaload, 1) := by decide +kernel
theorem D_M_canRow_39 : decode cX12_canRow 39 = .ok (.invokevirtual 220, 3) := by decide +kernel
theorem D_M_canRow_42 : decode cX12_canRow 42 = .ok (.baload, 1) := by decide +kernel
theorem D_M_canRow_43 : decode cX12_canRow 43 = .ok (.ifCond .ne (5), 3) := by decide +kernel
theorem D_M_canRow_46 : decode cX12_canRow 46 = .ok (.iconst (0), 1) := by decide +kernel
theorem D_M_canRow_47 : decode cX12_canRow 47 = .ok (.ireturn, 1) := by decide +kernel
theorem D_M_canRow_48 : decode cX12_canRow 48 = .ok (.iinc 2 (1), 3) := by decide +kernel
theorem D_M_canRow_51 : decode cX12_canRow 51 = .ok (.goto (-49), 3) := by decide +kernel
theorem D_M_canRow_54 : decode cX12_canRow 54 = .ok (.iconst (1), 1) := by decide +kernel
theorem D_M_canRow_55 : decode cX12_canRow 55 = .ok (.ireturn, 1) := by decide +kernel
def K_M_canRow : SC := (cX12_canRow, "TwoLevelsModel", 3, 3, false, [], NoQ)
def d_M_canRow : MD Int32 := mth zz 3 (sq (sq (sI1 2 (eC (nI 1)))
 (loop (eh2 c_le (lI 2) (eh2 (aI .int) (eh1 (gR 13 0) (lR 0)) (lI 1)))
 (sIf (cAnd (eh1 z_ne (kS d_M_isCapital [vI (eh2 (aI .int) (eh1 (gR 13 0) (lR 0)) (eh2 iaddF (lI 1) (lI 2)))])) (cNot (eh1 z_ne (eh2 (aI .boolean) (eh1 (gR 13 23) (lR 0)) (kV 13 d_M_metaOf (lR 0) [vI (eh2 (aI .int) (eh1 (gR 13 0) (lR 0)) (eh2 iaddF (lI 1) (lI 2)))]))))) (rtn (eC (nI 0))) sk)
 (sInc 2 (nI 1))))
 (rtn (eC (nI 1))))
theorem m_M_canRow : MJ 3 [] yX12_canRow (some .boolean) eI (d_M_canRow) := MJ_of (K := K_M_canRow) (ri := .ireturn) (n1 := 0) (n2 := 0) (n3 := 0)
 (SJ_sq (p0 := 0) (p1 := 54) (nN := 0) (nB := 0) (nC := 0) (SJ_sq (p0 := 0) (p1 := 2) (nN := 54) (nB := 0) (nC := 0) (SJ_istore_n (i := 2) (j := 2) (p0 := 0) (p1 := 1) (EJ_iconst (n := 1) (v := (nI 1)) (pc := 0) D_M_canRow_0 (by decide +kernel)) D_M_canRow_1 rfl)
 (SJ_loop (p0 := 2) (pB := 12) (pS := 48) (pE := 54) (CJ_le' (off := 45) (tgt := 54) (p0 := 2) (p1 := 3) (p2 := 9) (EJ_iload_n (j := 2) (i := 2) (pc := 2) D_M_canRow_2 rfl) (EJ_iald (p0 := 3) (p1 := 7) (p2 := 8) (EJ_getR (t := 13) (c := 12) (kf := 0) (r := (RX12, TX12, 52)) (p0 := 3) (p1 := 4) (EJ_aload_n (j := 0) (i := 0) (pc := 3) D_M_canRow_3 rfl) D_M_canRow_4 ⟨rfl, rfl, by decide, q_932⟩ (fun _ _ => rfl)) (EJ_iload_n (j := 1) (i := 1) (pc := 7) D_M_canRow_7 rfl) D_M_canRow_8) D_M_canRow_9 rfl)
 (SJ_if (p0 := 12) (pT := 46) (pF := 48) (nN := 48) (nB := 54) (nC := 48) (CJ_and (p0 := 12) (pM := 26) (pT := 46) (pF := 48) (CZ_ne' (off := 25) (tgt := 48) (p0 := 12) (p1 := 23) (EJ_callS (p0 := 12) (p1 := 20) (AJ_I (p0 := 12) (p1 := 20) (p2 := 20) (EJ_iald (p0 := 12) (p1 := 16) (p2 := 19) (EJ_getR (t := 13) (c := 12) (kf := 0) (r := (RX12, TX12, 52)) (p0 := 12) (p1 := 13) (EJ_aload_n (j := 0) (i := 0) (pc := 12) D_M_canRow_12 rfl) D_M_canRow_13 ⟨rfl, rfl, by decide, q_932⟩ (fun _ _ => rfl)) (EJ_iadd (p0 := 16) (p1 := 17) (p2 := 18) (EJ_iload_n (j := 1) (i := 1) (pc := 16) D_M_canRow_16 rfl) (EJ_iload_n (j := 2) (i := 2) (pc := 17) D_M_canRow_17 rfl) D_M_canRow_18) D_M_canRow_19) AJ_nil) m_M_isCapital E1_I D_M_canRow_20 q_1074 q_1075 q_97 ⟨by decide +kernel, by decide +kernel, by decide +kernel⟩ (by decide) (show 2 + 1 ≤ 3 from by decide) (fun _ h => absurd h List.not_mem_nil)) D_M_canRow_23 rfl) (CJ_not (p0 := 26) (pT := 46) (pF := 48) (CZ_ne (off := 5) (tgt := 48) (p0 := 26) (p1 := 43) (EJ_zald (p0 := 26) (p1 := 30) (p2 := 42) (EJ_getR (t := 13) (c := 12) (kf := 23) (r := (RX12, TX12, 52)) (p0 := 26) (p1 := 27) (EJ_aload_n (j := 0) (i := 0) (pc := 26) D_M_canRow_26 rfl) D_M_canRow_27 ⟨rfl, rfl, by decide, q_955⟩ (fun _ _ => rfl)) (EJ_callV (t := 13) (c := 12) (r := (RX12, TX12, 52)) (p0 := 30) (p1 := 31) (p2 := 39) (EJ_aload_n (j := 0) (i := 0) (pc := 30) D_M_canRow_30 rfl) (AJ_I (p0 := 31) (p1 := 39) (p2 := 39) (EJ_iald (p0 := 31) (p1 := 35) (p2 := 38) (EJ_getR (t := 13) (c := 12) (kf := 0) (r := (RX12, TX12, 52)) (p0 := 31) (p1 := 32) (EJ_aload_n (j := 0) (i := 0) (pc := 31) D_M_canRow_31 rfl) D_M_canRow_32 ⟨rfl, rfl, by decide, q_932⟩ (fun _ _ => rfl)) (EJ_iadd (p0 := 35) (p1 := 36) (p2 := 37) (EJ_iload_n (j := 1) (i := 1) (pc := 35) D_M_canRow_35 rfl) (EJ_iload_n (j := 2) (i := 2) (pc := 36) D_M_canRow_36 rfl) D_M_canRow_37) D_M_canRow_38) AJ_nil) m_M_metaOf E1_I D_M_canRow_39 rfl rfl rfl q_1161 q_1162 q_56 q_97 ⟨by decide +kernel, by decide +kernel, by decide +kernel⟩ (by decide) (show 1 + 1 ≤ 3 from by decide) (fun _ h => absurd h List.not_mem_nil)) D_M_canRow_42) D_M_canRow_43 rfl))) (SJ_ret (p0 := 46) (p1 := 47) (EJ_iconst (n := 0) (v := (nI 0)) (pc := 46) D_M_canRow_46 (by decide +kernel)) D_M_canRow_47) SJ_sk)
 (SJ_post (SJ_iinc (i := 2) (n := 1) (v := (nI 1)) (pc := 48) D_M_canRow_48 (by decide +kernel)) (Lead.goto (K := K_M_canRow) (pc := 51) (tgt := 2) D_M_canRow_51 rfl))))
 (SJ_ret (p0 := 54) (p1 := 55) (EJ_iconst (n := 1) (v := (nI 1)) (pc := 54) D_M_canRow_54 (by decide +kernel)) D_M_canRow_55))
 RTm_bool q_1202 (by decide +kernel) rfl (fun h => by cases h) (show 3 ≤ 40 from by decide) (fun _ => trivial)
theorem D_M_laysOut_0 : decode cX12_laysOut 0 = .ok (.iconst (0), 1) := by decide +kernel
theorem D_M_laysOut_1 : decode cX12_laysOut 1 = .ok (.istore_n 1, 1) := by decide +kernel
theorem D_M_laysOut_2 : decode cX12_laysOut 2 = .ok (.iload_n 1, 1) := by decide +kernel
theorem D_M_laysOut_3 : decode cX12_laysOut 3 = .ok (.bipush (6), 2) := by decide +kernel
theorem D_M_laysOut_5 : decode cX12_laysOut 5 = .ok (.if_icmp .ge (16), 3) := by decide +kernel
theorem D_M_laysOut_8 : decode cX12_laysOut 8 = .ok (.aload_n 0, 1) := by decide +kernel
theorem D_M_laysOut_9 : decode cX12_laysOut 9 = .ok (.getfield 60, 3) := by decide +kernel
theorem D_M_laysOut_12 : decode cX12_laysOut 12 = .ok (.iload_n 1, 1) := by decide +kernel
theorem D_M_laysOut_13 : decode cX12_laysOut 13 = .ok (.iconst (0), 1) := by decide +kernel
theorem D_M_laysOut_14 : decode cX12_laysOut 14 = .ok (.bastore, 1) := by decide +kernel
theorem D_M_laysOut_15 : decode cX12_laysOut 15 = .ok (.iinc 1 (1), 3) := by decide +kernel
theorem D_M_laysOut_18 : decode cX12_laysOut 18 = .ok (.goto (-16), 3) := by decide +kernel
theorem D_M_laysOut_21 : decode cX12_laysOut 21 = .ok (.iconst (0), 1) := by decide +kernel
theorem D_M_laysOut_22 : decode cX12_laysOut 22 = .ok (.istore_n 1, 1) := by decide +kernel
theorem D_M_laysOut_23 : decode cX12_laysOut 23 = .ok (.iload_n 1, 1) := by decide +kernel
theorem D_M_laysOut_24 : decode cX12_laysOut 24 = .ok (.bipush (6), 2) := by decide +kernel
theorem D_M_laysOut_26 : decode cX12_laysOut 26 = .ok (.if_icmp .ge (76), 3) := by decide +kernel
theorem D_M_laysOut_29 : decode cX12_laysOut 29 = .ok (.iconst (0), 1) := by decide +kernel
theorem D_M_laysOut_30 : decode cX12_laysOut 30 = .ok (.istore_n 2, 1) := by decide +kernel
theorem D_M_laysOut_31 : decode cX12_laysOut 31 = .ok (.iload_n 2, 1) := by decide +kernel
theorem D_M_laysOut_32 : decode cX12_laysOut 32 = .ok (.aload_n 0, 1) := by decide +kernel
theorem D_M_laysOut_33 : decode cX12_laysOut 33 = .ok (.getfield 9, 3) := by decide +kernel
theorem D_M_laysOut_36 : decode cX12_laysOut 36 = .ok (.iconst (0), 1) := by decide +kernel
theorem D_M_laysOut_37 : decode cX12_laysOut 37 = .ok (.iaload, 1) := by decide +kernel
theorem D_M_laysOut_38 : decode cX12_laysOut 38 = .ok (.if_icmp .ge (58), 3) := by decide +kernel
theorem D_M_laysOut_41 : decode cX12_laysOut 41 = .ok (.iconst (0), 1) := by decide +kernel
theorem D_M_laysOut_42 : decode cX12_laysOut 42 = .ok (.istore_n 3, 1) := by decide +kernel
theorem D_M_laysOut_43 : decode cX12_laysOut 43 = .ok (.iload_n 3, 1) := by decide +kernel
theorem D_M_laysOut_44 : decode cX12_laysOut 44 = .ok (.aload_n 0, 1) := by decide +kernel
theorem D_M_laysOut_45 : decode cX12_laysOut 45 = .ok (.iload_n 2, 1) := by decide +kernel
theorem D_M_laysOut_46 : decode cX12_laysOut 46 = .ok (.invokevirtual 234, 3) := by decide +kernel
theorem D_M_laysOut_49 : decode cX12_laysOut 49 = .ok (.if_icmp .ge (41), 3) := by decide +kernel
theorem D_M_laysOut_52 : decode cX12_laysOut 52 = .ok (.aload_n 0, 1) := by decide +kernel
theorem D_M_laysOut_53 : decode cX12_laysOut 53 = .ok (.getfield 60, 3) := by decide +kernel
theorem D_M_laysOut_56 : decode cX12_laysOut 56 = .ok (.iload_n 2, 1) := by decide +kernel
theorem D_M_laysOut_57 : decode cX12_laysOut 57 = .ok (.aload_n 0, 1) := by decide +kernel
theorem D_M_laysOut_58 : decode cX12_laysOut 58 = .ok (.getfield 60, 3) := by decide +kernel
theorem D_M_laysOut_61 : decode cX12_laysOut 61 = .ok (.iload_n 2, 1) := by decide +kernel
theorem D_M_laysOut_62 : decode cX12_laysOut 62 = .ok (.baload, 1) := by decide +kernel
theorem D_M_laysOut_63 : decode cX12_laysOut 63 = .ok (.ifCond .ne (15), 3) := by decide +kernel
theorem D_M_laysOut_66 : decode cX12_laysOut 66 = .ok (.aload_n 0, 1) := by decide +kernel
theorem D_M_laysOut_67 : decode cX12_laysOut 67 = .ok (.iload_n 2, 1) := by decide +kernel
theorem D_M_laysOut_68 : decode cX12_laysOut 68 = .ok (.iload_n 3, 1) := by decide +kernel
theorem D_M_laysOut_69 : decode cX12_laysOut 69 = .ok (.invokestatic 237, 3) := by decide +kernel
theorem D_M_laysOut_72 : decode cX12_laysOut 72 = .ok (.invokevirtual 252, 3) := by decide +kernel
theorem D_M_laysOut_75 : decode cX12_laysOut 75 = .ok (.ifCond .eq (7), 3) := by decide +kernel
theorem D_M_laysOut_78 : decode cX12_laysOut 78 = .ok (.iconst (1), 1) := by decide +kernel
theorem D_M_laysOut_79 : decode cX12_laysOut 79 = .ok (.goto (4), 3) := by decide +kernel
theorem D_M_laysOut_82 : decode cX12_laysOut 82 = .ok (.iconst (0), 1) := by decide +kernel
theorem D_M_laysOut_83 : decode cX12_laysOut 83 = .ok (.bastore, 1) := by decide +kernel
theorem D_M_laysOut_84 : decode cX12_laysOut 84 = .ok (.iinc 3 (1), 3) := by decide +kernel
theorem D_M_laysOut_87 : decode cX12_laysOut 87 = .ok (.goto (-44), 3) := by decide +kernel
theorem D_M_laysOut_90 : decode cX12_laysOut 90 = .ok (.iinc 2 (1), 3) := by decide +kernel
theorem D_M_laysOut_93 : decode cX12_laysOut 93 = .ok (.goto (-62), 3) := by decide +kernel
theorem D_M_laysOut_96 : decode cX12_laysOut 96 = .ok (.iinc 1 (1), 3) := by decide +kernel
theorem D_M_laysOut_99 : decode cX12_laysOut 99 = .ok (.goto (-76), 3) := by decide +kernel
theorem D_M_laysOut_102 : decode cX12_laysOut 102 = .ok (.return_, 1) := by decide +kernel
def K_M_laysOut : SC := (cX12_laysOut, "TwoLevelsModel", 4, 4, false, [86], NoQ)
def d_M_laysOut : MD Unit := mth tt 4 (sq (sq (sI1 1 (eC (nI 0)))
 (loop (eh2 c_lt (lI 1) (eC (nI 6)))
 (sh3 (stZ [86]) (eh1 (gR 13 23) (lR 0)) (lI 1) (eC (nI 0)))
 (sInc 1 (nI 1))))
 (sq (sq (sI1 1 (eC (nI 0)))
 (loop (eh2 c_lt (lI 1) (eC (nI 6)))
 (sq (sI1 2 (eC (nI 0)))
 (loop (eh2 c_lt (lI 2) (eh2 (aI .int) (eh1 (gR 13 0) (lR 0)) (eC (nI 0))))
 (sq (sI1 3 (eC (nI 0)))
 (loop (eh2 c_lt (lI 3) (kV 13 d_M_alternatives (lR 0) [vI (lI 2)]))
 (sh3 (stZ [86]) (eh1 (gR 13 23) (lR 0)) (lI 2) (eIf (cOr (eh1 z_ne (eh2 (aI .boolean) (eh1 (gR 13 23) (lR 0)) (lI 2))) (eh1 z_ne (kV 13 d_M_canRow (lR 0) [vI (kS d_M_rowAt [vI (lI 2), vI (lI 3)])]))) (eC (nI 1)) (eC (nI 0))))
 (sInc 3 (nI 1))))
 (sInc 2 (nI 1))))
 (sInc 1 (nI 1))))
 rtnU))
theorem m_M_laysOut : MJ 4 [86] yX12_laysOut none eU (d_M_laysOut) := MJ_of (K := K_M_laysOut) (ri := .return_) (n1 := 0) (n2 := 0) (n3 := 0)
 (SJ_sq (p0 := 0) (p1 := 21) (nN := 0) (nB := 0) (nC := 0) (SJ_sq (p0 := 0) (p1 := 2) (nN := 21) (nB := 0) (nC := 0) (SJ_istore_n (i := 1) (j := 1) (p0 := 0) (p1 := 1) (EJ_iconst (n := 0) (v := (nI 0)) (pc := 0) D_M_laysOut_0 (by decide +kernel)) D_M_laysOut_1 rfl)
 (SJ_loop (p0 := 2) (pB := 8) (pS := 15) (pE := 21) (CJ_lt' (off := 16) (tgt := 21) (p0 := 2) (p1 := 3) (p2 := 5) (EJ_iload_n (j := 1) (i := 1) (pc := 2) D_M_laysOut_2 rfl) (EJ_bipush (n := 6) (v := (nI 6)) (pc := 3) D_M_laysOut_3 (by decide +kernel)) D_M_laysOut_5 rfl)
 (SJ_zast (ws := [86]) (p0 := 8) (p1 := 12) (p2 := 13) (p3 := 14) (EJ_getR (t := 13) (c := 12) (kf := 23) (r := (RX12, TX12, 52)) (p0 := 8) (p1 := 9) (EJ_aload_n (j := 0) (i := 0) (pc := 8) D_M_laysOut_8 rfl) D_M_laysOut_9 ⟨rfl, rfl, by decide, q_955⟩ (fun _ _ => rfl)) (EJ_iload_n (j := 1) (i := 1) (pc := 12) D_M_laysOut_12 rfl) (EJ_iconst (n := 0) (v := (nI 0)) (pc := 13) D_M_laysOut_13 (by decide +kernel)) D_M_laysOut_14 (show ∀ x_ ∈ ([86] : List Nat), x_ ∈ ([86] : List Nat) from by decide))
 (SJ_post (SJ_iinc (i := 1) (n := 1) (v := (nI 1)) (pc := 15) D_M_laysOut_15 (by decide +kernel)) (Lead.goto (K := K_M_laysOut) (pc := 18) (tgt := 2) D_M_laysOut_18 rfl))))
 (SJ_sq (p0 := 21) (p1 := 102) (nN := 0) (nB := 0) (nC := 0) (SJ_sq (p0 := 21) (p1 := 23) (nN := 102) (nB := 0) (nC := 0) (SJ_istore_n (i := 1) (j := 1) (p0 := 21) (p1 := 22) (EJ_iconst (n := 0) (v := (nI 0)) (pc := 21) D_M_laysOut_21 (by decide +kernel)) D_M_laysOut_22 rfl)
 (SJ_loop (p0 := 23) (pB := 29) (pS := 96) (pE := 102) (CJ_lt' (off := 76) (tgt := 102) (p0 := 23) (p1 := 24) (p2 := 26) (EJ_iload_n (j := 1) (i := 1) (pc := 23) D_M_laysOut_23 rfl) (EJ_bipush (n := 6) (v := (nI 6)) (pc := 24) D_M_laysOut_24 (by decide +kernel)) D_M_laysOut_26 rfl)
 (SJ_sq (p0 := 29) (p1 := 31) (nN := 96) (nB := 102) (nC := 96) (SJ_istore_n (i := 2) (j := 2) (p0 := 29) (p1 := 30) (EJ_iconst (n := 0) (v := (nI 0)) (pc := 29) D_M_laysOut_29 (by decide +kernel)) D_M_laysOut_30 rfl)
 (SJ_loop (p0 := 31) (pB := 41) (pS := 90) (pE := 96) (CJ_lt' (off := 58) (tgt := 96) (p0 := 31) (p1 := 32) (p2 := 38) (EJ_iload_n (j := 2) (i := 2) (pc := 31) D_M_laysOut_31 rfl) (EJ_iald (p0 := 32) (p1 := 36) (p2 := 37) (EJ_getR (t := 13) (c := 12) (kf := 0) (r := (RX12, TX12, 52)) (p0 := 32) (p1 := 33) (EJ_aload_n (j := 0) (i := 0) (pc := 32) D_M_laysOut_32 rfl) D_M_laysOut_33 ⟨rfl, rfl, by decide, q_932⟩ (fun _ _ => rfl)) (EJ_iconst (n := 0) (v := (nI 0)) (pc := 36) D_M_laysOut_36 (by decide +kernel)) D_M_laysOut_37) D_M_laysOut_38 rfl)
 (SJ_sq (p0 := 41) (p1 := 43) (nN := 90) (nB := 96) (nC := 90) (SJ_istore_n (i := 3) (j := 3) (p0 := 41) (p1 := 42) (EJ_iconst (n := 0) (v := (nI 0)) (pc := 41) D_M_laysOut_41 (by decide +kernel)) D_M_laysOut_42 rfl)
 (SJ_loop (p0 := 43) (pB := 52) (pS := 84) (pE := 90) (CJ_lt' (off := 41) (tgt := 90) (p0 := 43) (p1 := 44) (p2 := 49) (EJ_iload_n (j := 3) (i := 3) (pc := 43) D_M_laysOut_43 rfl) (EJ_callV (t := 13) (c := 12) (r := (RX12, TX12, 52)) (p0 := 44) (p1 := 45) (p2 := 46) (EJ_aload_n (j := 0) (i := 0) (pc := 44) D_M_laysOut_44 rfl) (AJ_I (p0 := 45) (p1 := 46) (p2 := 46) (EJ_iload_n (j := 2) (i := 2) (pc := 45) D_M_laysOut_45 rfl) AJ_nil) m_M_alternatives E1_I D_M_laysOut_46 rfl rfl rfl q_1164 q_1165 q_57 q_97 ⟨by decide +kernel, by decide +kernel, by decide +kernel⟩ (by decide) (show 1 + 1 ≤ 4 from by decide) (fun _ h => absurd h List.not_mem_nil)) D_M_laysOut_49 rfl)
 (SJ_zast (ws := [86]) (p0 := 52) (p1 := 56) (p2 := 57) (p3 := 83) (EJ_getR (t := 13) (c := 12) (kf := 23) (r := (RX12, TX12, 52)) (p0 := 52) (p1 := 53) (EJ_aload_n (j := 0) (i := 0) (pc := 52) D_M_laysOut_52 rfl) D_M_laysOut_53 ⟨rfl, rfl, by decide, q_955⟩ (fun _ _ => rfl)) (EJ_iload_n (j := 2) (i := 2) (pc := 56) D_M_laysOut_56 rfl) (EJ_if (p0 := 57) (pT := 78) (pF := 82) (pE := 79) (p1 := 83) (CJ_or (p0 := 57) (pM := 66) (pT := 78) (pF := 82) (CZ_ne (off := 15) (tgt := 78) (p0 := 57) (p1 := 63) (EJ_zald (p0 := 57) (p1 := 61) (p2 := 62) (EJ_getR (t := 13) (c := 12) (kf := 23) (r := (RX12, TX12, 52)) (p0 := 57) (p1 := 58) (EJ_aload_n (j := 0) (i := 0) (pc := 57) D_M_laysOut_57 rfl) D_M_laysOut_58 ⟨rfl, rfl, by decide, q_955⟩ (fun _ _ => rfl)) (EJ_iload_n (j := 2) (i := 2) (pc := 61) D_M_laysOut_61 rfl) D_M_laysOut_62) D_M_laysOut_63 rfl) (CZ_ne' (off := 7) (tgt := 82) (p0 := 66) (p1 := 75) (EJ_callV (t := 13) (c := 12) (r := (RX12, TX12, 52)) (p0 := 66) (p1 := 67) (p2 := 72) (EJ_aload_n (j := 0) (i := 0) (pc := 66) D_M_laysOut_66 rfl) (AJ_I (p0 := 67) (p1 := 72) (p2 := 72) (EJ_callS (p0 := 67) (p1 := 69) (AJ_I (p0 := 67) (p1 := 68) (p2 := 69) (EJ_iload_n (j := 2) (i := 2) (pc := 67) D_M_laysOut_67 rfl) (AJ_I (p0 := 68) (p1 := 69) (p2 := 69) (EJ_iload_n (j := 3) (i := 3) (pc := 68) D_M_laysOut_68 rfl) AJ_nil)) m_M_rowAt E1_I D_M_laysOut_69 q_1170 q_1171 q_97 ⟨by decide +kernel, by decide +kernel, by decide +kernel⟩ (by decide) (show 1 + 1 ≤ 4 from by decide) (fun _ h => absurd h List.not_mem_nil)) AJ_nil) m_M_canRow E1_I D_M_laysOut_72 rfl rfl rfl q_1200 q_1201 q_66 q_97 ⟨by decide +kernel, by decide +kernel, by decide +kernel⟩ (by decide) (show 3 + 1 ≤ 4 from by decide) (fun _ h => absurd h List.not_mem_nil)) D_M_laysOut_75 rfl)) (EJ_iconst (n := 1) (v := (nI 1)) (pc := 78) D_M_laysOut_78 (by decide +kernel)) (Lead.goto (K := K_M_laysOut) (pc := 79) (tgt := 83) D_M_laysOut_79 rfl) (EJ_iconst (n := 0) (v := (nI 0)) (pc := 82) D_M_laysOut_82 (by decide +kernel))) D_M_laysOut_83 (show ∀ x_ ∈ ([86] : List Nat), x_ ∈ ([86] : List Nat) from by decide))
 (SJ_post (SJ_iinc (i := 3) (n := 1) (v := (nI 1)) (pc := 84) D_M_laysOut_84 (by decide +kernel)) (Lead.goto (K := K_M_laysOut) (pc := 87) (tgt := 43) D_M_laysOut_87 rfl))))
 (SJ_post (SJ_iinc (i := 2) (n := 1) (v := (nI 1)) (pc := 90) D_M_laysOut_90 (by decide +kernel)) (Lead.goto (K := K_M_laysOut) (pc := 93) (tgt := 31) D_M_laysOut_93 rfl))))
 (SJ_post (SJ_iinc (i := 1) (n := 1) (v := (nI 1)) (pc := 96) D_M_laysOut_96 (by decide +kernel)) (Lead.goto (K := K_M_laysOut) (pc := 99) (tgt := 23) D_M_laysOut_99 rfl))))
 (SJ_retU (pc := 102) D_M_laysOut_102)))
 RTm_void q_1199 (by decide +kernel) rfl (fun h => by cases h) (show 4 ≤ 40 from by decide) (fun _ => trivial)
