/-! the program: part 15 -/
theorem D_M_span_0 : decode cX12_span 0 = .ok (.aload_n 0, 1) := by decide +kernel
theorem D_M_span_1 : decode cX12_span 1 = .ok (.iload_n 1, 1) := by decide +kernel
theorem D_M_span_2 : decode cX12_span 2 = .ok (.invokevirtual 220, 3) := by decide +kernel
theorem D_M_span_5 : decode cX12_span 5 = .ok (.istore 4, 2) := by decide +kernel
theorem D_M_span_7 : decode cX12_span 7 = .ok (.iload 4, 2) := by decide +kernel
theorem D_M_span_9 : decode cX12_span 9 = .ok (.iconst (-1), 1) := by decide +kernel
theorem D_M_span_10 : decode cX12_span 10 = .ok (.if_icmp .eq (37), 3) := by decide +kernel
theorem D_M_span_13 : decode cX12_span 13 = .ok (.iload_n 2, 1) := by decide +kernel
theorem D_M_span_14 : decode cX12_span 14 = .ok (.ifCond .lt (33), 3) := by decide +kernel
theorem D_M_span_17 : decode cX12_span 17 = .ok (.iload_n 3, 1) := by decide +kernel
theorem D_M_span_18 : decode cX12_span 18 = .ok (.ifCond .lt (29), 3) := by decide +kernel
theorem D_M_span_21 : decode cX12_span 21 = .ok (.iload_n 2, 1) := by decide +kernel
theorem D_M_span_22 : decode cX12_span 22 = .ok (.aload_n 0, 1) := by decide +kernel
theorem D_M_span_23 : decode cX12_span 23 = .ok (.getfield 9, 3) := by decide +kernel
theorem D_M_span_26 : decode cX12_span 26 = .ok (.sipush (1584), 3) := by decide +kernel
theorem D_M_span_29 : decode cX12_span 29 = .ok (.iaload, 1) := by decide +kernel
theorem D_M_span_30 : decode cX12_span 30 = .ok (.if_icmp .gt (17), 3) := by decide +kernel
theorem D_M_span_33 : decode cX12_span 33 = .ok (.iload_n 3, 1) := by decide +kernel
theorem D_M_span_34 : decode cX12_span 34 = .ok (.aload_n 0, 1) := by decide +kernel
theorem D_M_span_35 : decode cX12_span 35 = .ok (.getfield 9, 3) := by decide +kernel
theorem D_M_span_38 : decode cX12_span 38 = .ok (.sipush (1584), 3) := by decide +kernel
theorem D_M_span_41 : decode cX12_span 41 = .ok (.iaload, 1) := by decide +kernel
theorem D_M_span_42 : decode cX12_span 42 = .ok (.iload_n 2, 1) := by decide +kernel
theorem D_M_span_43 : decode cX12_span 43 = .ok (.isub, 1) := by decide +kernel
theorem D_M_span_44 : decode cX12_span 44 = .ok (.if_icmp .le (5), 3) := by decide +kernel
theorem D_M_span_47 : decode cX12_span 47 = .ok (.iconst (-1), 1) := by decide +kernel
theorem D_M_span_48 : decode cX12_span 48 = .ok (.ireturn, 1) := by decide +kernel
theorem D_M_span_49 : decode cX12_span 49 = .ok (.aload_n 0, 1) := by decide +kernel
theorem D_M_span_50 : decode cX12_span 50 = .ok (.bipush (13), 2) := by decide +kernel
theorem D_M_span_52 : decode cX12_span 52 = .ok (.invokevirtual 288, 3) := by decide +kernel
theorem D_M_span_55 : decode cX12_span 55 = .ok (.aload_n 0, 1) := by decide +kernel
theorem D_M_span_56 : decode cX12_span 56 = .ok (.getfield 45, 3) := by decide +kernel
theorem D_M_span_59 : decode cX12_span 59 = .ok (.bipush (13), 2) := by decide +kernel
theorem D_M_span_61 : decode cX12_span 61 = .ok (.iload 4, 2) := by decide +kernel
theorem D_M_span_63 : decode cX12_span 63 = .ok (.iload_n 2, 1) := by decide +kernel
theorem D_M_span_64 : decode cX12_span 64 = .ok (.invokestatic 226, 3) := by decide +kernel
theorem D_M_span_67 : decode cX12_span 67 = .ok (.iaload, 1) := by decide +kernel
theorem D_M_span_68 : decode cX12_span 68 = .ok (.iload_n 2, 1) := by decide +kernel
theorem D_M_span_69 : decode cX12_span 69 = .ok (.iload_n 3, 1) := by decide +kernel
theorem D_M_span_70 : decode cX12_span 70 = .ok (.iadd, 1) := by decide +kernel
theorem D_M_span_71 : decode cX12_span 71 = .ok (.invokestatic 223, 3) := by decide +kernel
theorem D_M_span_74 : decode cX12_span 74 = .ok (.invokestatic 172, 3) := by decide +kernel
theorem D_M_span_77 : decode cX12_span 77 = .ok (.ireturn, 1) := by decide +kernel
def K_M_span : SC := (cX12_span, "TwoLevelsModel", 5, 6, false, [79, 80, 81], NoQ)
def d_M_span : MD Int32 := mth tt 5 (sq (sI1 4 (kV 13 d_M_metaOf (lR 0) [vI (lI 1)]))
 (sq (sIf (cOr (cOr (cOr (cOr (eh2 c_eq (lI 4) (eC (-1))) (eh1 z_lt (lI 2))) (eh1 z_lt (lI 3))) (eh2 c_gt (lI 2) (eh2 (aI .int) (eh1 (gR 13 0) (lR 0)) (eC (nI 1584))))) (eh2 c_gt (lI 3) (eh2 isubF (eh2 (aI .int) (eh1 (gR 13 0) (lR 0)) (eC (nI 1584))) (lI 2)))) (rtn (eC (-1))) sk)
 (sq (sE (kV 13 d_M_laysNotion (lR 0) [vI (eC (nI 13))]))
 (rtn (kS d_M_truth [vI (kS d_M_has [vI (eh2 (aI .int) (eh1 (gR 13 17) (lR 0)) (kS d_M_spanAt [vI (eC (nI 13)), vI (lI 4), vI (lI 2)])), vI (eh2 iaddF (lI 2) (lI 3))])])))))
theorem m_M_span : MJ 6 [79, 80, 81] yX12_span (some .int) eI (d_M_span) := MJ_of (K := K_M_span) (ri := .ireturn) (n1 := 0) (n2 := 0) (n3 := 0)
 (SJ_sq (p0 := 0) (p1 := 7) (nN := 0) (nB := 0) (nC := 0) (SJ_istore (i := 4) (p0 := 0) (p1 := 5) (EJ_callV (t := 13) (c := 12) (r := (RX12, TX12, 52)) (p0 := 0) (p1 := 1) (p2 := 2) (EJ_aload_n (j := 0) (i := 0) (pc := 0) D_M_span_0 rfl) (AJ_I (p0 := 1) (p1 := 2) (p2 := 2) (EJ_iload_n (j := 1) (i := 1) (pc := 1) D_M_span_1 rfl) AJ_nil) m_M_metaOf E1_I D_M_span_2 rfl rfl rfl q_1161 q_1162 q_56 q_97 ⟨by decide +kernel, by decide +kernel, by decide +kernel⟩ (by decide) (show 1 + 1 ≤ 6 from by decide) (fun _ h => absurd h List.not_mem_nil)) D_M_span_5)
 (SJ_sq (p0 := 7) (p1 := 49) (nN := 0) (nB := 0) (nC := 0) (SJ_if (p0 := 7) (pT := 47) (pF := 49) (nN := 49) (nB := 0) (nC := 0) (CJ_or (p0 := 7) (pM := 33) (pT := 47) (pF := 49) (CJ_or (p0 := 7) (pM := 21) (pT := 47) (pF := 33) (CJ_or (p0 := 7) (pM := 17) (pT := 47) (pF := 21) (CJ_or (p0 := 7) (pM := 13) (pT := 47) (pF := 17) (CJ_eq (off := 37) (tgt := 47) (p0 := 7) (p1 := 9) (p2 := 10) (EJ_iload (i := 4) (pc := 7) D_M_span_7) (EJ_iconst (n := -1) (v := (-1)) (pc := 9) D_M_span_9 (by decide +kernel)) D_M_span_10 rfl) (CZ_lt (off := 33) (tgt := 47) (p0 := 13) (p1 := 14) (EJ_iload_n (j := 2) (i := 2) (pc := 13) D_M_span_13 rfl) D_M_span_14 rfl)) (CZ_lt (off := 29) (tgt := 47) (p0 := 17) (p1 := 18) (EJ_iload_n (j := 3) (i := 3) (pc := 17) D_M_span_17 rfl) D_M_span_18 rfl)) (CJ_gt (off := 17) (tgt := 47) (p0 := 21) (p1 := 22) (p2 := 30) (EJ_iload_n (j := 2) (i := 2) (pc := 21) D_M_span_21 rfl) (EJ_iald (p0 := 22) (p1 := 26) (p2 := 29) (EJ_getR (t := 13) (c := 12) (kf := 0) (r := (RX12, TX12, 52)) (p0 := 22) (p1 := 23) (EJ_aload_n (j := 0) (i := 0) (pc := 22) D_M_span_22 rfl) D_M_span_23 ⟨rfl, rfl, by decide, q_932⟩ (fun _ _ => rfl)) (EJ_sipush (n := 1584) (v := (nI 1584)) (pc := 26) D_M_span_26 (by decide +kernel)) D_M_span_29) D_M_span_30 rfl)) (CJ_gt' (off := 5) (tgt := 49) (p0 := 33) (p1 := 34) (p2 := 44) (EJ_iload_n (j := 3) (i := 3) (pc := 33) D_M_span_33 rfl) (EJ_isub (p0 := 34) (p1 := 42) (p2 := 43) (EJ_iald (p0 := 34) (p1 := 38) (p2 := 41) (EJ_getR (t := 13) (c := 12) (kf := 0) (r := (RX12, TX12, 52)) (p0 := 34) (p1 := 35) (EJ_aload_n (j := 0) (i := 0) (pc := 34) D_M_span_34 rfl) D_M_span_35 ⟨rfl, rfl, by decide, q_932⟩ (fun _ _ => rfl)) (EJ_sipush (n := 1584) (v := (nI 1584)) (pc := 38) D_M_span_38 (by decide +kernel)) D_M_span_41) (EJ_iload_n (j := 2) (i := 2) (pc := 42) D_M_span_42 rfl) D_M_span_43) D_M_span_44 rfl)) (SJ_ret (p0 := 47) (p1 := 48) (EJ_iconst (n := -1) (v := (-1)) (pc := 47) D_M_span_47 (by decide +kernel)) D_M_span_48) SJ_sk)
 (SJ_sq (p0 := 49) (p1 := 55) (nN := 0) (nB := 0) (nC := 0) (SJ_void (p0 := 49) (p1 := 55) (EJ_callV (t := 13) (c := 12) (r := (RX12, TX12, 52)) (p0 := 49) (p1 := 50) (p2 := 52) (EJ_aload_n (j := 0) (i := 0) (pc := 49) D_M_span_49 rfl) (AJ_I (p0 := 50) (p1 := 52) (p2 := 52) (EJ_bipush (n := 13) (v := (nI 13)) (pc := 50) D_M_span_50 (by decide +kernel)) AJ_nil) m_M_laysNotion E1_U D_M_span_52 rfl rfl rfl q_1236 q_1237 q_71 q_97 ⟨by decide +kernel, by decide +kernel, by decide +kernel⟩ (by decide) (show 5 + 1 ≤ 6 from by decide) (show ∀ x_ ∈ ([79, 80, 81] : List Nat), x_ ∈ ([79, 80, 81] : List Nat) from by decide)))
 (SJ_ret (p0 := 55) (p1 := 77) (EJ_callS (p0 := 55) (p1 := 74) (AJ_I (p0 := 55) (p1 := 74) (p2 := 74) (EJ_callS (p0 := 55) (p1 := 71) (AJ_I (p0 := 55) (p1 := 68) (p2 := 71) (EJ_iald (p0 := 55) (p1 := 59) (p2 := 67) (EJ_getR (t := 13) (c := 12) (kf := 17) (r := (RX12, TX12, 52)) (p0 := 55) (p1 := 56) (EJ_aload_n (j := 0) (i := 0) (pc := 55) D_M_span_55 rfl) D_M_span_56 ⟨rfl, rfl, by decide, q_949⟩ (fun _ _ => rfl)) (EJ_callS (p0 := 59) (p1 := 64) (AJ_I (p0 := 59) (p1 := 61) (p2 := 64) (EJ_bipush (n := 13) (v := (nI 13)) (pc := 59) D_M_span_59 (by decide +kernel)) (AJ_I (p0 := 61) (p1 := 63) (p2 := 64) (EJ_iload (i := 4) (pc := 61) D_M_span_61) (AJ_I (p0 := 63) (p1 := 64) (p2 := 64) (EJ_iload_n (j := 2) (i := 2) (pc := 63) D_M_span_63 rfl) AJ_nil))) m_M_spanAt E1_I D_M_span_64 q_1182 q_1183 q_97 ⟨by decide +kernel, by decide +kernel, by decide +kernel⟩ (by decide) (show 1 + 1 ≤ 6 from by decide) (fun _ h => absurd h List.not_mem_nil)) D_M_span_67) (AJ_I (p0 := 68) (p1 := 71) (p2 := 71) (EJ_iadd (p0 := 68) (p1 := 69) (p2 := 70) (EJ_iload_n (j := 2) (i := 2) (pc := 68) D_M_span_68 rfl) (EJ_iload_n (j := 3) (i := 3) (pc := 69) D_M_span_69 rfl) D_M_span_70) AJ_nil)) m_M_has E1_I D_M_span_71 q_1188 q_1189 q_97 ⟨by decide +kernel, by decide +kernel, by decide +kernel⟩ (by decide) (show 1 + 1 ≤ 6 from by decide) (fun _ h => absurd h List.not_mem_nil)) AJ_nil) m_M_truth E1_I D_M_span_74 q_1107 q_1108 q_97 ⟨by decide +kernel, by decide +kernel, by decide +kernel⟩ (by decide) (show 1 + 1 ≤ 6 from by decide) (fun _ h => absurd h List.not_mem_nil)) D_M_span_77))))
 RTm_int q_1235 (by decide +kernel) rfl (fun h => by cases h) (show 5 ≤ 40 from by decide) (fun _ => trivial)
theorem D_M_is_0 : decode cX12_is 0 = .ok (.aload_n 0, 1) := by decide +kernel
theorem D_M_is_1 : decode cX12_is 1 = .ok (.iload_n 1, 1) := by decide +kernel
theorem D_M_is_2 : decode cX12_is 2 = .ok (.iconst (0), 1) := by decide +kernel
theorem D_M_is_3 : decode cX12_is 3 = .ok (.aload_n 0, 1) := by decide +kernel
theorem D_M_is_4 : decode cX12_is 4 = .ok (.getfield 9, 3) := by decide +kernel
theorem D_M_is_7 : decode cX12_is 7 = .ok (.sipush (1584), 3) := by decide +kernel
theorem D_M_is_10 : decode cX12_is 10 = .ok (.iaload, 1) := by decide +kernel
theorem D_M_is_11 : decode cX12_is 11 = .ok (.invokevirtual 285, 3) := by decide +kernel
theorem D_M_is_14 : decode cX12_is 14 = .ok (.ireturn, 1) := by decide +kernel
def K_M_is : SC := (cX12_is, "TwoLevelsModel", 2, 7, false, [79, 80, 81], NoQ)
def d_M_is : MD Int32 := mth tt 2 (rtn (kV 13 d_M_span (lR 0) [vI (lI 1), vI (eC (nI 0)), vI (eh2 (aI .int) (eh1 (gR 13 0) (lR 0)) (eC (nI 1584)))]))
theorem m_M_is : MJ 7 [79, 80, 81] yX12_is (some .int) eI (d_M_is) := MJ_of (K := K_M_is) (ri := .ireturn) (n1 := 0) (n2 := 0) (n3 := 0)
 (SJ_ret (p0 := 0) (p1 := 14) (EJ_callV (t := 13) (c := 12) (r := (RX12, TX12, 52)) (p0 := 0) (p1 := 1) (p2 := 11) (EJ_aload_n (j := 0) (i := 0) (pc := 0) D_M_is_0 rfl) (AJ_I (p0 := 1) (p1 := 2) (p2 := 11) (EJ_iload_n (j := 1) (i := 1) (pc := 1) D_M_is_1 rfl) (AJ_I (p0 := 2) (p1 := 3) (p2 := 11) (EJ_iconst (n := 0) (v := (nI 0)) (pc := 2) D_M_is_2 (by decide +kernel)) (AJ_I (p0 := 3) (p1 := 11) (p2 := 11) (EJ_iald (p0 := 3) (p1 := 7) (p2 := 10) (EJ_getR (t := 13) (c := 12) (kf := 0) (r := (RX12, TX12, 52)) (p0 := 3) (p1 := 4) (EJ_aload_n (j := 0) (i := 0) (pc := 3) D_M_is_3 rfl) D_M_is_4 ⟨rfl, rfl, by decide, q_932⟩ (fun _ _ => rfl)) (EJ_sipush (n := 1584) (v := (nI 1584)) (pc := 7) D_M_is_7 (by decide +kernel)) D_M_is_10) AJ_nil))) m_M_span E1_I D_M_is_11 rfl rfl rfl q_1232 q_1233 q_1234 q_97 ⟨by decide +kernel, by decide +kernel, by decide +kernel⟩ (by decide) (show 6 + 1 ≤ 7 from by decide) (show ∀ x_ ∈ ([79, 80, 81] : List Nat), x_ ∈ ([79, 80, 81] : List Nat) from by decide)) D_M_is_14)
 RTm_int q_1231 (by decide +kernel) rfl (fun h => by cases h) (show 2 ≤ 40 from by decide) (fun _ => trivial)
theorem D_M_keep_0 : decode cX12_keep 0 = .ok (.iload_n 1, 1) := by decide +kernel
theorem D_M_keep_1 : decode cX12_keep 1 = .ok (.iconst (0), 1) := by decide +kernel
theorem D_M_keep_2 : decode cX12_keep 2 = .ok (.iconst (1), 1) := by decide +kernel
theorem D_M_keep_3 : decode cX12_keep 3 = .ok (.invokestatic 108, 3) := by decide +kernel
theorem D_M_keep_6 : decode cX12_keep 6 = .ok (.ifCond .ne (5), 3) := by decide +kernel
theorem D_M_keep_9 : decode cX12_keep 9 = .ok (.iconst (-1), 1) := by decide +kernel
theorem D_M_keep_10 : decode cX12_keep 10 = .ok (.ireturn, 1) := by decide +kernel
theorem D_M_keep_11 : decode cX12_keep 11 = .ok (.aload_n 0, 1) := by decide +kernel
theorem D_M_keep_12 : decode cX12_keep 12 = .ok (.getfield 9, 3) := by decide +kernel
theorem D_M_keep_15 : decode cX12_keep 15 = .ok (.iconst (0), 1) := by decide +kernel
theorem D_M_keep_16 : decode cX12_keep 16 = .ok (.aload_n 0, 1) := by decide +kernel
theorem D_M_keep_17 : decode cX12_keep 17 = .ok (.getfield 19, 3) := by decide +kernel
theorem D_M_keep_20 : decode cX12_keep 20 = .ok (.sipush (1684), 3) := by decide +kernel
theorem D_M_keep_23 : decode cX12_keep 23 = .ok (.iload_n 1, 1) := by decide +kernel
theorem D_M_keep_24 : decode cX12_keep 24 = .ok (.imul, 1) := by decide +kernel
theorem D_M_keep_25 : decode cX12_keep 25 = .ok (.sipush (1684), 3) := by decide +kernel
theorem D_M_keep_28 : decode cX12_keep 28 = .ok (.invokestatic 179, 3) := by decide +kernel
theorem D_M_keep_31 : decode cX12_keep 31 = .ok (.aload_n 0, 1) := by decide +kernel
theorem D_M_keep_32 : decode cX12_keep 32 = .ok (.getfield 22, 3) := by decide +kernel
theorem D_M_keep_35 : decode cX12_keep 35 = .ok (.iload_n 1, 1) := by decide +kernel
theorem D_M_keep_36 : decode cX12_keep 36 = .ok (.iconst (1), 1) := by decide +kernel
theorem D_M_keep_37 : decode cX12_keep 37 = .ok (.bastore, 1) := by decide +kernel
theorem D_M_keep_38 : decode cX12_keep 38 = .ok (.aload_n 0, 1) := by decide +kernel
theorem D_M_keep_39 : decode cX12_keep 39 = .ok (.getfield 9, 3) := by decide +kernel
theorem D_M_keep_42 : decode cX12_keep 42 = .ok (.iconst (1), 1) := by decide +kernel
theorem D_M_keep_43 : decode cX12_keep 43 = .ok (.iaload, 1) := by decide +kernel
theorem D_M_keep_44 : decode cX12_keep 44 = .ok (.ireturn, 1) := by decide +kernel
def K_M_keep : SC := (cX12_keep, "TwoLevelsModel", 2, 2, false, [70, 71, 72, 73, 74], NoQ)
def d_M_keep : MD Int32 := mth tt 2 (sq (sIf (cNot (eh1 z_ne (kS d_M_in [vI (lI 1), vI (eC (nI 0)), vI (eC (nI 1))]))) (rtn (eC (-1))) sk)
 (sq (sE (kS d_M_moves [vR (eh1 (gR 13 0) (lR 0)), vI (eC (nI 0)), vR (eh1 (gR 13 3) (lR 0)), vI (eh2 imulF (eC (nI 1684)) (lI 1)), vI (eC (nI 1684))]))
 (sq (sh3 (stZ [74]) (eh1 (gR 13 4) (lR 0)) (lI 1) (eC (nI 1)))
 (rtn (eh2 (aI .int) (eh1 (gR 13 0) (lR 0)) (eC (nI 1)))))))
theorem m_M_keep : MJ 2 [70, 71, 72, 73, 74] yX12_keep (some .int) eI (d_M_keep) := MJ_of (K := K_M_keep) (ri := .ireturn) (n1 := 0) (n2 := 0) (n3 := 0)
 (SJ_sq (p0 := 0) (p1 := 11) (nN := 0) (nB := 0) (nC := 0) (SJ_if (p0 := 0) (pT := 9) (pF := 11) (nN := 11) (nB := 0) (nC := 0) (CJ_not (p0 := 0) (pT := 9) (pF := 11) (CZ_ne (off := 5) (tgt := 11) (p0 := 0) (p1 := 6) (EJ_callS (p0 := 0) (p1 := 3) (AJ_I (p0 := 0) (p1 := 1) (p2 := 3) (EJ_iload_n (j := 1) (i := 1) (pc := 0) D_M_keep_0 rfl) (AJ_I (p0 := 1) (p1 := 2) (p2 := 3) (EJ_iconst (n := 0) (v := (nI 0)) (pc := 1) D_M_keep_1 (by decide +kernel)) (AJ_I (p0 := 2) (p1 := 3) (p2 := 3) (EJ_iconst (n := 1) (v := (nI 1)) (pc := 2) D_M_keep_2 (by decide +kernel)) AJ_nil))) m_M_in E1_I D_M_keep_3 q_1071 q_1072 q_97 ⟨by decide +kernel, by decide +kernel, by decide +kernel⟩ (by decide) (show 1 + 1 ≤ 2 from by decide) (fun _ h => absurd h List.not_mem_nil)) D_M_keep_6 rfl)) (SJ_ret (p0 := 9) (p1 := 10) (EJ_iconst (n := -1) (v := (-1)) (pc := 9) D_M_keep_9 (by decide +kernel)) D_M_keep_10) SJ_sk)
 (SJ_sq (p0 := 11) (p1 := 31) (nN := 0) (nB := 0) (nC := 0) (SJ_void (p0 := 11) (p1 := 31) (EJ_callS (p0 := 11) (p1 := 28) (AJ_R (p0 := 11) (p1 := 15) (p2 := 28) (EJ_getR (t := 13) (c := 12) (kf := 0) (r := (RX12, TX12, 52)) (p0 := 11) (p1 := 12) (EJ_aload_n (j := 0) (i := 0) (pc := 11) D_M_keep_11 rfl) D_M_keep_12 ⟨rfl, rfl, by decide, q_932⟩ (fun _ _ => rfl)) (AJ_I (p0 := 15) (p1 := 16) (p2 := 28) (EJ_iconst (n := 0) (v := (nI 0)) (pc := 15) D_M_keep_15 (by decide +kernel)) (AJ_R (p0 := 16) (p1 := 20) (p2 := 28) (EJ_getR (t := 13) (c := 12) (kf := 3) (r := (RX12, TX12, 52)) (p0 := 16) (p1 := 17) (EJ_aload_n (j := 0) (i := 0) (pc := 16) D_M_keep_16 rfl) D_M_keep_17 ⟨rfl, rfl, by decide, q_935⟩ (fun _ _ => rfl)) (AJ_I (p0 := 20) (p1 := 25) (p2 := 28) (EJ_imul (p0 := 20) (p1 := 23) (p2 := 24) (EJ_sipush (n := 1684) (v := (nI 1684)) (pc := 20) D_M_keep_20 (by decide +kernel)) (EJ_iload_n (j := 1) (i := 1) (pc := 23) D_M_keep_23 rfl) D_M_keep_24) (AJ_I (p0 := 25) (p1 := 28) (p2 := 28) (EJ_sipush (n := 1684) (v := (nI 1684)) (pc := 25) D_M_keep_25 (by decide +kernel)) AJ_nil))))) m_M_moves E1_U D_M_keep_28 q_1098 q_1099 q_97 ⟨by decide +kernel, by decide +kernel, by decide +kernel⟩ (by decide) (show 1 + 1 ≤ 2 from by decide) (show ∀ x_ ∈ ([70, 71, 72, 73] : List Nat), x_ ∈ ([70, 71, 72, 73, 74] : List Nat) from by decide)))
 (SJ_sq (p0 := 31) (p1 := 38) (nN := 0) (nB := 0) (nC := 0) (SJ_zast (ws := [74]) (p0 := 31) (p1 := 35) (p2 := 36) (p3 := 37) (EJ_getR (t := 13) (c := 12) (kf := 4) (r := (RX12, TX12, 52)) (p0 := 31) (p1 := 32) (EJ_aload_n (j := 0) (i := 0) (pc := 31) D_M_keep_31 rfl) D_M_keep_32 ⟨rfl, rfl, by decide, q_936⟩ (fun _ _ => rfl)) (EJ_iload_n (j := 1) (i := 1) (pc := 35) D_M_keep_35 rfl) (EJ_iconst (n := 1) (v := (nI 1)) (pc := 36) D_M_keep_36 (by decide +kernel)) D_M_keep_37 (show ∀ x_ ∈ ([74] : List Nat), x_ ∈ ([70, 71, 72, 73, 74] : List Nat) from by decide))
 (SJ_ret (p0 := 38) (p1 := 44) (EJ_iald (p0 := 38) (p1 := 42) (p2 := 43) (EJ_getR (t := 13) (c := 12) (kf := 0) (r := (RX12, TX12, 52)) (p0 := 38) (p1 := 39) (EJ_aload_n (j := 0) (i := 0) (pc := 38) D_M_keep_38 rfl) D_M_keep_39 ⟨rfl, rfl, by decide, q_932⟩ (fun _ _ => rfl)) (EJ_iconst (n := 1) (v := (nI 1)) (pc := 42) D_M_keep_42 (by decide +kernel)) D_M_keep_43) D_M_keep_44))))
 RTm_int q_1134 (by decide +kernel) rfl (fun h => by cases h) (show 2 ≤ 40 from by decide) (fun _ => trivial)
theorem D_M_least_0 : decode cX12_least 0 = .ok (.iconst (1), 1) := by decide +kernel
theorem D_M_least_1 : decode cX12_least 1 = .ok (.istore_n 1, 1) := by decide +kernel
theorem D_M_least_2 : decode cX12_least 2 = .ok (.iload_n 1, 1) := by decide +kernel
theorem D_M_least_3 : decode cX12_least 3 = .ok (.bipush (12), 2) := by decide +kernel
theorem D_M_least_5 : decode cX12_least 5 = .ok (.if_icmp .gt (38), 3) := by decide +kernel
theorem D_M_least_8 : decode cX12_least 8 = .ok (.aload_n 0, 1) := by decide +kernel
theorem D_M_least_9 : decode cX12_least 9 = .ok (.aload_n 0, 1) := by decide +kernel
theorem D_M_least_10 : decode cX12_least 10 = .ok (.getfield 9, 3) := by decide +kernel
theorem D_M_least_13 : decode cX12_least 13 = .ok (.sipush (1595), 3) := by decide +kernel
theorem D_M_least_16 : decode cX12_least 16 = .ok (.iaload, 1) := by decide +kernel
theorem D_M_least_17 : decode cX12_least 17 = .ok (.iload_n 1, 1) := by decide +kernel
theorem D_M_least_18 : decode cX12_least 18 = .ok (.invokevirtual 369, 3) := by decide +kernel
theorem D_M_least_21 : decode cX12_least 21 = .ok (.istore_n 2, 1) := by decide +kernel
theorem D_M_least_22 : decode cX12_least 22 = .ok (.iload_n 2, 1) := by decide +kernel
theorem D_M_least_23 : decode cX12_least 23 = .ok (.ifCond .eq (14), 3) := by decide +kernel
theorem D_M_least_26 : decode cX12_least 26 = .ok (.iload_n 2, 1) := by decide +kernel
theorem D_M_least_27 : decode cX12_least 27 = .ok (.iconst (1), 1) := by decide +kernel
theorem D_M_least_28 : decode cX12_least 28 = .ok (.if_icmp .ne (7), 3) := by decide +kernel
theorem D_M_least_31 : decode cX12_least 31 = .ok (.iload_n 1, 1) := by decide +kernel
theorem D_M_least_32 : decode cX12_least 32 = .ok (.goto (4), 3) := by decide +kernel
theorem D_M_least_35 : decode cX12_least 35 = .ok (.iload_n 2, 1) := by decide +kernel
theorem D_M_least_36 : decode cX12_least 36 = .ok (.ireturn, 1) := by decide +kernel
theorem D_M_least_37 : decode cX12_least 37 = .ok (.iinc 1 (1), 3) := by decide +kernel
theorem D_M_least_40 : decode cX12_least 40 = .ok (.goto (-38), 3) := by decide +kernel
theorem D_M_least_43 : decode cX12_least 43 = .ok (.bipush (-2), 2) := by decide +kernel
theorem D_M_least_45 : decode cX12_least 45 = .ok (.ireturn, 1) := by decide +kernel
def K_M_least : SC := (cX12_least, "TwoLevelsModel", 3, 208, false, [13, 79, 80, 81, 82, 83, 84, 85, 87, 88, 89, 92, 93, 94, 95, 96, 97, 98, 99, 100, 101], NoQ)
def d_M_least : MD Int32 := mth tt 3 (sq (sq (sI1 1 (eC (nI 1)))
 (loop (eh2 c_le (lI 1) (eC (nI 12)))
 (sq (sI1 2 (kV 13 d_M_searches (lR 0) [vI (eh2 (aI .int) (eh1 (gR 13 0) (lR 0)) (eC (nI 1595))), vI (lI 1)]))
 (sIf (eh1 z_ne (lI 2)) (rtn (eIf (eh2 c_eq (lI 2) (eC (nI 1))) (lI 1) (lI 2))) sk))
 (sInc 1 (nI 1))))
 (rtn (eC (-2))))
theorem m_M_least : MJ 208 [13, 79, 80, 81, 82, 83, 84, 85, 87, 88, 89, 92, 93, 94, 95, 96, 97, 98, 99, 100, 101] yX12_least (some .int) eI (d_M_least) := MJ_of (K := K_M_least) (ri := .ireturn) (n1 := 0) (n2 := 0) (n3 := 0)
 (SJ_sq (p0 := 0) (p1 := 43) (nN := 0) (nB := 0) (nC := 0) (SJ_sq (p0 := 0) (p1 := 2) (nN := 43) (nB := 0) (nC := 0) (SJ_istore_n (i := 1) (j := 1) (p0 := 0) (p1 := 1) (EJ_iconst (n := 1) (v := (nI 1)) (pc := 0) D_M_least_0 (by decide +kernel)) D_M_least_1 rfl)
 (SJ_loop (p0 := 2) (pB := 8) (pS := 37) (pE := 43) (CJ_le' (off := 38) (tgt := 43) (p0 := 2) (p1 := 3) (p2 := 5) (EJ_iload_n (j := 1) (i := 1) (pc := 2) D_M_least_2 rfl) (EJ_bipush (n := 12) (v := (nI 12)) (pc := 3) D_M_least_3 (by decide +kernel)) D_M_least_5 rfl)
 (SJ_sq (p0 := 8) (p1 := 22) (nN := 37) (nB := 43) (nC := 37) (SJ_istore_n (i := 2) (j := 2) (p0 := 8) (p1 := 21) (EJ_callV (t := 13) (c := 12) (r := (RX12, TX12, 52)) (p0 := 8) (p1 := 9) (p2 := 18) (EJ_aload_n (j := 0) (i := 0) (pc := 8) D_M_least_8 rfl) (AJ_I (p0 := 9) (p1 := 17) (p2 := 18) (EJ_iald (p0 := 9) (p1 := 13) (p2 := 16) (EJ_getR (t := 13) (c := 12) (kf := 0) (r := (RX12, TX12, 52)) (p0 := 9) (p1 := 10) (EJ_aload_n (j := 0) (i := 0) (pc := 9) D_M_least_9 rfl) D_M_least_10 ⟨rfl, rfl, by decide, q_932⟩ (fun _ _ => rfl)) (EJ_sipush (n := 1595) (v := (nI 1595)) (pc := 13) D_M_least_13 (by decide +kernel)) D_M_least_16) (AJ_I (p0 := 17) (p1 := 18) (p2 := 18) (EJ_iload_n (j := 1) (i := 1) (pc := 17) D_M_least_17 rfl) AJ_nil)) m_M_searches E1_I D_M_least_18 rfl rfl rfl q_1290 q_1291 q_78 q_97 ⟨by decide +kernel, by decide +kernel, by decide +kernel⟩ (by decide) (show 207 + 1 ≤ 208 from by decide) (show ∀ x_ ∈ ([13, 79, 80, 81, 82, 83, 84, 85, 87, 88, 89, 92, 93, 94, 95, 96, 97, 98, 99, 100, 101] : List Nat), x_ ∈ ([13, 79, 80, 81, 82, 83, 84, 85, 87, 88, 89, 92, 93, 94, 95, 96, 97, 98, 99, 100, 101] : List Nat) from by decide)) D_M_least_21 rfl)
 (SJ_if (p0 := 22) (pT := 26) (pF := 37) (nN := 37) (nB := 43) (nC := 37) (CZ_ne' (off := 14) (tgt := 37) (p0 := 22) (p1 := 23) (EJ_iload_n (j := 2) (i := 2) (pc := 22) D_M_least_22 rfl) D_M_least_23 rfl) (SJ_ret (p0 := 26) (p1 := 36) (EJ_if (p0 := 26) (pT := 31) (pF := 35) (pE := 32) (p1 := 36) (CJ_eq' (off := 7) (tgt := 35) (p0 := 26) (p1 := 27) (p2 := 28) (EJ_iload_n (j := 2) (i := 2) (pc := 26) D_M_least_26 rfl) (EJ_iconst (n := 1) (v := (nI 1)) (pc := 27) D_M_least_27 (by decide +kernel)) D_M_least_28 rfl) (EJ_iload_n (j := 1) (i := 1) (pc := 31) D_M_least_31 rfl) (Lead.goto (K := K_M_least) (pc := 32) (tgt := 36) D_M_least_32 rfl) (EJ_iload_n (j := 2) (i := 2) (pc := 35) D_M_least_35 rfl)) D_M_least_36) SJ_sk))
 (SJ_post (SJ_iinc (i := 1) (n := 1) (v := (nI 1)) (pc := 37) D_M_least_37 (by decide +kernel)) (Lead.goto (K := K_M_least) (pc := 40) (tgt := 2) D_M_least_40 rfl))))
 (SJ_ret (p0 := 43) (p1 := 45) (EJ_bipush (n := -2) (v := (-2)) (pc := 43) D_M_least_43 (by decide +kernel)) D_M_least_45))
 RTm_int q_1329 (by decide +kernel) rfl (fun h => by cases h) (show 3 ≤ 40 from by decide) (fun _ => trivial)
theorem D_M_letter_0 : decode cX12_letter 0 = .ok (.iload_n 1, 1) := by decide +kernel
theorem D_M_letter_1 : decode cX12_letter 1 = .ok (.iconst (-1), 1) := by decide +kernel
theorem D_M_letter_2 : decode cX12_letter 2 = .ok (.if_icmp .lt (19), 3) := by decide +kernel
theorem D_M_letter_5 : decode cX12_letter 5 = .ok (.iload_n 1, 1) := by decide +kernel
theorem D_M_letter_6 : decode cX12_letter 6 = .ok (.aload_n 0, 1) := by decide +kernel
theorem D_M_letter_7 : decode cX12_letter 7 = .ok (.getfield 9, 3) := by decide +kernel
theorem D_M_letter_10 : decode cX12_letter 10 = .ok (.sipush (1595), 3) := by decide +kernel
theorem D_M_letter_13 : decode cX12_letter 13 = .ok (.iaload, 1) := by decide +kernel
theorem D_M_letter_14 : decode cX12_letter 14 = .ok (.if_icmp .ge (7), 3) := by decide +kernel
theorem D_M_letter_17 : decode cX12_letter 17 = .ok (.iload_n 2, 1) := by decide +kernel
theorem D_M_letter_18 : decode cX12_letter 18 = .ok (.ifCond .ge (5), 3) := by decide +kernel
theorem D_M_letter_21 : decode cX12_letter 21 = .ok (.iconst (-1), 1) := by decide +kernel
theorem D_M_letter_22 : decode cX12_letter 22 = .ok (.ireturn, 1) := by decide +kernel
theorem D_M_letter_23 : decode cX12_letter 23 = .ok (.iload_n 1, 1) := by decide +kernel
theorem D_M_letter_24 : decode cX12_letter 24 = .ok (.iconst (-1), 1) := by decide +kernel
theorem D_M_letter_25 : decode cX12_letter 25 = .ok (.if_icmp .ne (9), 3) := by decide +kernel
theorem D_M_letter_28 : decode cX12_letter 28 = .ok (.sipush (1584), 3) := by decide +kernel
theorem D_M_letter_31 : decode cX12_letter 31 = .ok (.goto (11), 3) := by decide +kernel
theorem D_M_letter_34 : decode cX12_letter 34 = .ok (.sipush (1596), 3) := by decide +kernel
theorem D_M_letter_37 : decode cX12_letter 37 = .ok (.bipush (11), 2) := by decide +kernel
theorem D_M_letter_39 : decode cX12_letter 39 = .ok (.iload_n 1, 1) := by decide +kernel
theorem D_M_letter_40 : decode cX12_letter 40 = .ok (.imul, 1) := by decide +kernel
theorem D_M_letter_41 : decode cX12_letter 41 = .ok (.iadd, 1) := by decide +kernel
theorem D_M_letter_42 : decode cX12_letter 42 = .ok (.istore_n 3, 1) := by decide +kernel
theorem D_M_letter_43 : decode cX12_letter 43 = .ok (.iload_n 2, 1) := by decide +kernel
theorem D_M_letter_44 : decode cX12_letter 44 = .ok (.aload_n 0, 1) := by decide +kernel
theorem D_M_letter_45 : decode cX12_letter 45 = .ok (.getfield 9, 3) := by decide +kernel
theorem D_M_letter_48 : decode cX12_letter 48 = .ok (.iload_n 3, 1) := by decide +kernel
theorem D_M_letter_49 : decode cX12_letter 49 = .ok (.iaload, 1) := by decide +kernel
theorem D_M_letter_50 : decode cX12_letter 50 = .ok (.if_icmp .ge (16), 3) := by decide +kernel
theorem D_M_letter_53 : decode cX12_letter 53 = .ok (.aload_n 0, 1) := by decide +kernel
theorem D_M_letter_54 : decode cX12_letter 54 = .ok (.getfield 9, 3) := by decide +kernel
theorem D_M_letter_57 : decode cX12_letter 57 = .ok (.iload_n 3, 1) := by decide +kernel
theorem D_M_letter_58 : decode cX12_letter 58 = .ok (.iconst (1), 1) := by decide +kernel
theorem D_M_letter_59 : decode cX12_letter 59 = .ok (.iadd, 1) := by decide +kernel
theorem D_M_letter_60 : decode cX12_letter 60 = .ok (.iload_n 2, 1) := by decide +kernel
theorem D_M_letter_61 : decode cX12_letter 61 = .ok (.iadd, 1) := by decide +kernel
theorem D_M_letter_62 : decode cX12_letter 62 = .ok (.iaload, 1) := by decide +kernel
theorem D_M_letter_63 : decode cX12_letter 63 = .ok (.goto (5), 3) := by decide +kernel
theorem D_M_letter_66 : decode cX12_letter 66 = .ok (.bipush (-2), 2) := by decide +kernel
theorem D_M_letter_68 : decode cX12_letter 68 = .ok (.ireturn, 1) := by decide +kernel
def K_M_letter : SC := (cX12_letter, "TwoLevelsModel", 4, 1, false, [], NoQ)
def d_M_letter : MD Int32 := mth tt 4 (sq (sIf (cOr (cOr (eh2 c_lt (lI 1) (eC (-1))) (eh2 c_ge (lI 1) (eh2 (aI .int) (eh1 (gR 13 0) (lR 0)) (eC (nI 1595))))) (eh1 z_lt (lI 2))) (rtn (eC (-1))) sk)
 (sq (sI1 3 (eIf (eh2 c_eq (lI 1) (eC (-1))) (eC (nI 1584)) (eh2 iaddF (eC (nI 1596)) (eh2 imulF (eC (nI 11)) (lI 1)))))
 (rtn (eIf (eh2 c_lt (lI 2) (eh2 (aI .int) (eh1 (gR 13 0) (lR 0)) (lI 3))) (eh2 (aI .int) (eh1 (gR 13 0) (lR 0)) (eh2 iaddF (eh2 iaddF (lI 3) (eC (nI 1))) (lI 2))) (eC (-2))))))
theorem m_M_letter : MJ 1 [] yX12_letter (some .int) eI (d_M_letter) := MJ_of (K := K_M_letter) (ri := .ireturn) (n1 := 0) (n2 := 0) (n3 := 0)
 (SJ_sq (p0 := 0) (p1 := 23) (nN := 0) (nB := 0) (nC := 0) (SJ_if (p0 := 0) (pT := 21) (pF := 23) (nN := 23) (nB := 0) (nC := 0) (CJ_or (p0 := 0) (pM := 17) (pT := 21) (pF := 23) (CJ_or (p0 := 0) (pM := 5) (pT := 21) (pF := 17) (CJ_lt (off := 19) (tgt := 21) (p0 := 0) (p1 := 1) (p2 := 2) (EJ_iload_n (j := 1) (i := 1) (pc := 0) D_M_letter_0 rfl) (EJ_iconst (n := -1) (v := (-1)) (pc := 1) D_M_letter_1 (by decide +kernel)) D_M_letter_2 rfl) (CJ_ge (off := 7) (tgt := 21) (p0 := 5) (p1 := 6) (p2 := 14) (EJ_iload_n (j := 1) (i := 1) (pc := 5) D_M_letter_5 rfl) (EJ_iald (p0 := 6) (p1 := 10) (p2 := 13) (EJ_getR (t := 13) (c := 12) (kf := 0) (r := (RX12, TX12, 52)) (p0 := 6) (p1 := 7) (EJ_aload_n (j := 0) (i := 0) (pc := 6) D_M_letter_6 rfl) D_M_letter_7 ⟨rfl, rfl, by decide, q_932⟩ (fun _ _ => rfl)) (EJ_sipush (n := 1595) (v := (nI 1595)) (pc := 10) D_M_letter_10 (by decide +kernel)) D_M_letter_13) D_M_letter_14 rfl)) (CZ_lt' (off := 5) (tgt := 23) (p0 := 17) (p1 := 18) (EJ_iload_n (j := 2) (i := 2) (pc := 17) D_M_letter_17 rfl) D_M_letter_18 rfl)) (SJ_ret (p0 := 21) (p1 := 22) (EJ_iconst (n := -1) (v := (-1)) (pc := 21) D_M_letter_21 (by decide +kernel)) D_M_letter_22) SJ_sk)
 (SJ_sq (p0 := 23) (p1 := 43) (nN := 0) (nB := 0) (nC := 0) (SJ_istore_n (i := 3) (j := 3) (p0 := 23) (p1 := 42) (EJ_if (p0 := 23) (pT := 28) (pF := 34) (pE := 31) (p1 := 42) (CJ_eq' (off := 9) (tgt := 34) (p0 := 23) (p1 := 24) (p2 := 25) (EJ_iload_n (j := 1) (i := 1) (pc := 23) D_M_letter_23 rfl) (EJ_iconst (n := -1) (v := (-1)) (pc := 24) D_M_letter_24 (by decide +kernel)) D_M_letter_25 rfl) (EJ_sipush (n := 1584) (v := (nI 1584)) (pc := 28) D_M_letter_28 (by decide +kernel)) (Lead.goto (K := K_M_letter) (pc := 31) (tgt := 42) D_M_letter_31 rfl) (EJ_iadd (p0 := 34) (p1 := 37) (p2 := 41) (EJ_sipush (n := 1596) (v := (nI 1596)) (pc := 34) D_M_letter_34 (by decide +kernel)) (EJ_imul (p0 := 37) (p1 := 39) (p2 := 40) (EJ_bipush (n := 11) (v := (nI 11)) (pc := 37) D_M_letter_37 (by decide +kernel)) (EJ_iload_n (j := 1) (i := 1) (pc := 39) D_M_letter_39 rfl) D_M_letter_40) D_M_letter_41)) D_M_letter_42 rfl)
 (SJ_ret (p0 := 43) (p1 := 68) (EJ_if (p0 := 43) (pT := 53) (pF := 66) (pE := 63) (p1 := 68) (CJ_lt' (off := 16) (tgt := 66) (p0 := 43) (p1 := 44) (p2 := 50) (EJ_iload_n (j := 2) (i := 2) (pc := 43) D_M_letter_43 rfl) (EJ_iald (p0 := 44) (p1 := 48) (p2 := 49) (EJ_getR (t := 13) (c := 12) (kf := 0) (r := (RX12, TX12, 52)) (p0 := 44) (p1 := 45) (EJ_aload_n (j := 0) (i := 0) (pc := 44) D_M_letter_44 rfl) D_M_letter_45 ⟨rfl, rfl, by decide, q_932⟩ (fun _ _ => rfl)) (EJ_iload_n (j := 3) (i := 3) (pc := 48) D_M_letter_48 rfl) D_M_letter_49) D_M_letter_50 rfl) (EJ_iald (p0 := 53) (p1 := 57) (p2 := 62) (EJ_getR (t := 13) (c := 12) (kf := 0) (r := (RX12, TX12, 52)) (p0 := 53) (p1 := 54) (EJ_aload_n (j := 0) (i := 0) (pc := 53) D_M_letter_53 rfl) D_M_letter_54 ⟨rfl, rfl, by decide, q_932⟩ (fun _ _ => rfl)) (EJ_iadd (p0 := 57) (p1 := 60) (p2 := 61) (EJ_iadd (p0 := 57) (p1 := 58) (p2 := 59) (EJ_iload_n (j := 3) (i := 3) (pc := 57) D_M_letter_57 rfl) (EJ_iconst (n := 1) (v := (nI 1)) (pc := 58) D_M_letter_58 (by decide +kernel)) D_M_letter_59) (EJ_iload_n (j := 2) (i := 2) (pc := 60) D_M_letter_60 rfl) D_M_letter_61) D_M_letter_62) (Lead.goto (K := K_M_letter) (pc := 63) (tgt := 68) D_M_letter_63 rfl) (EJ_bipush (n := -2) (v := (-2)) (pc := 66) D_M_letter_66 (by decide +kernel))) D_M_letter_68)))
 RTm_int q_1243 (by decide +kernel) rfl (fun h => by cases h) (show 4 ≤ 40 from by decide) (fun _ => trivial)
theorem D_M_isEmptyToo_0 : decode cX12_isEmptyToo 0 = .ok (.aload_n 0, 1) := by decide +kernel
theorem D_M_isEmptyToo_1 : decode cX12_isEmptyToo 1 = .ok (.getfield 42, 3) := by decide +kernel
theorem D_M_isEmptyToo_4 : decode cX12_isEmptyToo 4 = .ok (.bipush (13), 2) := by decide +kernel
theorem D_M_isEmptyToo_6 : decode cX12_isEmptyToo 6 = .ok (.iconst (0), 1) := by decide +kernel
theorem D_M_isEmptyToo_7 : decode cX12_isEmptyToo 7 = .ok (.iastore, 1) := by decide +kernel
theorem D_M_isEmptyToo_8 : decode cX12_isEmptyToo 8 = .ok (.aload_n 0, 1) := by decide +kernel
theorem D_M_isEmptyToo_9 : decode cX12_isEmptyToo 9 = .ok (.bipush (13), 2) := by decide +kernel
theorem D_M_isEmptyToo_11 : decode cX12_isEmptyToo 11 = .ok (.invokevirtual 243, 3) := by decide +kernel
theorem D_M_isEmptyToo_14 : decode cX12_isEmptyToo 14 = .ok (.aload_n 0, 1) := by decide +kernel
theorem D_M_isEmptyToo_15 : decode cX12_isEmptyToo 15 = .ok (.getfield 45, 3) := by decide +kernel
theorem D_M_isEmptyToo_18 : decode cX12_isEmptyToo 18 = .ok (.bipush (13), 2) := by decide +kernel
theorem D_M_isEmptyToo_20 : decode cX12_isEmptyToo 20 = .ok (.iload_n 1, 1) := by decide +kernel
theorem D_M_isEmptyToo_21 : decode cX12_isEmptyToo 21 = .ok (.iconst (0), 1) := by decide +kernel
theorem D_M_isEmptyToo_22 : decode cX12_isEmptyToo 22 = .ok (.invokestatic 226, 3) := by decide +kernel
theorem D_M_isEmptyToo_25 : decode cX12_isEmptyToo 25 = .ok (.iaload, 1) := by decide +kernel
theorem D_M_isEmptyToo_26 : decode cX12_isEmptyToo 26 = .ok (.iconst (0), 1) := by decide +kernel
theorem D_M_isEmptyToo_27 : decode cX12_isEmptyToo 27 = .ok (.invokestatic 223, 3) := by decide +kernel
theorem D_M_isEmptyToo_30 : decode cX12_isEmptyToo 30 = .ok (.ireturn, 1) := by decide +kernel
def K_M_isEmptyToo : SC := (cX12_isEmptyToo, "TwoLevelsModel", 2, 5, false, [80, 81], NoQ)
def d_M_isEmptyToo : MD Int32 := mth zz 2 (sq (sh3 (stI [80]) (eh1 (gR 13 16) (lR 0)) (eC (nI 13)) (eC (nI 0)))
 (sq (sE (kV 13 d_M_laysSpans (lR 0) [vI (eC (nI 13))]))
 (rtn (kS d_M_has [vI (eh2 (aI .int) (eh1 (gR 13 17) (lR 0)) (kS d_M_spanAt [vI (eC (nI 13)), vI (lI 1), vI (eC (nI 0))])), vI (eC (nI 0))]))))
theorem m_M_isEmptyToo : MJ 5 [80, 81] yX12_isEmptyToo (some .boolean) eI (d_M_isEmptyToo) := MJ_of (K := K_M_isEmptyToo) (ri := .ireturn) (n1 := 0) (n2 := 0) (n3 := 0)
 (SJ_sq (p0 := 0) (p1 := 8) (nN := 0) (nB := 0) (nC := 0) (SJ_iast (ws := [80]) (p0 := 0) (p1 := 4) (p2 := 6) (p3 := 7) (EJ_getR (t := 13) (c := 12) (kf := 16) (r := (RX12, TX12, 52)) (p0 := 0) (p1 := 1) (EJ_aload_n (j := 0) (i := 0) (pc := 0) D_M_isEmptyToo_0 rfl) D_M_isEmptyToo_1 ⟨rfl, rfl, by decide, q_948⟩ (fun _ _ => rfl)) (EJ_bipush (n := 13) (v := (nI 13)) (pc := 4) D_M_isEmptyToo_4 (by decide +kernel)) (EJ_iconst (n := 0) (v := (nI 0)) (pc := 6) D_M_isEmptyToo_6 (by decide +kernel)) D_M_isEmptyToo_7 (show ∀ x_ ∈ ([80] : List Nat), x_ ∈ ([80, 81] : List Nat) from by decide))
 (SJ_sq (p0 := 8) (p1 := 14) (nN := 0) (nB := 0) (nC := 0) (SJ_void (p0 := 8) (p1 := 14) (EJ_callV (t := 13) (c := 12) (r := (RX12, TX12, 52)) (p0 := 8) (p1 := 9) (p2 := 11) (EJ_aload_n (j := 0) (i := 0) (pc := 8) D_M_isEmptyToo_8 rfl) (AJ_I (p0 := 9) (p1 := 11) (p2 := 11) (EJ_bipush (n := 13) (v := (nI 13)) (pc := 9) D_M_isEmptyToo_9 (by decide +kernel)) AJ_nil) m_M_laysSpans E1_U D_M_isEmptyToo_11 rfl rfl rfl q_1179 q_1180 q_61 q_97 ⟨by decide +kernel, by decide +kernel, by decide +kernel⟩ (by decide) (show 4 + 1 ≤ 5 from by decide) (show ∀ x_ ∈ ([81] : List Nat), x_ ∈ ([80, 81] : List Nat) from by decide)))
 (SJ_ret (p0 := 14) (p1 := 30) (EJ_callS (p0 := 14) (p1 := 27) (AJ_I (p0 := 14) (p1 := 26) (p2 := 27) (EJ_iald (p0 := 14) (p1 := 18) (p2 := 25) (EJ_getR (t := 13) (c := 12) (kf := 17) (r := (RX12, TX12, 52)) (p0 := 14) (p1 := 15) (EJ_aload_n (j := 0) (i := 0) (pc := 14) D_M_isEmptyToo_14 rfl) D_M_isEmptyToo_15 ⟨rfl, rfl, by decide, q_949⟩ (fun _ _ => rfl)) (EJ_callS (p0 := 18) (p1 := 22) (AJ_I (p0 := 18) (p1 := 20) (p2 := 22) (EJ_bipush (n := 13) (v := (nI 13)) (pc := 18) D_M_isEmptyToo_18 (by decide +kernel)) (AJ_I (p0 := 20) (p1 := 21) (p2 := 22) (EJ_iload_n (j := 1) (i := 1) (pc := 20) D_M_isEmptyToo_20 rfl) (AJ_I (p0 := 21) (p1 := 22) (p2 := 22) (EJ_iconst (n := 0) (v := (nI 0)) (pc := 21) D_M_isEmptyToo_21 (by decide +kernel)) AJ_nil))) m_M_spanAt E1_I D_M_isEmptyToo_22 q_1182 q_1183 q_97 ⟨by decide +kernel, by decide +kernel, by decide +kernel⟩ (by decide) (show 1 + 1 ≤ 5 from by decide) (fun _ h => absurd h List.not_mem_nil)) D_M_isEmptyToo_25) (AJ_I (p0 := 26) (p1 := 27) (p2 := 27) (EJ_iconst (n := 0) (v := (nI 0)) (pc := 26) D_M_isEmptyToo_26 (by decide +kernel)) AJ_nil)) m_M_has E1_I D_M_isEmptyToo_27 q_1188 q_1189 q_97 ⟨by decide +kernel, by decide +kernel, by decide +kernel⟩ (by decide) (show 1 + 1 ≤ 5 from by decide) (fun _ h => absurd h List.not_mem_nil)) D_M_isEmptyToo_30)))
 RTm_bool q_1196 (by decide +kernel) rfl (fun h => by cases h) (show 2 ≤ 40 from by decide) (fun _ => trivial)
theorem D_M_ruleHas_0 : decode cX12_ruleHas 0 = .ok (.aload_n 0, 1) := by decide +kernel
theorem D_M_ruleHas_1 : decode cX12_ruleHas 1 = .ok (.iload_n 1, 1) := by decide +kernel
theorem D_M_ruleHas_2 : decode cX12_ruleHas 2 = .ok (.invokestatic 255, 3) := by decide +kernel
theorem D_M_ruleHas_5 : decode cX12_ruleHas 5 = .ok (.iload_n 2, 1) := by decide +kernel
theorem D_M_ruleHas_6 : decode cX12_ruleHas 6 = .ok (.invokevirtual 261, 3) := by decide +kernel
theorem D_M_ruleHas_9 : decode cX12_ruleHas 9 = .ok (.istore_n 3, 1) := by decide +kernel
theorem D_M_ruleHas_10 : decode cX12_ruleHas 10 = .ok (.iconst (0), 1) := by decide +kernel
theorem D_M_ruleHas_11 : decode cX12_ruleHas 11 = .ok (.istore 4, 2) := by decide +kernel
theorem D_M_ruleHas_13 : decode cX12_ruleHas 13 = .ok (.iload 4, 2) := by decide +kernel
theorem D_M_ruleHas_15 : decode cX12_ruleHas 15 = .ok (.aload_n 0, 1) := by decide +kernel
theorem D_M_ruleHas_16 : decode cX12_ruleHas 16 = .ok (.iload_n 1, 1) := by decide +kernel
theorem D_M_ruleHas_17 : decode cX12_ruleHas 17 = .ok (.invokevirtual 264, 3) := by decide +kernel
theorem D_M_ruleHas_20 : decode cX12_ruleHas 20 = .ok (.if_icmp .ge (62), 3) := by decide +kernel
theorem D_M_ruleHas_23 : decode cX12_ruleHas 23 = .ok (.iconst (0), 1) := by decide +kernel
theorem D_M_ruleHas_24 : decode cX12_ruleHas 24 = .ok (.istore 5, 2) := by decide +kernel
theorem D_M_ruleHas_26 : decode cX12_ruleHas 26 = .ok (.iload 5, 2) := by decide +kernel
theorem D_M_ruleHas_28 : decode cX12_ruleHas 28 = .ok (.aload_n 0, 1) := by decide +kernel
theorem D_M_ruleHas_29 : decode cX12_ruleHas 29 = .ok (.getfield 9, 3) := by decide +kernel
theorem D_M_ruleHas_32 : decode cX12_ruleHas 32 = .ok (.iload_n 1, 1) := by decide +kernel
theorem D_M_ruleHas_33 : decode cX12_ruleHas 33 = .ok (.iload 4, 2) := by decide +kernel
theorem D_M_ruleHas_35 : decode cX12_ruleHas 35 = .ok (.invokestatic 258, 3) := by decide +kernel
theorem D_M_ruleHas_38 : decode cX12_ruleHas 38 = .ok (.iaload, 1) := by decide +kernel
theorem D_M_ruleHas_39 : decode cX12_ruleHas 39 = .ok (.if_icmp .ge (37), 3) := by decide +kernel
theorem D_M_ruleHas_42 : decode cX12_ruleHas 42 = .ok (.iload_n 3, 1) := by decide +kernel
theorem D_M_ruleHas_43 : decode cX12_ruleHas 43 = .ok (.ifCond .ne (21), 3) := by decide +kernel
theorem D_M_ruleHas_46 : decode cX12_ruleHas 46 = .ok (.aload_n 0, 1) := by decide +kernel
theorem D_M_ruleHas_47 : decode cX12_ruleHas 47 = .ok (.iload_n 1, 1) := by decide +kernel
theorem D_M_ruleHas_48 : decode cX12_ruleHas 48 = .ok (.iload 4, 2) := by decide +kernel
theorem D_M_ruleHas_50 : decode cX12_ruleHas 50 = .ok (.iload 5, 2) := by decide +kernel
theorem D_M_ruleHas_52 : decode cX12_ruleHas 52 = .ok (.invokestatic 267, 3) := by decide +kernel
theorem D_M_ruleHas_55 : decode cX12_ruleHas 55 = .ok (.iconst (1), 1) := by decide +kernel
theorem D_M_ruleHas_56 : decode cX12_ruleHas 56 = .ok (.iadd, 1) := by decide +kernel
theorem D_M_ruleHas_57 : decode cX12_ruleHas 57 = .ok (.iload_n 2, 1) := by decide +kernel
theorem D_M_ruleHas_58 : decode cX12_ruleHas 58 = .ok (.invokevirtual 261, 3) := by decide +kernel
theorem D_M_ruleHas_61 : decode cX12_ruleHas 61 = .ok (.ifCond .eq (7), 3) := by decide +kernel
theorem D_M_ruleHas_64 : decode cX12_ruleHas 64 = .ok (.iconst (1), 1) := by decide +kernel
theorem D_M_ruleHas_65 : decode cX12_ruleHas 65 = .ok (.goto (4), 3) := by decide +kernel
theorem D_M_ruleHas_68 : decode cX12_ruleHas 68 = .ok (.iconst (0), 1) := by decide +kernel
theorem D_M_ruleHas_69 : decode cX12_ruleHas 69 = .ok (.istore_n 3, 1) := by decide +kernel
theorem D_M_ruleHas_70 : decode cX12_ruleHas 70 = .ok (.iinc 5 (1), 3) := by decide +kernel
theorem D_M_ruleHas_73 : decode cX12_ruleHas 73 = .ok (.goto (-47), 3) := by decide +kernel
theorem D_M_ruleHas_76 : decode cX12_ruleHas 76 = .ok (.iinc 4 (1), 3) := by decide +kernel
theorem D_M_ruleHas_79 : decode cX12_ruleHas 79 = .ok (.goto (-66), 3) := by decide +kernel
theorem D_M_ruleHas_82 : decode cX12_ruleHas 82 = .ok (.iload_n 3, 1) := by decide +kernel
theorem D_M_ruleHas_83 : decode cX12_ruleHas 83 = .ok (.ireturn, 1) := by decide +kernel
def K_M_ruleHas : SC := (cX12_ruleHas, "TwoLevelsModel", 6, 4, false, [], NoQ)
def d_M_ruleHas : MD Int32 := mth zz 6 (sq (sI1 3 (kV 13 d_M_rowHas (lR 0) [vI (kS d_M_ruleAt [vI (lI 1)]), vI (lI 2)]))
 (sq (sq (sI1 4 (eC (nI 0)))
 (loop (eh2 c_lt (lI 4) (kV 13 d_M_choices (lR 0) [vI (lI 1)]))
 (sq (sI1 5 (eC (nI 0)))
 (loop (eh2 c_lt (lI 5) (eh2 (aI .int) (eh1 (gR 13 0) (lR 0)) (kS d_M_choiceAt [vI (lI 1), vI (lI 4)])))
 (sI1 3 (eIf (cOr (eh1 z_ne (lI 3)) (eh1 z_ne (kV 13 d_M_rowHas (lR 0) [vI (eh2 iaddF (kS d_M_memberAt [vI (lI 1), vI (lI 4), vI (lI 5)]) (eC (nI 1))), vI (lI 2)]))) (eC (nI 1)) (eC (nI 0))))
 (sInc 5 (nI 1))))
 (sInc 4 (nI 1))))
 (rtn (lI 3))))
theorem m_M_ruleHas : MJ 4 [] yX12_ruleHas (some .boolean) eI (d_M_ruleHas) := MJ_of (K := K_M_ruleHas) (ri := .ireturn) (n1 := 0) (n2 := 0) (n3 := 0)
 (SJ_sq (p0 := 0) (p1 := 10) (nN := 0) (nB := 0) (nC := 0) (SJ_istore_n (i := 3) (j := 3) (p0 := 0) (p1 := 9) (EJ_callV (t := 13) (c := 12) (r := (RX12, TX12, 52)) (p0 := 0) (p1 := 1) (p2 := 6) (EJ_aload_n (j := 0) (i := 0) (pc := 0) D_M_ruleHas_0 rfl) (AJ_I (p0 := 1) (p1 := 5) (p2 := 6) (EJ_callS (p0 := 1) (p1 := 2) (AJ_I (p0 := 1) (p1 := 2) (p2 := 2) (EJ_iload_n (j := 1) (i := 1) (pc := 1) D_M_ruleHas_1 rfl) AJ_nil) m_M_ruleAt E1_I D_M_ruleHas_2 q_1209 q_1210 q_97 ⟨by decide +kernel, by decide +kernel, by decide +kernel⟩ (by decide) (show 1 + 1 ≤ 4 from by decide) (fun _ h => absurd h List.not_mem_nil)) (AJ_I (p0 := 5) (p1 := 6) (p2 := 6) (EJ_iload_n (j := 2) (i := 2) (pc := 5) D_M_ruleHas_5 rfl) AJ_nil)) m_M_rowHas E1_I D_M_ruleHas_6 rfl rfl rfl q_1212 q_1213 q_69 q_97 ⟨by decide +kernel, by decide +kernel, by decide +kernel⟩ (by decide) (show 1 + 1 ≤ 4 from by decide) (fun _ h => absurd h List.not_mem_nil)) D_M_ruleHas_9 rfl)
 (SJ_sq (p0 := 10) (p1 := 82) (nN := 0) (nB := 0) (nC := 0) (SJ_sq (p0 := 10) (p1 := 13) (nN := 82) (nB := 0) (nC := 0) (SJ_istore (i := 4) (p0 := 10) (p1 := 11) (EJ_iconst (n := 0) (v := (nI 0)) (pc := 10) D_M_ruleHas_10 (by decide +kernel)) D_M_ruleHas_11)
 (SJ_loop (p0 := 13) (pB := 23) (pS := 76) (pE := 82) (CJ_lt' (off := 62) (tgt := 82) (p0 := 13) (p1 := 15) (p2 := 20) (EJ_iload (i := 4) (pc := 13) D_M_ruleHas_13) (EJ_callV (t := 13) (c := 12) (r := (RX12, TX12, 52)) (p0 := 15) (p1 := 16) (p2 := 17) (EJ_aload_n (j := 0) (i := 0) (pc := 15) D_M_ruleHas_15 rfl) (AJ_I (p0 := 16) (p1 := 17) (p2 := 17) (EJ_iload_n (j := 1) (i := 1) (pc := 16) D_M_ruleHas_16 rfl) AJ_nil) m_M_choices E1_I D_M_ruleHas_17 rfl rfl rfl q_1215 q_1216 q_70 q_97 ⟨by decide +kernel, by decide +kernel, by decide +kernel⟩ (by decide) (show 2 + 1 ≤ 4 from by decide) (fun _ h => absurd h List.not_mem_nil)) D_M_ruleHas_20 rfl)
 (SJ_sq (p0 := 23) (p1 := 26) (nN := 76) (nB := 82) (nC := 76) (SJ_istore (i := 5) (p0 := 23) (p1 := 24) (EJ_iconst (n := 0) (v := (nI 0)) (pc := 23) D_M_ruleHas_23 (by decide +kernel)) D_M_ruleHas_24)
 (SJ_loop (p0 := 26) (pB := 42) (pS := 70) (pE := 76) (CJ_lt' (off := 37) (tgt := 76) (p0 := 26) (p1 := 28) (p2 := 39) (EJ_iload (i := 5) (pc := 26) D_M_ruleHas_26) (EJ_iald (p0 := 28) (p1 := 32) (p2 := 38) (EJ_getR (t := 13) (c := 12) (kf := 0) (r := (RX12, TX12, 52)) (p0 := 28) (p1 := 29) (EJ_aload_n (j := 0) (i := 0) (pc := 28) D_M_ruleHas_28 rfl) D_M_ruleHas_29 ⟨rfl, rfl, by decide, q_932⟩ (fun _ _ => rfl)) (EJ_callS (p0 := 32) (p1 := 35) (AJ_I (p0 := 32) (p1 := 33) (p2 := 35) (EJ_iload_n (j := 1) (i := 1) (pc := 32) D_M_ruleHas_32 rfl) (AJ_I (p0 := 33) (p1 := 35) (p2 := 35) (EJ_iload (i := 4) (pc := 33) D_M_ruleHas_33) AJ_nil)) m_M_choiceAt E1_I D_M_ruleHas_35 q_1218 q_1219 q_97 ⟨by decide +kernel, by decide +kernel, by decide +kernel⟩ (by decide) (show 2 + 1 ≤ 4 from by decide) (fun _ h => absurd h List.not_mem_nil)) D_M_ruleHas_38) D_M_ruleHas_39 rfl)
 (SJ_istore_n (i := 3) (j := 3) (p0 := 42) (p1 := 69) (EJ_if (p0 := 42) (pT := 64) (pF := 68) (pE := 65) (p1 := 69) (CJ_or (p0 := 42) (pM := 46) (pT := 64) (pF := 68) (CZ_ne (off := 21) (tgt := 64) (p0 := 42) (p1 := 43) (EJ_iload_n (j := 3) (i := 3) (pc := 42) D_M_ruleHas_42 rfl) D_M_ruleHas_43 rfl) (CZ_ne' (off := 7) (tgt := 68) (p0 := 46) (p1 := 61) (EJ_callV (t := 13) (c := 12) (r := (RX12, TX12, 52)) (p0 := 46) (p1 := 47) (p2 := 58) (EJ_aload_n (j := 0) (i := 0) (pc := 46) D_M_ruleHas_46 rfl) (AJ_I (p0 := 47) (p1 := 57) (p2 := 58) (EJ_iadd (p0 := 47) (p1 := 55) (p2 := 56) (EJ_callS (p0 := 47) (p1 := 52) (AJ_I (p0 := 47) (p1 := 48) (p2 := 52) (EJ_iload_n (j := 1) (i := 1) (pc := 47) D_M_ruleHas_47 rfl) (AJ_I (p0 := 48) (p1 := 50) (p2 := 52) (EJ_iload (i := 4) (pc := 48) D_M_ruleHas_48) (AJ_I (p0 := 50) (p1 := 52) (p2 := 52) (EJ_iload (i := 5) (pc := 50) D_M_ruleHas_50) AJ_nil))) m_M_memberAt E1_I D_M_ruleHas_52 q_1221 q_1222 q_97 ⟨by decide +kernel, by decide +kernel, by decide +kernel⟩ (by decide) (show 3 + 1 ≤ 4 from by decide) (fun _ h => absurd h List.not_mem_nil)) (EJ_iconst (n := 1) (v := (nI 1)) (pc := 55) D_M_ruleHas_55 (by decide +kernel)) D_M_ruleHas_56) (AJ_I (p0 := 57) (p1 := 58) (p2 := 58) (EJ_iload_n (j := 2) (i := 2) (pc := 57) D_M_ruleHas_57 rfl) AJ_nil)) m_M_rowHas E1_I D_M_ruleHas_58 rfl rfl rfl q_1212 q_1213 q_69 q_97 ⟨by decide +kernel, by decide +kernel, by decide +kernel⟩ (by decide) (show 1 + 1 ≤ 4 from by decide) (fun _ h => absurd h List.not_mem_nil)) D_M_ruleHas_61 rfl)) (EJ_iconst (n := 1) (v := (nI 1)) (pc := 64) D_M_ruleHas_64 (by decide +kernel)) (Lead.goto (K := K_M_ruleHas) (pc := 65) (tgt := 69) D_M_ruleHas_65 rfl) (EJ_iconst (n := 0) (v := (nI 0)) (pc := 68) D_M_ruleHas_68 (by decide +kernel))) D_M_ruleHas_69 rfl)
 (SJ_post (SJ_iinc (i := 5) (n := 1) (v := (nI 1)) (pc := 70) D_M_ruleHas_70 (by decide +kernel)) (Lead.goto (K := K_M_ruleHas) (pc := 73) (tgt := 26) D_M_ruleHas_73 rfl))))
 (SJ_post (SJ_iinc (i := 4) (n := 1) (v := (nI 1)) (pc := 76) D_M_ruleHas_76 (by decide +kernel)) (Lead.goto (K := K_M_ruleHas) (pc := 79) (tgt := 13) D_M_ruleHas_79 rfl))))
 (SJ_ret (p0 := 82) (p1 := 83) (EJ_iload_n (j := 3) (i := 3) (pc := 82) D_M_ruleHas_82 rfl) D_M_ruleHas_83)))
 RTm_bool q_1208 (by decide +kernel) rfl (fun h => by cases h) (show 6 ≤ 40 from by decide) (fun _ => trivial)
theorem D_M_standsIn_0 : decode cX12_standsIn 0 = .ok (.iconst (0), 1) := by decide +kernel
theorem D_M_standsIn_1 : decode cX12_standsIn 1 = .ok (.istore_n 2, 1) := by decide +kernel
theorem D_M_standsIn_2 : decode cX12_standsIn 2 = .ok (.iconst (0), 1) := by decide +kernel
theorem D_M_standsIn_3 : decode cX12_standsIn 3 = .ok (.istore_n 3, 1) := by decide +kernel
theorem D_M_standsIn_4 : decode cX12_standsIn 4 = .ok (.iload_n 3, 1) := by decide +kernel
theorem D_M_standsIn_5 : decode cX12_standsIn 5 = .ok (.aload_n 0, 1) := by decide +kernel
theorem D_M_standsIn_6 : decode cX12_standsIn 6 = .ok (.getfield 9, 3) := by decide +kernel
theorem D_M_standsIn_9 : decode cX12_standsIn 9 = .ok (.iconst (1), 1) := by decide +kernel
theorem D_M_standsIn_10 : decode cX12_standsIn 10 = .ok (.iaload, 1) := by decide +kernel
theorem D_M_standsIn_11 : decode cX12_standsIn 11 = .ok (.if_icmp .ge (28), 3) := by decide +kernel
theorem D_M_standsIn_14 : decode cX12_standsIn 14 = .ok (.iload_n 2, 1) := by decide +kernel
theorem D_M_standsIn_15 : decode cX12_standsIn 15 = .ok (.aload_n 0, 1) := by decide +kernel
theorem D_M_standsIn_16 : decode cX12_standsIn 16 = .ok (.iload_n 3, 1) := by decide +kernel
theorem D_M_standsIn_17 : decode cX12_standsIn 17 = .ok (.iload_n 1, 1) := by decide +kernel
theorem D_M_standsIn_18 : decode cX12_standsIn 18 = .ok (.invokevirtual 270, 3) := by decide +kernel
theorem D_M_standsIn_21 : decode cX12_standsIn 21 = .ok (.ifCond .eq (9), 3) := by decide +kernel
theorem D_M_standsIn_24 : decode cX12_standsIn 24 = .ok (.iconst (1), 1) := by decide +kernel
theorem D_M_standsIn_25 : decode cX12_standsIn 25 = .ok (.iload_n 3, 1) := by decide +kernel
theorem D_M_standsIn_26 : decode cX12_standsIn 26 = .ok (.ishl, 1) := by decide +kernel
theorem D_M_standsIn_27 : decode cX12_standsIn 27 = .ok (.goto (4), 3) := by decide +kernel
theorem D_M_standsIn_30 : decode cX12_standsIn 30 = .ok (.iconst (0), 1) := by decide +kernel
theorem D_M_standsIn_31 : decode cX12_standsIn 31 = .ok (.ior, 1) := by decide +kernel
theorem D_M_standsIn_32 : decode cX12_standsIn 32 = .ok (.istore_n 2, 1) := by decide +kernel
theorem D_M_standsIn_33 : decode cX12_standsIn 33 = .ok (.iinc 3 (1), 3) := by decide +kernel
theorem D_M_standsIn_36 : decode cX12_standsIn 36 = .ok (.goto (-32), 3) := by decide +kernel
theorem D_M_standsIn_39 : decode cX12_standsIn 39 = .ok (.iload_n 2, 1) := by decide +kernel
theorem D_M_standsIn_40 : decode cX12_standsIn 40 = .ok (.ireturn, 1) := by decide +kernel
def K_M_standsIn : SC := (cX12_standsIn, "TwoLevelsModel", 4, 5, false, [], NoQ)
def d_M_standsIn : MD Int32 := mth tt 4 (sq (sI1 2 (eC (nI 0)))
 (sq (sq (sI1 3 (eC (nI 0)))
 (loop (eh2 c_lt (lI 3) (eh2 (aI .int) (eh1 (gR 13 0) (lR 0)) (eC (nI 1))))
 (sI1 2 (eh2 iorF (lI 2) (eIf (eh1 z_ne (kV 13 d_M_ruleHas (lR 0) [vI (lI 3), vI (lI 1)])) (eh2 ishlF (eC (nI 1)) (lI 3)) (eC (nI 0)))))
 (sInc 3 (nI 1))))
 (rtn (lI 2))))
theorem m_M_standsIn : MJ 5 [] yX12_standsIn (some .int) eI (d_M_standsIn) := MJ_of (K := K_M_standsIn) (ri := .ireturn) (n1 := 0) (n2 := 0) (n3 := 0)
 (SJ_sq (p0 := 0) (p1 := 2) (nN := 0) (nB := 0) (nC := 0) (SJ_istore_n (i := 2) (j := 2) (p0 := 0) (p1 := 1) (EJ_iconst (n := 0) (v := (nI 0)) (pc := 0) D_M_standsIn_0 (by decide +kernel)) D_M_standsIn_1 rfl)
 (SJ_sq (p0 := 2) (p1 := 39) (nN := 0) (nB := 0) (nC := 0) (SJ_sq (p0 := 2) (p1 := 4) (nN := 39) (nB := 0) (nC := 0) (SJ_istore_n (i := 3) (j := 3) (p0 := 2) (p1 := 3) (EJ_iconst (n := 0) (v := (nI 0)) (pc := 2) D_M_standsIn_2 (by decide +kernel)) D_M_standsIn_3 rfl)
 (SJ_loop (p0 := 4) (pB := 14) (pS := 33) (pE := 39) (CJ_lt' (off := 28) (tgt := 39) (p0 := 4) (p1 := 5) (p2 := 11) (EJ_iload_n (j := 3) (i := 3) (pc := 4) D_M_standsIn_4 rfl) (EJ_iald (p0 := 5) (p1 := 9) (p2 := 10) (EJ_getR (t := 13) (c := 12) (kf := 0) (r := (RX12, TX12, 52)) (p0 := 5) (p1 := 6) (EJ_aload_n (j := 0) (i := 0) (pc := 5) D_M_standsIn_5 rfl) D_M_standsIn_6 ⟨rfl, rfl, by decide, q_932⟩ (fun _ _ => rfl)) (EJ_iconst (n := 1) (v := (nI 1)) (pc := 9) D_M_standsIn_9 (by decide +kernel)) D_M_standsIn_10) D_M_standsIn_11 rfl)
 (SJ_istore_n (i := 2) (j := 2) (p0 := 14) (p1 := 32) (EJ_ior (p0 := 14) (p1 := 15) (p2 := 31) (EJ_iload_n (j := 2) (i := 2) (pc := 14) D_M_standsIn_14 rfl) (EJ_if (p0 := 15) (pT := 24) (pF := 30) (pE := 27) (p1 := 31) (CZ_ne' (off := 9) (tgt := 30) (p0 := 15) (p1 := 21) (EJ_callV (t := 13) (c := 12) (r := (RX12, TX12, 52)) (p0 := 15) (p1 := 16) (p2 := 18) (EJ_aload_n (j := 0) (i := 0) (pc := 15) D_M_standsIn_15 rfl) (AJ_I (p0 := 16) (p1 := 17) (p2 := 18) (EJ_iload_n (j := 3) (i := 3) (pc := 16) D_M_standsIn_16 rfl) (AJ_I (p0 := 17) (p1 := 18) (p2 := 18) (EJ_iload_n (j := 1) (i := 1) (pc := 17) D_M_standsIn_17 rfl) AJ_nil)) m_M_ruleHas E1_I D_M_standsIn_18 rfl rfl rfl q_1206 q_1207 q_68 q_97 ⟨by decide +kernel, by decide +kernel, by decide +kernel⟩ (by decide) (show 4 + 1 ≤ 5 from by decide) (fun _ h => absurd h List.not_mem_nil)) D_M_standsIn_21 rfl) (EJ_ishl (p0 := 24) (p1 := 25) (p2 := 26) (EJ_iconst (n := 1) (v := (nI 1)) (pc := 24) D_M_standsIn_24 (by decide +kernel)) (EJ_iload_n (j := 3) (i := 3) (pc := 25) D_M_standsIn_25 rfl) D_M_standsIn_26) (Lead.goto (K := K_M_standsIn) (pc := 27) (tgt := 31) D_M_standsIn_27 rfl) (EJ_iconst (n := 0) (v := (nI 0)) (pc := 30) D_M_standsIn_30 (by decide +kernel))) D_M_standsIn_31) D_M_standsIn_32 rfl)
 (SJ_post (SJ_iinc (i := 3) (n := 1) (v := (nI 1)) (pc := 33) D_M_standsIn_33 (by decide +kernel)) (Lead.goto (K := K_M_standsIn) (pc := 36) (tgt := 4) D_M_standsIn_36 rfl))))
 (SJ_ret (p0 := 39) (p1 := 40) (EJ_iload_n (j := 2) (i := 2) (pc := 39) D_M_standsIn_39 rfl) D_M_standsIn_40)))
 RTm_int q_1205 (by decide +kernel) rfl (fun h => by cases h) (show 4 ≤ 40 from by decide) (fun _ => trivial)
theorem D_M_meta_0 : decode cX12_meta 0 = .ok (.aload_n 0, 1) := by decide +kernel
theorem D_M_meta_1 : decode cX12_meta 1 = .ok (.iload_n 1, 1) := by decide +kernel
theorem D_M_meta_2 : decode cX12_meta 2 = .ok (.invokevirtual 220, 3) := by decide +kernel
theorem D_M_meta_5 : decode cX12_meta 5 = .ok (.istore_n 3, 1) := by decide +kernel
theorem D_M_meta_6 : decode cX12_meta 6 = .ok (.iload_n 3, 1) := by decide +kernel
theorem D_M_meta_7 : decode cX12_meta 7 = .ok (.iconst (-1), 1) := by decide +kernel
theorem D_M_meta_8 : decode cX12_meta 8 = .ok (.if_icmp .ne (5), 3) := by decide +kernel
theorem D_M_meta_11 : decode cX12_meta 11 = .ok (.iconst (-1), 1) := by decide +kernel
theorem D_M_meta_12 : decode cX12_meta 12 = .ok (.ireturn, 1) := by decide +kernel
theorem D_M_meta_13 : decode cX12_meta 13 = .ok (.iload_n 2, 1) := by decide +kernel
theorem D_M_meta_14 : decode cX12_meta 14 = .ok (.tableswitch 80 0 4 #[34, 40, 51, 60, 74], 34) := by decide +kernel
theorem D_M_meta_48 : decode cX12_meta 48 = .ok (.aload_n 0, 1) := by decide +kernel
theorem D_M_meta_49 : decode cX12_meta 49 = .ok (.iload_n 3, 1) := by decide +kernel
theorem D_M_meta_50 : decode cX12_meta 50 = .ok (.invokevirtual 234, 3) := by decide +kernel
theorem D_M_meta_53 : decode cX12_meta 53 = .ok (.ireturn, 1) := by decide +kernel
theorem D_M_meta_54 : decode cX12_meta 54 = .ok (.aload_n 0, 1) := by decide +kernel
theorem D_M_meta_55 : decode cX12_meta 55 = .ok (.invokevirtual 273, 3) := by decide +kernel
theorem D_M_meta_58 : decode cX12_meta 58 = .ok (.aload_n 0, 1) := by decide +kernel
theorem D_M_meta_59 : decode cX12_meta 59 = .ok (.getfield 48, 3) := by decide +kernel
theorem D_M_meta_62 : decode cX12_meta 62 = .ok (.iload_n 3, 1) := by decide +kernel
theorem D_M_meta_63 : decode cX12_meta 63 = .ok (.iaload, 1) := by decide +kernel
theorem D_M_meta_64 : decode cX12_meta 64 = .ok (.ireturn, 1) := by decide +kernel
theorem D_M_meta_65 : decode cX12_meta 65 = .ok (.aload_n 0, 1) := by decide +kernel
theorem D_M_meta_66 : decode cX12_meta 66 = .ok (.iload_n 3, 1) := by decide +kernel
theorem D_M_meta_67 : decode cX12_meta 67 = .ok (.invokevirtual 276, 3) := by decide +kernel
theorem D_M_meta_70 : decode cX12_meta 70 = .ok (.invokestatic 172, 3) := by decide +kernel
theorem D_M_meta_73 : decode cX12_meta 73 = .ok (.ireturn, 1) := by decide +kernel
theorem D_M_meta_74 : decode cX12_meta 74 = .ok (.aload_n 0, 1) := by decide +kernel
theorem D_M_meta_75 : decode cX12_meta 75 = .ok (.invokevirtual 279, 3) := by decide +kernel
theorem D_M_meta_78 : decode cX12_meta 78 = .ok (.aload_n 0, 1) := by decide +kernel
theorem D_M_meta_79 : decode cX12_meta 79 = .ok (.getfield 60, 3) := by decide +kernel
theorem D_M_meta_82 : decode cX12_meta 82 = .ok (.iload_n 3, 1) := by decide +kernel
theorem D_M_meta_83 : decode cX12_meta 83 = .ok (.baload, 1) := by decide +kernel
theorem D_M_meta_84 : decode cX12_meta 84 = .ok (.invokestatic 172, 3) := by decide +kernel
theorem D_M_meta_87 : decode cX12_meta 87 = .ok (.ireturn, 1) := by decide +kernel
theorem D_M_meta_88 : decode cX12_meta 88 = .ok (.aload_n 0, 1) := by decide +kernel
theorem D_M_meta_89 : decode cX12_meta 89 = .ok (.iload_n 1, 1) := by decide +kernel
theorem D_M_meta_90 : decode cX12_meta 90 = .ok (.invokevirtual 282, 3) := by decide +kernel
theorem D_M_meta_93 : decode cX12_meta 93 = .ok (.ireturn, 1) := by decide +kernel
theorem D_M_meta_94 : decode cX12_meta 94 = .ok (.iconst (-1), 1) := by decide +kernel
theorem D_M_meta_95 : decode cX12_meta 95 = .ok (.ireturn, 1) := by decide +kernel
def K_M_meta : SC := (cX12_meta, "TwoLevelsModel", 4, 207, false, [13, 79, 80, 81, 82, 83, 84, 85, 86], NoQ)
def d_M_meta : MD Int32 := mth tt 4 (sq (sI1 3 (kV 13 d_M_metaOf (lR 0) [vI (lI 1)]))
 (sq (sIf (eh2 c_eq (lI 3) (eC (-1))) (rtn (eC (-1))) sk)
 (sSw (lI 2) [((rtn (kV 13 d_M_alternatives (lR 0) [vI (lI 3)])), 48),
 ((sq (sE (kV 13 d_M_finds (lR 0) []))
 (rtn (eh2 (aI .int) (eh1 (gR 13 19) (lR 0)) (lI 3)))), 54),
 ((rtn (kS d_M_truth [vI (kV 13 d_M_isEmptyToo (lR 0) [vI (lI 3)])])), 65),
 ((sq (sE (kV 13 d_M_laysOut (lR 0) []))
 (rtn (kS d_M_truth [vI (eh2 (aI .boolean) (eh1 (gR 13 23) (lR 0)) (lI 3))]))), 74),
 ((rtn (kV 13 d_M_standsIn (lR 0) [vI (lI 1)])), 88)]
 (rtn (eC (-1))))))
theorem m_M_meta : MJ 207 [13, 79, 80, 81, 82, 83, 84, 85, 86] yX12_meta (some .int) eI (d_M_meta) := MJ_of (K := K_M_meta) (ri := .ireturn) (n1 := 0) (n2 := 0) (n3 := 0)
 (SJ_sq (p0 := 0) (p1 := 6) (nN := 0) (nB := 0) (nC := 0) (SJ_istore_n (i := 3) (j := 3) (p0 := 0) (p1 := 5) (EJ_callV (t := 13) (c := 12) (r := (RX12, TX12, 52)) (p0 := 0) (p1 := 1) (p2 := 2) (EJ_aload_n (j := 0) (i := 0) (pc := 0) D_M_meta_0 rfl) (AJ_I (p0 := 1) (p1 := 2) (p2 := 2) (EJ_iload_n (j := 1) (i := 1) (pc := 1) D_M_meta_1 rfl) AJ_nil) m_M_metaOf E1_I D_M_meta_2 rfl rfl rfl q_1161 q_1162 q_56 q_97 ⟨by decide +kernel, by decide +kernel, by decide +kernel⟩ (by decide) (show 1 + 1 ≤ 207 from by decide) (fun _ h => absurd h List.not_mem_nil)) D_M_meta_5 rfl)
 (SJ_sq (p0 := 6) (p1 := 13) (nN := 0) (nB := 0) (nC := 0) (SJ_if (p0 := 6) (pT := 11) (pF := 13) (nN := 13) (nB := 0) (nC := 0) (CJ_eq' (off := 5) (tgt := 13) (p0 := 6) (p1 := 7) (p2 := 8) (EJ_iload_n (j := 3) (i := 3) (pc := 6) D_M_meta_6 rfl) (EJ_iconst (n := -1) (v := (-1)) (pc := 7) D_M_meta_7 (by decide +kernel)) D_M_meta_8 rfl) (SJ_ret (p0 := 11) (p1 := 12) (EJ_iconst (n := -1) (v := (-1)) (pc := 11) D_M_meta_11 (by decide +kernel)) D_M_meta_12) SJ_sk)
 (SJ_sw (p0 := 13) (p1 := 14) (pD := 94) (EJ_iload_n (j := 2) (i := 2) (pc := 13) D_M_meta_13 rfl) D_M_meta_14 (by decide) (fun j qq hq => match j, hq with | 0, hq => (by cases hq; exact ⟨⟨_, rfl, rfl⟩, (SJ_ret (p0 := 48) (p1 := 53) (EJ_callV (t := 13) (c := 12) (r := (RX12, TX12, 52)) (p0 := 48) (p1 := 49) (p2 := 50) (EJ_aload_n (j := 0) (i := 0) (pc := 48) D_M_meta_48 rfl) (AJ_I (p0 := 49) (p1 := 50) (p2 := 50) (EJ_iload_n (j := 3) (i := 3) (pc := 49) D_M_meta_49 rfl) AJ_nil) m_M_alternatives E1_I D_M_meta_50 rfl rfl rfl q_1164 q_1165 q_57 q_97 ⟨by decide +kernel, by decide +kernel, by decide +kernel⟩ (by decide) (show 1 + 1 ≤ 207 from by decide) (fun _ h => absurd h List.not_mem_nil)) D_M_meta_53)⟩) | 1, hq => (by cases hq; exact ⟨⟨_, rfl, rfl⟩, (SJ_sq (p0 := 54) (p1 := 58) (nN := 0) (nB := 0) (nC := 0) (SJ_void (p0 := 54) (p1 := 58) (EJ_callV (t := 13) (c := 12) (r := (RX12, TX12, 52)) (p0 := 54) (p1 := 55) (p2 := 55) (EJ_aload_n (j := 0) (i := 0) (pc := 54) D_M_meta_54 rfl) AJ_nil m_M_finds E1_U D_M_meta_55 rfl rfl rfl q_1167 q_1168 q_58 q_97 ⟨by decide +kernel, by decide +kernel, by decide +kernel⟩ (by decide) (show 206 + 1 ≤ 207 from by decide) (show ∀ x_ ∈ ([13, 79, 80, 81, 82, 83, 84, 85] : List Nat), x_ ∈ ([13, 79, 80, 81, 82, 83, 84, 85, 86] : List Nat) from by decide)))  (SJ_ret (p0 := 58) (p1 := 64) (EJ_iald (p0 := 58) (p1 := 62) (p2 := 63) (EJ_getR (t := 13) (c := 12) (kf := 19) (r := (RX12, TX12, 52)) (p0 := 58) (p1 := 59) (EJ_aload_n (j := 0) (i := 0) (pc := 58) D_M_meta_58 rfl) D_M_meta_59 ⟨rfl, rfl, by decide, q_951⟩ (fun _ _ => rfl)) (EJ_iload_n (j := 3) (i := 3) (pc := 62) D_M_meta_62 rfl) D_M_meta_63) D_M_meta_64))⟩) | 2, hq => (by cases hq; exact ⟨⟨_, rfl, rfl⟩, (SJ_ret (p0 := 65) (p1 := 73) (EJ_callS (p0 := 65) (p1 := 70) (AJ_I (p0 := 65) (p1 := 70) (p2 := 70) (EJ_callV (t := 13) (c := 12) (r := (RX12, TX12, 52)) (p0 := 65) (p1 := 66) (p2 := 67) (EJ_aload_n (j := 0) (i := 0) (pc := 65) D_M_meta_65 rfl) (AJ_I (p0 := 66) (p1 := 67) (p2 := 67) (EJ_iload_n (j := 3) (i := 3) (pc := 66) D_M_meta_66 rfl) AJ_nil) m_M_isEmptyToo E1_I D_M_meta_67 rfl rfl rfl q_1194 q_1195 q_64 q_97 ⟨by decide +kernel, by decide +kernel, by decide +kernel⟩ (by decide) (show 5 + 1 ≤ 207 from by decide) (show ∀ x_ ∈ ([80, 81] : List Nat), x_ ∈ ([13, 79, 80, 81, 82, 83, 84, 85, 86] : List Nat) from by decide)) AJ_nil) m_M_truth E1_I D_M_meta_70 q_1107 q_1108 q_97 ⟨by decide +kernel, by decide +kernel, by decide +kernel⟩ (by decide) (show 1 + 1 ≤ 207 from by decide) (fun _ h => absurd h List.not_mem_nil)) D_M_meta_73)⟩) | 3, hq => (by cases hq; exact ⟨⟨_, rfl, rfl⟩, (SJ_sq (p0 := 74) (p1 := 78) (nN := 0) (nB := 0) (nC := 0) (SJ_void (p0 := 74) (p1 := 78) (EJ_callV (t := 13) (c := 12) (r := (RX12, TX12, 52)) (p0 := 74) (p1 := 75) (p2 := 75) (EJ_aload_n (j := 0) (i := 0) (pc := 74) D_M_meta_74 rfl) AJ_nil m_M_laysOut E1_U D_M_meta_75 rfl rfl rfl q_1197 q_1198 q_65 q_97 ⟨by decide +kernel, by decide +kernel, by decide +kernel⟩ (by decide) (show 4 + 1 ≤ 207 from by decide) (show ∀ x_ ∈ ([86] : List Nat), x_ ∈ ([13, 79, 80, 81, 82, 83, 84, 85, 86] : List Nat) from by decide)))  (SJ_ret (p0 := 78) (p1 := 87) (EJ_callS (p0 := 78) (p1 := 84) (AJ_I (p0 := 78) (p1 := 84) (p2 := 84) (EJ_zald (p0 := 78) (p1 := 82) (p2 := 83) (EJ_getR (t := 13) (c := 12) (kf := 23) (r := (RX12, TX12, 52)) (p0 := 78) (p1 := 79) (EJ_aload_n (j := 0) (i := 0) (pc := 78) D_M_meta_78 rfl) D_M_meta_79 ⟨rfl, rfl, by decide, q_955⟩ (fun _ _ => rfl)) (EJ_iload_n (j := 3) (i := 3) (pc := 82) D_M_meta_82 rfl) D_M_meta_83) AJ_nil) m_M_truth E1_I D_M_meta_84 q_1107 q_1108 q_97 ⟨by decide +kernel, by decide +kernel, by decide +kernel⟩ (by decide) (show 1 + 1 ≤ 207 from by decide) (fun _ h => absurd h List.not_mem_nil)) D_M_meta_87))⟩) | 4, hq => (by cases hq; exact ⟨⟨_, rfl, rfl⟩, (SJ_ret (p0 := 88) (p1 := 93) (EJ_callV (t := 13) (c := 12) (r := (RX12, TX12, 52)) (p0 := 88) (p1 := 89) (p2 := 90) (EJ_aload_n (j := 0) (i := 0) (pc := 88) D_M_meta_88 rfl) (AJ_I (p0 := 89) (p1 := 90) (p2 := 90) (EJ_iload_n (j := 1) (i := 1) (pc := 89) D_M_meta_89 rfl) AJ_nil) m_M_standsIn E1_I D_M_meta_90 rfl rfl rfl q_1203 q_1204 q_67 q_97 ⟨by decide +kernel, by decide +kernel, by decide +kernel⟩ (by decide) (show 5 + 1 ≤ 207 from by decide) (fun _ h => absurd h List.not_mem_nil)) D_M_meta_93)⟩) | (_ + 5), hq => by simp at hq) rfl (SJ_ret (p0 := 94) (p1 := 95) (EJ_iconst (n := -1) (v := (-1)) (pc := 94) D_M_meta_94 (by decide +kernel)) D_M_meta_95))))
 RTm_int q_1160 (by decide +kernel) rfl (fun h => by cases h) (show 4 ≤ 40 from by decide) (fun _ => trivial)
theorem D_M_node_0 : decode cX12_node 0 = .ok (.iload_n 1, 1) := by decide +kernel
theorem D_M_node_1 : decode cX12_node 1 = .ok (.iconst (-1), 1) := by decide +kernel
theorem D_M_node_2 : decode cX12_node 2 = .ok (.if_icmp .ne (24), 3) := by decide +kernel
theorem D_M_node_5 : decode cX12_node 5 = .ok (.iload_n 2, 1) := by decide +kernel
theorem D_M_node_6 : decode cX12_node 6 = .ok (.ifCond .ne (18), 3) := by decide +kernel
theorem D_M_node_9 : decode cX12_node 9 = .ok (.aload_n 0, 1) := by decide +kernel
theorem D_M_node_10 : decode cX12_node 10 = .ok (.iconst (0), 1) := by decide +kernel
theorem D_M_node_11 : decode cX12_node 11 = .ok (.invokevirtual 378, 3) := by decide +kernel
theorem D_M_node_14 : decode cX12_node 14 = .ok (.ifCond .eq (10), 3) := by decide +kernel
theorem D_M_node_17 : decode cX12_node 17 = .ok (.aload_n 0, 1) := by decide +kernel
theorem D_M_node_18 : decode cX12_node 18 = .ok (.getfield 320, 3) := by decide +kernel
theorem D_M_node_21 : decode cX12_node 21 = .ok (.goto (4), 3) := by decide +kernel
theorem D_M_node_24 : decode cX12_node 24 = .ok (.iconst (-1), 1) := by decide +kernel
theorem D_M_node_25 : decode cX12_node 25 = .ok (.ireturn, 1) := by decide +kernel
theorem D_M_node_26 : decode cX12_node 26 = .ok (.aload_n 0, 1) := by decide +kernel
theorem D_M_node_27 : decode cX12_node 27 = .ok (.iload_n 1, 1) := by decide +kernel
theorem D_M_node_28 : decode cX12_node 28 = .ok (.invokevirtual 378, 3) := by decide +kernel
theorem D_M_node_31 : decode cX12_node 31 = .ok (.ifCond .eq (27), 3) := by decide +kernel
theorem D_M_node_34 : decode cX12_node 34 = .ok (.iload_n 2, 1) := by decide +kernel
theorem D_M_node_35 : decode cX12_node 35 = .ok (.iconst (0), 1) := by decide +kernel
theorem D_M_node_36 : decode cX12_node 36 = .ok (.bipush (7), 2) := by decide +kernel
theorem D_M_node_38 : decode cX12_node 38 = .ok (.invokestatic 108, 3) := by decide +kernel
theorem D_M_node_41 : decode cX12_node 41 = .ok (.ifCond .eq (17), 3) := by decide +kernel
theorem D_M_node_44 : decode cX12_node 44 = .ok (.aload_n 0, 1) := by decide +kernel
theorem D_M_node_45 : decode cX12_node 45 = .ok (.getfield 99, 3) := by decide +kernel
theorem D_M_node_48 : decode cX12_node 48 = .ok (.bipush (12), 2) := by decide +kernel
theorem D_M_node_50 : decode cX12_node 50 = .ok (.iload_n 1, 1) := by decide +kernel
theorem D_M_node_51 : decode cX12_node 51 = .ok (.imul, 1) := by decide +kernel
theorem D_M_node_52 : decode cX12_node 52 = .ok (.iload_n 2, 1) := by decide +kernel
theorem D_M_node_53 : decode cX12_node 53 = .ok (.iadd, 1) := by decide +kernel
theorem D_M_node_54 : decode cX12_node 54 = .ok (.iaload, 1) := by decide +kernel
theorem D_M_node_55 : decode cX12_node 55 = .ok (.goto (4), 3) := by decide +kernel
theorem D_M_node_58 : decode cX12_node 58 = .ok (.iconst (-1), 1) := by decide +kernel
theorem D_M_node_59 : decode cX12_node 59 = .ok (.ireturn, 1) := by decide +kernel
def K_M_node : SC := (cX12_node, "TwoLevelsModel", 3, 210, false, [13, 79, 80, 81, 82, 83, 84, 85, 87, 88, 89, 92, 93, 94, 95, 96, 97, 98, 99, 100, 101], NoQ)
def d_M_node : MD Int32 := mth tt 3 (sq (sIf (eh2 c_eq (lI 1) (eC (-1))) (rtn (eIf (cAnd (eh1 z_eq (lI 2)) (eh1 z_ne (kV 13 d_M_hasNode (lR 0) [vI (eC (nI 0))]))) (eh1 (gI 13 47) (lR 0)) (eC (-1)))) sk)
 (rtn (eIf (cAnd (eh1 z_ne (kV 13 d_M_hasNode (lR 0) [vI (lI 1)])) (eh1 z_ne (kS d_M_in [vI (lI 2), vI (eC (nI 0)), vI (eC (nI 7))]))) (eh2 (aI .int) (eh1 (gR 13 45) (lR 0)) (eh2 iaddF (eh2 imulF (eC (nI 12)) (lI 1)) (lI 2))) (eC (-1)))))
theorem m_M_node : MJ 210 [13, 79, 80, 81, 82, 83, 84, 85, 87, 88, 89, 92, 93, 94, 95, 96, 97, 98, 99, 100, 101] yX12_node (some .int) eI (d_M_node) := MJ_of (K := K_M_node) (ri := .ireturn) (n1 := 0) (n2 := 0) (n3 := 0)
 (SJ_sq (p0 := 0) (p1 := 26) (nN := 0) (nB := 0) (nC := 0) (SJ_if (p0 := 0) (pT := 5) (pF := 26) (nN := 26) (nB := 0) (nC := 0) (CJ_eq' (off := 24) (tgt := 26) (p0 := 0) (p1 := 1) (p2 := 2) (EJ_iload_n (j := 1) (i := 1) (pc := 0) D_M_node_0 rfl) (EJ_iconst (n := -1) (v := (-1)) (pc := 1) D_M_node_1 (by decide +kernel)) D_M_node_2 rfl) (SJ_ret (p0 := 5) (p1 := 25) (EJ_if (p0 := 5) (pT := 17) (pF := 24) (pE := 21) (p1 := 25) (CJ_and (p0 := 5) (pM := 9) (pT := 17) (pF := 24) (CZ_eq' (off := 18) (tgt := 24) (p0 := 5) (p1 := 6) (EJ_iload_n (j := 2) (i := 2) (pc := 5) D_M_node_5 rfl) D_M_node_6 rfl) (CZ_ne' (off := 10) (tgt := 24) (p0 := 9) (p1 := 14) (EJ_callV (t := 13) (c := 12) (r := (RX12, TX12, 52)) (p0 := 9) (p1 := 10) (p2 := 11) (EJ_aload_n (j := 0) (i := 0) (pc := 9) D_M_node_9 rfl) (AJ_I (p0 := 10) (p1 := 11) (p2 := 11) (EJ_iconst (n := 0) (v := (nI 0)) (pc := 10) D_M_node_10 (by decide +kernel)) AJ_nil) m_M_hasNode E1_I D_M_node_11 rfl rfl rfl q_1334 q_1335 q_87 q_97 ⟨by decide +kernel, by decide +kernel, by decide +kernel⟩ (by decide) (show 209 + 1 ≤ 210 from by decide) (show ∀ x_ ∈ ([13, 79, 80, 81, 82, 83, 84, 85, 87, 88, 89, 92, 93, 94, 95, 96, 97, 98, 99, 100, 101] : List Nat), x_ ∈ ([13, 79, 80, 81, 82, 83, 84, 85, 87, 88, 89, 92, 93, 94, 95, 96, 97, 98, 99, 100, 101] : List Nat) from by decide)) D_M_node_14 rfl)) (EJ_getI (t := 13) (c := 12) (kf := 47) (r := (RX12, TX12, 52)) (p0 := 17) (p1 := 18) (EJ_aload_n (j := 0) (i := 0) (pc := 17) D_M_node_17 rfl) D_M_node_18 ⟨rfl, rfl, by decide, q_979⟩ (fun _ _ => rfl)) (Lead.goto (K := K_M_node) (pc := 21) (tgt := 25) D_M_node_21 rfl) (EJ_iconst (n := -1) (v := (-1)) (pc := 24) D_M_node_24 (by decide +kernel))) D_M_node_25) SJ_sk)
 (SJ_ret (p0 := 26) (p1 := 59) (EJ_if (p0 := 26) (pT := 44) (pF := 58) (pE := 55) (p1 := 59) (CJ_and (p0 := 26) (pM := 34) (pT := 44) (pF := 58) (CZ_ne' (off := 27) (tgt := 58) (p0 := 26) (p1 := 31) (EJ_callV (t := 13) (c := 12) (r := (RX12, TX12, 52)) (p0 := 26) (p1 := 27) (p2 := 28) (EJ_aload_n (j := 0) (i := 0) (pc := 26) D_M_node_26 rfl) (AJ_I (p0 := 27) (p1 := 28) (p2 := 28) (EJ_iload_n (j := 1) (i := 1) (pc := 27) D_M_node_27 rfl) AJ_nil) m_M_hasNode E1_I D_M_node_28 rfl rfl rfl q_1334 q_1335 q_87 q_97 ⟨by decide +kernel, by decide +kernel, by decide +kernel⟩ (by decide) (show 209 + 1 ≤ 210 from by decide) (show ∀ x_ ∈ ([13, 79, 80, 81, 82, 83, 84, 85, 87, 88, 89, 92, 93, 94, 95, 96, 97, 98, 99, 100, 101] : List Nat), x_ ∈ ([13, 79, 80, 81, 82, 83, 84, 85, 87, 88, 89, 92, 93, 94, 95, 96, 97, 98, 99, 100, 101] : List Nat) from by decide)) D_M_node_31 rfl) (CZ_ne' (off := 17) (tgt := 58) (p0 := 34) (p1 := 41) (EJ_callS (p0 := 34) (p1 := 38) (AJ_I (p0 := 34) (p1 := 35) (p2 := 38) (EJ_iload_n (j := 2) (i := 2) (pc := 34) D_M_node_34 rfl) (AJ_I (p0 := 35) (p1 := 36) (p2 := 38) (EJ_iconst (n := 0) (v := (nI 0)) (pc := 35) D_M_node_35 (by decide +kernel)) (AJ_I (p0 := 36) (p1 := 38) (p2 := 38) (EJ_bipush (n := 7) (v := (nI 7)) (pc := 36) D_M_node_36 (by decide +kernel)) AJ_nil))) m_M_in E1_I D_M_node_38 q_1071 q_1072 q_97 ⟨by decide +kernel, by decide +kernel, by decide +kernel⟩ (by decide) (show 1 + 1 ≤ 210 from by decide) (fun _ h => absurd h List.not_mem_nil)) D_M_node_41 rfl)) (EJ_iald (p0 := 44) (p1 := 48) (p2 := 54) (EJ_getR (t := 13) (c := 12) (kf := 45) (r := (RX12, TX12, 52)) (p0 := 44) (p1 := 45) (EJ_aload_n (j := 0) (i := 0) (pc := 44) D_M_node_44 rfl) D_M_node_45 ⟨rfl, rfl, by decide, q_977⟩ (fun _ _ => rfl)) (EJ_iadd (p0 := 48) (p1 := 52) (p2 := 53) (EJ_imul (p0 := 48) (p1 := 50) (p2 := 51) (EJ_bipush (n := 12) (v := (nI 12)) (pc := 48) D_M_node_48 (by decide +kernel)) (EJ_iload_n (j := 1) (i := 1) (pc := 50) D_M_node_50 rfl) D_M_node_51) (EJ_iload_n (j := 2) (i := 2) (pc := 52) D_M_node_52 rfl) D_M_node_53) D_M_node_54) (Lead.goto (K := K_M_node) (pc := 55) (tgt := 59) D_M_node_55 rfl) (EJ_iconst (n := -1) (v := (-1)) (pc := 58) D_M_node_58 (by decide +kernel))) D_M_node_59))
 RTm_int q_1333 (by decide +kernel) rfl (fun h => by cases h) (show 3 ≤ 40 from by decide) (fun _ => trivial)
theorem D_M_isRight_0 : decode cX12_isRight 0 = .ok (.aload_n 0, 1) := by decide +kernel
theorem D_M_isRight_1 : decode cX12_isRight 1 = .ok (.getfield 127, 3) := by decide +kernel
theorem D_M_isRight_4 : decode cX12_isRight 4 = .ok (.iconst (-1), 1) := by decide +kernel
theorem D_M_isRight_5 : decode cX12_isRight 5 = .ok (.if_icmp .ne (7), 3) := by decide +kernel
theorem D_M_isRight_8 : decode cX12_isRight 8 = .ok (.iconst (1), 1) := by decide +kernel
theorem D_M_isRight_9 : decode cX12_isRight 9 = .ok (.goto (4), 3) := by decide +kernel
theorem D_M_isRight_12 : decode cX12_isRight 12 = .ok (.iconst (0), 1) := by decide +kernel
theorem D_M_isRight_13 : decode cX12_isRight 13 = .ok (.ireturn, 1) := by decide +kernel
def K_M_isRight : SC := (cX12_isRight, "TwoLevelsModel", 1, 1, false, [], NoQ)
def d_M_isRight : MD Int32 := mth zz 1 (rtn (eIf (eh2 c_eq (eh1 (gI 13 9) (lR 0)) (eC (-1))) (eC (nI 1)) (eC (nI 0))))
theorem m_M_isRight : MJ 1 [] yX12_isRight (some .boolean) eI (d_M_isRight) := MJ_of (K := K_M_isRight) (ri := .ireturn) (n1 := 0) (n2 := 0) (n3 := 0)
 (SJ_ret (p0 := 0) (p1 := 13) (EJ_if (p0 := 0) (pT := 8) (pF := 12) (pE := 9) (p1 := 13) (CJ_eq' (off := 7) (tgt := 12) (p0 := 0) (p1 := 4) (p2 := 5) (EJ_getI (t := 13) (c := 12) (kf := 9) (r := (RX12, TX12, 52)) (p0 := 0) (p1 := 1) (EJ_aload_n (j := 0) (i := 0) (pc := 0) D_M_isRight_0 rfl) D_M_isRight_1 ⟨rfl, rfl, by decide, q_941⟩ (fun _ _ => rfl)) (EJ_iconst (n := -1) (v := (-1)) (pc := 4) D_M_isRight_4 (by decide +kernel)) D_M_isRight_5 rfl) (EJ_iconst (n := 1) (v := (nI 1)) (pc := 8) D_M_isRight_8 (by decide +kernel)) (Lead.goto (K := K_M_isRight) (pc := 9) (tgt := 13) D_M_isRight_9 rfl) (EJ_iconst (n := 0) (v := (nI 0)) (pc := 12) D_M_isRight_12 (by decide +kernel))) D_M_isRight_13)
 RTm_bool q_1064 (by decide +kernel) rfl (fun h => by cases h) (show 1 ≤ 40 from by decide) (fun _ => trivial)
theorem D_M_fails_0 : decode cX12_fails 0 = .ok (.aload_n 0, 1) := by decide +kernel
theorem D_M_fails_1 : decode cX12_fails 1 = .ok (.invokevirtual 130, 3) := by decide +kernel
theorem D_M_fails_4 : decode cX12_fails 4 = .ok (.ifCond .eq (13), 3) := by decide +kernel
theorem D_M_fails_7 : decode cX12_fails 7 = .ok (.aload_n 0, 1) := by decide +kernel
theorem D_M_fails_8 : decode cX12_fails 8 = .ok (.bipush (8), 2) := by decide +kernel
theorem D_M_fails_10 : decode cX12_fails 10 = .ok (.iload_n 2, 1) := by decide +kernel
theorem D_M_fails_11 : decode cX12_fails 11 = .ok (.imul, 1) := by decide +kernel
theorem D_M_fails_12 : decode cX12_fails 12 = .ok (.iload_n 1, 1) := by decide +kernel
theorem D_M_fails_13 : decode cX12_fails 13 = .ok (.iadd, 1) := by decide +kernel
theorem D_M_fails_14 : decode cX12_fails 14 = .ok (.putfield 127, 3) := by decide +kernel
theorem D_M_fails_17 : decode cX12_fails 17 = .ok (.return_, 1) := by decide +kernel
def K_M_fails : SC := (cX12_fails, "TwoLevelsModel", 3, 2, false, [13], NoQ)
def d_M_fails : MD Unit := mth tt 3 (sq (sIf (eh1 z_ne (kV 13 d_M_isRight (lR 0) [])) (sh2 (pI false 13 9) (lR 0) (eh2 iaddF (eh2 imulF (eC (nI 8)) (lI 2)) (lI 1))) sk)
 rtnU)
theorem m_M_fails : MJ 2 [13] yX12_fails none eU (d_M_fails) := MJ_of (K := K_M_fails) (ri := .return_) (n1 := 0) (n2 := 0) (n3 := 0)
 (SJ_sq (p0 := 0) (p1 := 17) (nN := 0) (nB := 0) (nC := 0) (SJ_if (p0 := 0) (pT := 7) (pF := 17) (nN := 17) (nB := 0) (nC := 0) (CZ_ne' (off := 13) (tgt := 17) (p0 := 0) (p1 := 4) (EJ_callV (t := 13) (c := 12) (r := (RX12, TX12, 52)) (p0 := 0) (p1 := 1) (p2 := 1) (EJ_aload_n (j := 0) (i := 0) (pc := 0) D_M_fails_0 rfl) AJ_nil m_M_isRight E1_I D_M_fails_1 rfl rfl rfl q_1062 q_1063 q_40 q_97 ⟨by decide +kernel, by decide +kernel, by decide +kernel⟩ (by decide) (show 1 + 1 ≤ 2 from by decide) (fun _ h => absurd h List.not_mem_nil)) D_M_fails_4 rfl) (SJ_putI (z := false) (t := 13) (c := 12) (kf := 9) (r := (RX12, TX12, 52)) (p0 := 7) (p1 := 8) (p2 := 14) (EJ_aload_n (j := 0) (i := 0) (pc := 7) D_M_fails_7 rfl) (EJ_iadd (p0 := 8) (p1 := 12) (p2 := 13) (EJ_imul (p0 := 8) (p1 := 10) (p2 := 11) (EJ_bipush (n := 8) (v := (nI 8)) (pc := 8) D_M_fails_8 (by decide +kernel)) (EJ_iload_n (j := 2) (i := 2) (pc := 10) D_M_fails_10 rfl) D_M_fails_11) (EJ_iload_n (j := 1) (i := 1) (pc := 12) D_M_fails_12 rfl) D_M_fails_13) D_M_fails_14 ⟨rfl, rfl, by decide, q_941⟩ (Or.inl rfl) (fun _ _ => ⟨rfl, rfl⟩) (fun _ _ => rfl) (show (13 : Nat) ∈ ([13] : List Nat) from by decide)) SJ_sk)
 (SJ_retU (pc := 17) D_M_fails_17))
 RTm_void q_1079 (by decide +kernel) rfl (fun h => by cases h) (show 3 ≤ 40 from by decide) (fun _ => trivial)
theorem D_M_notion_0 : decode cX12_notion 0 = .ok (.aload_n 0, 1) := by decide +kernel
theorem D_M_notion_1 : decode cX12_notion 1 = .ok (.iconst (-1), 1) := by decide +kernel
theorem D_M_notion_2 : decode cX12_notion 2 = .ok (.putfield 127, 3) := by decide +kernel
theorem D_M_notion_5 : decode cX12_notion 5 = .ok (.iconst (0), 1) := by decide +kernel
theorem D_M_notion_6 : decode cX12_notion 6 = .ok (.istore_n 1, 1) := by decide +kernel
theorem D_M_notion_7 : decode cX12_notion 7 = .ok (.iconst (0), 1) := by decide +kernel
theorem D_M_notion_8 : decode cX12_notion 8 = .ok (.istore_n 2, 1) := by decide +kernel
theorem D_M_notion_9 : decode cX12_notion 9 = .ok (.iload_n 2, 1) := by decide +kernel
theorem D_M_notion_10 : decode cX12_notion 10 = .ok (.aload_n 0, 1) := by decide +kernel
theorem D_M_notion_11 : decode cX12_notion 11 = .ok (.getfield 112, 3) := by decide +kernel
theorem D_M_notion_14 : decode cX12_notion 14 = .ok (.if_icmp .ge (67), 3) := by decide +kernel
theorem D_M_notion_17 : decode cX12_notion 17 = .ok (.aload_n 0, 1) := by decide +kernel
theorem D_M_notion_18 : decode cX12_notion 18 = .ok (.invokevirtual 130, 3) := by decide +kernel
theorem D_M_notion_21 : decode cX12_notion 21 = .ok (.ifCond .eq (60), 3) := by decide +kernel
theorem D_M_notion_24 : decode cX12_notion 24 = .ok (.aload_n 0, 1) := by decide +kernel
theorem D_M_notion_25 : decode cX12_notion 25 = .ok (.getfield 26, 3) := by decide +kernel
theorem D_M_notion_28 : decode cX12_notion 28 = .ok (.iload_n 2, 1) := by decide +kernel
theorem D_M_notion_29 : decode cX12_notion 29 = .ok (.baload, 1) := by decide +kernel
theorem D_M_notion_30 : decode cX12_notion 30 = .ok (.invokestatic 137, 3) := by decide +kernel
theorem D_M_notion_33 : decode cX12_notion 33 = .ok (.ifCond .ne (12), 3) := by decide +kernel
theorem D_M_notion_36 : decode cX12_notion 36 = .ok (.aload_n 0, 1) := by decide +kernel
theorem D_M_notion_37 : decode cX12_notion 37 = .ok (.iconst (1), 1) := by decide +kernel
theorem D_M_notion_38 : decode cX12_notion 38 = .ok (.iload_n 2, 1) := by decide +kernel
theorem D_M_notion_39 : decode cX12_notion 39 = .ok (.invokevirtual 154, 3) := by decide +kernel
theorem D_M_notion_42 : decode cX12_notion 42 = .ok (.goto (33), 3) := by decide +kernel
theorem D_M_notion_45 : decode cX12_notion 45 = .ok (.iload_n 1, 1) := by decide +kernel
theorem D_M_notion_46 : decode cX12_notion 46 = .ok (.bipush (10), 2) := by decide +kernel
theorem D_M_notion_48 : decode cX12_notion 48 = .ok (.if_icmp .ne (12), 3) := by decide +kernel
theorem D_M_notion_51 : decode cX12_notion 51 = .ok (.aload_n 0, 1) := by decide +kernel
theorem D_M_notion_52 : decode cX12_notion 52 = .ok (.iconst (2), 1) := by decide +kernel
theorem D_M_notion_53 : decode cX12_notion 53 = .ok (.iload_n 2, 1) := by decide +kernel
theorem D_M_notion_54 : decode cX12_notion 54 = .ok (.invokevirtual 154, 3) := by decide +kernel
theorem D_M_notion_57 : decode cX12_notion 57 = .ok (.goto (18), 3) := by decide +kernel
theorem D_M_notion_60 : decode cX12_notion 60 = .ok (.aload_n 0, 1) := by decide +kernel
theorem D_M_notion_61 : decode cX12_notion 61 = .ok (.getfield 36, 3) := by decide +kernel
theorem D_M_notion_64 : decode cX12_notion 64 = .ok (.iload_n 1, 1) := by decide +kernel
theorem D_M_notion_65 : decode cX12_notion 65 = .ok (.aload_n 0, 1) := by decide +kernel
theorem D_M_notion_66 : decode cX12_notion 66 = .ok (.getfield 26, 3) := by decide +kernel
theorem D_M_notion_69 : decode cX12_notion 69 = .ok (.iload_n 2, 1) := by decide +kernel
theorem D_M_notion_70 : decode cX12_notion 70 = .ok (.baload, 1) := by decide +kernel
theorem D_M_notion_71 : decode cX12_notion 71 = .ok (.iastore, 1) := by decide +kernel
theorem D_M_notion_72 : decode cX12_notion 72 = .ok (.iinc 1 (1), 3) := by decide +kernel
theorem D_M_notion_75 : decode cX12_notion 75 = .ok (.iinc 2 (1), 3) := by decide +kernel
theorem D_M_notion_78 : decode cX12_notion 78 = .ok (.goto (-69), 3) := by decide +kernel
theorem D_M_notion_81 : decode cX12_notion 81 = .ok (.aload_n 0, 1) := by decide +kernel
theorem D_M_notion_82 : decode cX12_notion 82 = .ok (.iconst (0), 1) := by decide +kernel
theorem D_M_notion_83 : decode cX12_notion 83 = .ok (.putfield 112, 3) := by decide +kernel
theorem D_M_notion_86 : decode cX12_notion 86 = .ok (.aload_n 0, 1) := by decide +kernel
theorem D_M_notion_87 : decode cX12_notion 87 = .ok (.invokevirtual 130, 3) := by decide +kernel
theorem D_M_notion_90 : decode cX12_notion 90 = .ok (.ifCond .ne (11), 3) := by decide +kernel
theorem D_M_notion_93 : decode cX12_notion 93 = .ok (.bipush (-2), 2) := by decide +kernel
theorem D_M_notion_95 : decode cX12_notion 95 = .ok (.aload_n 0, 1) := by decide +kernel
theorem D_M_notion_96 : decode cX12_notion 96 = .ok (.getfield 127, 3) := by decide +kernel
theorem D_M_notion_99 : decode cX12_notion 99 = .ok (.isub, 1) := by decide +kernel
theorem D_M_notion_100 : decode cX12_notion 100 = .ok (.ireturn, 1) := by decide +kernel
theorem D_M_notion_101 : decode cX12_notion 101 = .ok (.aload_n 0, 1) := by decide +kernel
theorem D_M_notion_102 : decode cX12_notion 102 = .ok (.getfield 9, 3) := by decide +kernel
theorem D_M_notion_105 : decode cX12_notion 105 = .ok (.sipush (1584), 3) := by decide +kernel
theorem D_M_notion_108 : decode cX12_notion 108 = .ok (.iload_n 1, 1) := by decide +kernel
theorem D_M_notion_109 : decode cX12_notion 109 = .ok (.iastore, 1) := by decide +kernel
theorem D_M_notion_110 : decode cX12_notion 110 = .ok (.aload_n 0, 1) := by decide +kernel
theorem D_M_notion_111 : decode cX12_notion 111 = .ok (.getfield 36, 3) := by decide +kernel
theorem D_M_notion_114 : decode cX12_notion 114 = .ok (.iconst (0), 1) := by decide +kernel
theorem D_M_notion_115 : decode cX12_notion 115 = .ok (.aload_n 0, 1) := by decide +kernel
theorem D_M_notion_116 : decode cX12_notion 116 = .ok (.getfield 9, 3) := by decide +kernel
theorem D_M_notion_119 : decode cX12_notion 119 = .ok (.sipush (1585), 3) := by decide +kernel
theorem D_M_notion_122 : decode cX12_notion 122 = .ok (.iload_n 1, 1) := by decide +kernel
theorem D_M_notion_123 : decode cX12_notion 123 = .ok (.invokestatic 179, 3) := by decide +kernel
theorem D_M_notion_126 : decode cX12_notion 126 = .ok (.aload_n 0, 1) := by decide +kernel
theorem D_M_notion_127 : decode cX12_notion 127 = .ok (.invokevirtual 201, 3) := by decide +kernel
theorem D_M_notion_130 : decode cX12_notion 130 = .ok (.iload_n 1, 1) := by decide +kernel
theorem D_M_notion_131 : decode cX12_notion 131 = .ok (.ireturn, 1) := by decide +kernel
def K_M_notion : SC := (cX12_notion, "TwoLevelsModel", 3, 3, false, [13, 70, 71, 72, 73, 78], NoQ)
def d_M_notion : MD Int32 := mth tt 3 (sq (sh2 (pI false 13 9) (lR 0) (eC (-1)))
 (sq (sI1 1 (eC (nI 0)))
 (sq (sq (sI1 2 (eC (nI 0)))
 (loop (cAnd (eh2 c_lt (lI 2) (eh1 (gI 13 7) (lR 0))) (eh1 z_ne (kV 13 d_M_isRight (lR 0) [])))
 (sIf (cNot (eh1 z_ne (kS d_M_isSmall [vI (eh2 (aI .byte) (eh1 (gR 13 6) (lR 0)) (lI 2))]))) (sE (kV 13 d_M_fails (lR 0) [vI (eC (nI 1)), vI (lI 2)])) (sIf (eh2 c_eq (lI 1) (eC (nI 10))) (sE (kV 13 d_M_fails (lR 0) [vI (eC (nI 2)), vI (lI 2)])) (sq (sh3 (stI [78]) (eh1 (gR 13 14) (lR 0)) (lI 1) (eh2 (aI .byte) (eh1 (gR 13 6) (lR 0)) (lI 2)))
 (sInc 1 (nI 1)))))
 (sInc 2 (nI 1))))
 (sq (sh2 (pI false 13 7) (lR 0) (eC (nI 0)))
 (sq (sIf (cNot (eh1 z_ne (kV 13 d_M_isRight (lR 0) []))) (rtn (eh2 isubF (eC (-2)) (eh1 (gI 13 9) (lR 0)))) sk)
 (sq (sh3 (stI [70]) (eh1 (gR 13 0) (lR 0)) (eC (nI 1584)) (lI 1))
 (sq (sE (kS d_M_moves [vR (eh1 (gR 13 14) (lR 0)), vI (eC (nI 0)), vR (eh1 (gR 13 0) (lR 0)), vI (eC (nI 1585)), vI (lI 1)]))
 (sq (sE (kV 13 d_M_changes (lR 0) []))
 (rtn (lI 1))))))))))
theorem m_M_notion : MJ 3 [13, 70, 71, 72, 73, 78] yX12_notion (some .int) eI (d_M_notion) := MJ_of (K := K_M_notion) (ri := .ireturn) (n1 := 0) (n2 := 0) (n3 := 0)
 (SJ_sq (p0 := 0) (p1 := 5) (nN := 0) (nB := 0) (nC := 0) (SJ_putI (z := false) (t := 13) (c := 12) (kf := 9) (r := (RX12, TX12, 52)) (p0 := 0) (p1 := 1) (p2 := 2) (EJ_aload_n (j := 0) (i := 0) (pc := 0) D_M_notion_0 rfl) (EJ_iconst (n := -1) (v := (-1)) (pc := 1) D_M_notion_1 (by decide +kernel)) D_M_notion_2 ⟨rfl, rfl, by decide, q_941⟩ (Or.inl rfl) (fun _ _ => ⟨rfl, rfl⟩) (fun _ _ => rfl) (show (13 : Nat) ∈ ([13, 70, 71, 72, 73, 78] : List Nat) from by decide))
 (SJ_sq (p0 := 5) (p1 := 7) (nN := 0) (nB := 0) (nC := 0) (SJ_istore_n (i := 1) (j := 1) (p0 := 5) (p1 := 6) (EJ_iconst (n := 0) (v := (nI 0)) (pc := 5) D_M_notion_5 (by decide +kernel)) D_M_notion_6 rfl)
 (SJ_sq (p0 := 7) (p1 := 81) (nN := 0) (nB := 0) (nC := 0) (SJ_sq (p0 := 7) (p1 := 9) (nN := 81) (nB := 0) (nC := 0) (SJ_istore_n (i := 2) (j := 2) (p0 := 7) (p1 := 8) (EJ_iconst (n := 0) (v := (nI 0)) (pc := 7) D_M_notion_7 (by decide +kernel)) D_M_notion_8 rfl)
 (SJ_loop (p0 := 9) (pB := 24) (pS := 75) (pE := 81) (CJ_and (p0 := 9) (pM := 17) (pT := 24) (pF := 81) (CJ_lt' (off := 67) (tgt := 81) (p0 := 9) (p1 := 10) (p2 := 14) (EJ_iload_n (j := 2) (i := 2) (pc := 9) D_M_notion_9 rfl) (EJ_getI (t := 13) (c := 12) (kf := 7) (r := (RX12, TX12, 52)) (p0 := 10) (p1 := 11) (EJ_aload_n (j := 0) (i := 0) (pc := 10) D_M_notion_10 rfl) D_M_notion_11 ⟨rfl, rfl, by decide, q_939⟩ (fun _ _ => rfl)) D_M_notion_14 rfl) (CZ_ne' (off := 60) (tgt := 81) (p0 := 17) (p1 := 21) (EJ_callV (t := 13) (c := 12) (r := (RX12, TX12, 52)) (p0 := 17) (p1 := 18) (p2 := 18) (EJ_aload_n (j := 0) (i := 0) (pc := 17) D_M_notion_17 rfl) AJ_nil m_M_isRight E1_I D_M_notion_18 rfl rfl rfl q_1062 q_1063 q_40 q_97 ⟨by decide +kernel, by decide +kernel, by decide +kernel⟩ (by decide) (show 1 + 1 ≤ 3 from by decide) (fun _ h => absurd h List.not_mem_nil)) D_M_notion_21 rfl))
 (SJ_if (p0 := 24) (pT := 36) (pF := 45) (nN := 75) (nB := 81) (nC := 75) (CJ_not (p0 := 24) (pT := 36) (pF := 45) (CZ_ne (off := 12) (tgt := 45) (p0 := 24) (p1 := 33) (EJ_callS (p0 := 24) (p1 := 30) (AJ_I (p0 := 24) (p1 := 30) (p2 := 30) (EJ_bald (p0 := 24) (p1 := 28) (p2 := 29) (EJ_getR (t := 13) (c := 12) (kf := 6) (r := (RX12, TX12, 52)) (p0 := 24) (p1 := 25) (EJ_aload_n (j := 0) (i := 0) (pc := 24) D_M_notion_24 rfl) D_M_notion_25 ⟨rfl, rfl, by decide, q_938⟩ (fun _ _ => rfl)) (EJ_iload_n (j := 2) (i := 2) (pc := 28) D_M_notion_28 rfl) D_M_notion_29) AJ_nil) m_M_isSmall E1_I D_M_notion_30 q_1068 q_1069 q_97 ⟨by decide +kernel, by decide +kernel, by decide +kernel⟩ (by decide) (show 2 + 1 ≤ 3 from by decide) (fun _ h => absurd h List.not_mem_nil)) D_M_notion_33 rfl)) (SJ_post (SJ_void (p0 := 36) (p1 := 42) (EJ_callV (t := 13) (c := 12) (r := (RX12, TX12, 52)) (p0 := 36) (p1 := 37) (p2 := 39) (EJ_aload_n (j := 0) (i := 0) (pc := 36) D_M_notion_36 rfl) (AJ_I (p0 := 37) (p1 := 38) (p2 := 39) (EJ_iconst (n := 1) (v := (nI 1)) (pc := 37) D_M_notion_37 (by decide +kernel)) (AJ_I (p0 := 38) (p1 := 39) (p2 := 39) (EJ_iload_n (j := 2) (i := 2) (pc := 38) D_M_notion_38 rfl) AJ_nil)) m_M_fails E1_U D_M_notion_39 rfl rfl rfl q_1077 q_1078 q_42 q_97 ⟨by decide +kernel, by decide +kernel, by decide +kernel⟩ (by decide) (show 2 + 1 ≤ 3 from by decide) (show ∀ x_ ∈ ([13] : List Nat), x_ ∈ ([13, 70, 71, 72, 73, 78] : List Nat) from by decide))) (Lead.goto (K := K_M_notion) (pc := 42) (tgt := 75) D_M_notion_42 rfl)) (SJ_if (p0 := 45) (pT := 51) (pF := 60) (nN := 75) (nB := 81) (nC := 75) (CJ_eq' (off := 12) (tgt := 60) (p0 := 45) (p1 := 46) (p2 := 48) (EJ_iload_n (j := 1) (i := 1) (pc := 45) D_M_notion_45 rfl) (EJ_bipush (n := 10) (v := (nI 10)) (pc := 46) D_M_notion_46 (by decide +kernel)) D_M_notion_48 rfl) (SJ_post (SJ_void (p0 := 51) (p1 := 57) (EJ_callV (t := 13) (c := 12) (r := (RX12, TX12, 52)) (p0 := 51) (p1 := 52) (p2 := 54) (EJ_aload_n (j := 0) (i := 0) (pc := 51) D_M_notion_51 rfl) (AJ_I (p0 := 52) (p1 := 53) (p2 := 54) (EJ_iconst (n := 2) (v := (nI 2)) (pc := 52) D_M_notion_52 (by decide +kernel)) (AJ_I (p0 := 53) (p1 := 54) (p2 := 54) (EJ_iload_n (j := 2) (i := 2) (pc := 53) D_M_notion_53 rfl) AJ_nil)) m_M_fails E1_U D_M_notion_54 rfl rfl rfl q_1077 q_1078 q_42 q_97 ⟨by decide +kernel, by decide +kernel, by decide +kernel⟩ (by decide) (show 2 + 1 ≤ 3 from by decide) (show ∀ x_ ∈ ([13] : List Nat), x_ ∈ ([13, 70, 71, 72, 73, 78] : List Nat) from by decide))) (Lead.goto (K := K_M_notion) (pc := 57) (tgt := 75) D_M_notion_57 rfl)) (SJ_sq (p0 := 60) (p1 := 72) (nN := 75) (nB := 81) (nC := 75) (SJ_iast (ws := [78]) (p0 := 60) (p1 := 64) (p2 := 65) (p3 := 71) (EJ_getR (t := 13) (c := 12) (kf := 14) (r := (RX12, TX12, 52)) (p0 := 60) (p1 := 61) (EJ_aload_n (j := 0) (i := 0) (pc := 60) D_M_notion_60 rfl) D_M_notion_61 ⟨rfl, rfl, by decide, q_946⟩ (fun _ _ => rfl)) (EJ_iload_n (j := 1) (i := 1) (pc := 64) D_M_notion_64 rfl) (EJ_bald (p0 := 65) (p1 := 69) (p2 := 70) (EJ_getR (t := 13) (c := 12) (kf := 6) (r := (RX12, TX12, 52)) (p0 := 65) (p1 := 66) (EJ_aload_n (j := 0) (i := 0) (pc := 65) D_M_notion_65 rfl) D_M_notion_66 ⟨rfl, rfl, by decide, q_938⟩ (fun _ _ => rfl)) (EJ_iload_n (j := 2) (i := 2) (pc := 69) D_M_notion_69 rfl) D_M_notion_70) D_M_notion_71 (show ∀ x_ ∈ ([78] : List Nat), x_ ∈ ([13, 70, 71, 72, 73, 78] : List Nat) from by decide))
 (SJ_iinc (i := 1) (n := 1) (v := (nI 1)) (pc := 72) D_M_notion_72 (by decide +kernel)))))
 (SJ_post (SJ_iinc (i := 2) (n := 1) (v := (nI 1)) (pc := 75) D_M_notion_75 (by decide +kernel)) (Lead.goto (K := K_M_notion) (pc := 78) (tgt := 9) D_M_notion_78 rfl))))
 (SJ_sq (p0 := 81) (p1 := 86) (nN := 0) (nB := 0) (nC := 0) (SJ_putI (z := false) (t := 13) (c := 12) (kf := 7) (r := (RX12, TX12, 52)) (p0 := 81) (p1 := 82) (p2 := 83) (EJ_aload_n (j := 0) (i := 0) (pc := 81) D_M_notion_81 rfl) (EJ_iconst (n := 0) (v := (nI 0)) (pc := 82) D_M_notion_82 (by decide +kernel)) D_M_notion_83 ⟨rfl, rfl, by decide, q_939⟩ (Or.inl rfl) (fun _ _ => ⟨rfl, rfl⟩) (fun _ _ => rfl) (show (13 : Nat) ∈ ([13, 70, 71, 72, 73, 78] : List Nat) from by decide))
 (SJ_sq (p0 := 86) (p1 := 101) (nN := 0) (nB := 0) (nC := 0) (SJ_if (p0 := 86) (pT := 93) (pF := 101) (nN := 101) (nB := 0) (nC := 0) (CJ_not (p0 := 86) (pT := 93) (pF := 101) (CZ_ne (off := 11) (tgt := 101) (p0 := 86) (p1 := 90) (EJ_callV (t := 13) (c := 12) (r := (RX12, TX12, 52)) (p0 := 86) (p1 := 87) (p2 := 87) (EJ_aload_n (j := 0) (i := 0) (pc := 86) D_M_notion_86 rfl) AJ_nil m_M_isRight E1_I D_M_notion_87 rfl rfl rfl q_1062 q_1063 q_40 q_97 ⟨by decide +kernel, by decide +kernel, by decide +kernel⟩ (by decide) (show 1 + 1 ≤ 3 from by decide) (fun _ h => absurd h List.not_mem_nil)) D_M_notion_90 rfl)) (SJ_ret (p0 := 93) (p1 := 100) (EJ_isub (p0 := 93) (p1 := 95) (p2 := 99) (EJ_bipush (n := -2) (v := (-2)) (pc := 93) D_M_notion_93 (by decide +kernel)) (EJ_getI (t := 13) (c := 12) (kf := 9) (r := (RX12, TX12, 52)) (p0 := 95) (p1 := 96) (EJ_aload_n (j := 0) (i := 0) (pc := 95) D_M_notion_95 rfl) D_M_notion_96 ⟨rfl, rfl, by decide, q_941⟩ (fun _ _ => rfl)) D_M_notion_99) D_M_notion_100) SJ_sk)
 (SJ_sq (p0 := 101) (p1 := 110) (nN := 0) (nB := 0) (nC := 0) (SJ_iast (ws := [70]) (p0 := 101) (p1 := 105) (p2 := 108) (p3 := 109) (EJ_getR (t := 13) (c := 12) (kf := 0) (r := (RX12, TX12, 52)) (p0 := 101) (p1 := 102) (EJ_aload_n (j := 0) (i := 0) (pc := 101) D_M_notion_101 rfl) D_M_notion_102 ⟨rfl, rfl, by decide, q_932⟩ (fun _ _ => rfl)) (EJ_sipush (n := 1584) (v := (nI 1584)) (pc := 105) D_M_notion_105 (by decide +kernel)) (EJ_iload_n (j := 1) (i := 1) (pc := 108) D_M_notion_108 rfl) D_M_notion_109 (show ∀ x_ ∈ ([70] : List Nat), x_ ∈ ([13, 70, 71, 72, 73, 78] : List Nat) from by decide))
 (SJ_sq (p0 := 110) (p1 := 126) (nN := 0) (nB := 0) (nC := 0) (SJ_void (p0 := 110) (p1 := 126) (EJ_callS (p0 := 110) (p1 := 123) (AJ_R (p0 := 110) (p1 := 114) (p2 := 123) (EJ_getR (t := 13) (c := 12) (kf := 14) (r := (RX12, TX12, 52)) (p0 := 110) (p1 := 111) (EJ_aload_n (j := 0) (i := 0) (pc := 110) D_M_notion_110 rfl) D_M_notion_111 ⟨rfl, rfl, by decide, q_946⟩ (fun _ _ => rfl)) (AJ_I (p0 := 114) (p1 := 115) (p2 := 123) (EJ_iconst (n := 0) (v := (nI 0)) (pc := 114) D_M_notion_114 (by decide +kernel)) (AJ_R (p0 := 115) (p1 := 119) (p2 := 123) (EJ_getR (t := 13) (c := 12) (kf := 0) (r := (RX12, TX12, 52)) (p0 := 115) (p1 := 116) (EJ_aload_n (j := 0) (i := 0) (pc := 115) D_M_notion_115 rfl) D_M_notion_116 ⟨rfl, rfl, by decide, q_932⟩ (fun _ _ => rfl)) (AJ_I (p0 := 119) (p1 := 122) (p2 := 123) (EJ_sipush (n := 1585) (v := (nI 1585)) (pc := 119) D_M_notion_119 (by decide +kernel)) (AJ_I (p0 := 122) (p1 := 123) (p2 := 123) (EJ_iload_n (j := 1) (i := 1) (pc := 122) D_M_notion_122 rfl) AJ_nil))))) m_M_moves E1_U D_M_notion_123 q_1098 q_1099 q_97 ⟨by decide +kernel, by decide +kernel, by decide +kernel⟩ (by decide) (show 1 + 1 ≤ 3 from by decide) (show ∀ x_ ∈ ([70, 71, 72, 73] : List Nat), x_ ∈ ([13, 70, 71, 72, 73, 78] : List Nat) from by decide)))
 (SJ_sq (p0 := 126) (p1 := 130) (nN := 0) (nB := 0) (nC := 0) (SJ_void (p0 := 126) (p1 := 130) (EJ_callV (t := 13) (c := 12) (r := (RX12, TX12, 52)) (p0 := 126) (p1 := 127) (p2 := 127) (EJ_aload_n (j := 0) (i := 0) (pc := 126) D_M_notion_126 rfl) AJ_nil m_M_changes E1_U D_M_notion_127 rfl rfl rfl q_1113 q_1114 q_52 q_97 ⟨by decide +kernel, by decide +kernel, by decide +kernel⟩ (by decide) (show 1 + 1 ≤ 3 from by decide) (show ∀ x_ ∈ ([13] : List Nat), x_ ∈ ([13, 70, 71, 72, 73, 78] : List Nat) from by decide)))
 (SJ_ret (p0 := 130) (p1 := 131) (EJ_iload_n (j := 1) (i := 1) (pc := 130) D_M_notion_130 rfl) D_M_notion_131)))))))))
 RTm_int q_1119 (by decide +kernel) rfl (fun h => by cases h) (show 3 ≤ 40 from by decide) (fun _ => trivial)
theorem D_M_headMetas_0 : decode cX12_headMetas 0 = .ok (.iconst (0), 1) := by decide +kernel
theorem D_M_headMetas_1 : decode cX12_headMetas 1 = .ok (.istore_n 2, 1) := by decide +kernel
theorem D_M_headMetas_2 : decode cX12_headMetas 2 = .ok (.iconst (1), 1) := by decide +kernel
theorem D_M_headMetas_3 : decode cX12_headMetas 3 = .ok (.istore_n 3, 1) := by decide +kernel
theorem D_M_headMetas_4 : decode cX12_headMetas 4 = .ok (.iload_n 3, 1) := by decide +kernel
theorem D_M_headMetas_5 : decode cX12_headMetas 5 = .ok (.aload_n 0, 1) := by decide +kernel
theorem D_M_headMetas_6 : decode cX12_headMetas 6 = .ok (.getfield 9, 3) := by decide +kernel
theorem D_M_headMetas_9 : decode cX12_headMetas 9 = .ok (.iload_n 1, 1) := by decide +kernel
theorem D_M_headMetas_10 : decode cX12_headMetas 10 = .ok (.invokestatic 255, 3) := by decide +kernel
theorem D_M_headMetas_13 : decode cX12_headMetas 13 = .ok (.iaload, 1) := by decide +kernel
theorem D_M_headMetas_14 : decode cX12_headMetas 14 = .ok (.if_icmp .gt (44), 3) := by decide +kernel
theorem D_M_headMetas_17 : decode cX12_headMetas 17 = .ok (.aload_n 0, 1) := by decide +kernel
theorem D_M_headMetas_18 : decode cX12_headMetas 18 = .ok (.getfield 9, 3) := by decide +kernel
theorem D_M_headMetas_21 : decode cX12_headMetas 21 = .ok (.iload_n 1, 1) := by decide +kernel
theorem D_M_headMetas_22 : decode cX12_headMetas 22 = .ok (.invokestatic 255, 3) := by decide +kernel
theorem D_M_headMetas_25 : decode cX12_headMetas 25 = .ok (.iload_n 3, 1) := by decide +kernel
theorem D_M_headMetas_26 : decode cX12_headMetas 26 = .ok (.iadd, 1) := by decide +kernel
theorem D_M_headMetas_27 : decode cX12_headMetas 27 = .ok (.iaload, 1) := by decide +kernel
theorem D_M_headMetas_28 : decode cX12_headMetas 28 = .ok (.istore 4, 2) := by decide +kernel
theorem D_M_headMetas_30 : decode cX12_headMetas 30 = .ok (.iload_n 2, 1) := by decide +kernel
theorem D_M_headMetas_31 : decode cX12_headMetas 31 = .ok (.iload 4, 2) := by decide +kernel
theorem D_M_headMetas_33 : decode cX12_headMetas 33 = .ok (.invokestatic 141, 3) := by decide +kernel
theorem D_M_headMetas_36 : decode cX12_headMetas 36 = .ok (.ifCond .eq (13), 3) := by decide +kernel
theorem D_M_headMetas_39 : decode cX12_headMetas 39 = .ok (.iconst (1), 1) := by decide +kernel
theorem D_M_headMetas_40 : decode cX12_headMetas 40 = .ok (.iload 4, 2) := by decide +kernel
theorem D_M_headMetas_42 : decode cX12_headMetas 42 = .ok (.bipush (65), 2) := by decide +kernel
theorem D_M_headMetas_44 : decode cX12_headMetas 44 = .ok (.isub, 1) := by decide +kernel
theorem D_M_headMetas_45 : decode cX12_headMetas 45 = .ok (.ishl, 1) := by decide +kernel
theorem D_M_headMetas_46 : decode cX12_headMetas 46 = .ok (.goto (4), 3) := by decide +kernel
theorem D_M_headMetas_49 : decode cX12_headMetas 49 = .ok (.iconst (0), 1) := by decide +kernel
theorem D_M_headMetas_50 : decode cX12_headMetas 50 = .ok (.ior, 1) := by decide +kernel
theorem D_M_headMetas_51 : decode cX12_headMetas 51 = .ok (.istore_n 2, 1) := by decide +kernel
theorem D_M_headMetas_52 : decode cX12_headMetas 52 = .ok (.iinc 3 (1), 3) := by decide +kernel
theorem D_M_headMetas_55 : decode cX12_headMetas 55 = .ok (.goto (-51), 3) := by decide +kernel
theorem D_M_headMetas_58 : decode cX12_headMetas 58 = .ok (.iload_n 2, 1) := by decide +kernel
theorem D_M_headMetas_59 : decode cX12_headMetas 59 = .ok (.ireturn, 1) := by decide +kernel
def K_M_headMetas : SC := (cX12_headMetas, "TwoLevelsModel", 5, 3, false, [], NoQ)
def d_M_headMetas : MD Int32 := mth tt 5 (sq (sI1 2 (eC (nI 0)))
 (sq (sq (sI1 3 (eC (nI 1)))
 (loop (eh2 c_le (lI 3) (eh2 (aI .int) (eh1 (gR 13 0) (lR 0)) (kS d_M_ruleAt [vI (lI 1)])))
 (sq (sI1 4 (eh2 (aI .int) (eh1 (gR 13 0) (lR 0)) (eh2 iaddF (kS d_M_ruleAt [vI (lI 1)]) (lI 3))))
 (sI1 2 (eh2 iorF (lI 2) (eIf (eh1 z_ne (kS d_M_isCapital [vI (lI 4)])) (eh2 ishlF (eC (nI 1)) (eh2 isubF (lI 4) (eC (nI 65)))) (eC (nI 0))))))
 (sInc 3 (nI 1))))
 (rtn (lI 2))))
theorem m_M_headMetas : MJ 3 [] yX12_headMetas (some .int) eI (d_M_headMetas) := MJ_of (K := K_M_headMetas) (ri := .ireturn) (n1 := 0) (n2 := 0) (n3 := 0)
 (SJ_sq (p0 := 0) (p1 := 2) (nN := 0) (nB := 0) (nC := 0) (SJ_istore_n (i := 2) (j := 2) (p0 := 0) (p1 := 1) (EJ_iconst (n := 0) (v := (nI 0)) (pc := 0) D_M_headMetas_0 (by decide +kernel)) D_M_headMetas_1 rfl)
 (SJ_sq (p0 := 2) (p1 := 58) (nN := 0) (nB := 0) (nC := 0) (SJ_sq (p0 := 2) (p1 := 4) (nN := 58) (nB := 0) (nC := 0) (SJ_istore_n (i := 3) (j := 3) (p0 := 2) (p1 := 3) (EJ_iconst (n := 1) (v := (nI 1)) (pc := 2) D_M_headMetas_2 (by decide +kernel)) D_M_headMetas_3 rfl)
 (SJ_loop (p0 := 4) (pB := 17) (pS := 52) (pE := 58) (CJ_le' (off := 44) (tgt := 58) (p0 := 4) (p1 := 5) (p2 := 14) (EJ_iload_n (j := 3) (i := 3) (pc := 4) D_M_headMetas_4 rfl) (EJ_iald (p0 := 5) (p1 := 9) (p2 := 13) (EJ_getR (t := 13) (c := 12) (kf := 0) (r := (RX12, TX12, 52)) (p0 := 5) (p1 := 6) (EJ_aload_n (j := 0) (i := 0) (pc := 5) D_M_headMetas_5 rfl) D_M_headMetas_6 ⟨rfl, rfl, by decide, q_932⟩ (fun _ _ => rfl)) (EJ_callS (p0 := 9) (p1 := 10) (AJ_I (p0 := 9) (p1 := 10) (p2 := 10) (EJ_iload_n (j := 1) (i := 1) (pc := 9) D_M_headMetas_9 rfl) AJ_nil) m_M_ruleAt E1_I D_M_headMetas_10 q_1209 q_1210 q_97 ⟨by decide +kernel, by decide +kernel, by decide +kernel⟩ (by decide) (show 1 + 1 ≤ 3 from by decide) (fun _ h => absurd h List.not_mem_nil)) D_M_headMetas_13) D_M_headMetas_14 rfl)
 (SJ_sq (p0 := 17) (p1 := 30) (nN := 52) (nB := 58) (nC := 52) (SJ_istore (i := 4) (p0 := 17) (p1 := 28) (EJ_iald (p0 := 17) (p1 := 21) (p2 := 27) (EJ_getR (t := 13) (c := 12) (kf := 0) (r := (RX12, TX12, 52)) (p0 := 17) (p1 := 18) (EJ_aload_n (j := 0) (i := 0) (pc := 17) D_M_headMetas_17 rfl) D_M_headMetas_18 ⟨rfl, rfl, by decide, q_932⟩ (fun _ _ => rfl)) (EJ_iadd (p0 := 21) (p1 := 25) (p2 := 26) (EJ_callS (p0 := 21) (p1 := 22) (AJ_I (p0 := 21) (p1 := 22) (p2 := 22) (EJ_iload_n (j := 1) (i := 1) (pc := 21) D_M_headMetas_21 rfl) AJ_nil) m_M_ruleAt E1_I D_M_headMetas_22 q_1209 q_1210 q_97 ⟨by decide +kernel, by decide +kernel, by decide +kernel⟩ (by decide) (show 1 + 1 ≤ 3 from by decide) (fun _ h => absurd h List.not_mem_nil)) (EJ_iload_n (j := 3) (i := 3) (pc := 25) D_M_headMetas_25 rfl) D_M_headMetas_26) D_M_headMetas_27) D_M_headMetas_28)
 (SJ_istore_n (i := 2) (j := 2) (p0 := 30) (p1 := 51) (EJ_ior (p0 := 30) (p1 := 31) (p2 := 50) (EJ_iload_n (j := 2) (i := 2) (pc := 30) D_M_headMetas_30 rfl) (EJ_if (p0 := 31) (pT := 39) (pF := 49) (pE := 46) (p1 := 50) (CZ_ne' (off := 13) (tgt := 49) (p0 := 31) (p1 := 36) (EJ_callS (p0 := 31) (p1 := 33) (AJ_I (p0 := 31) (p1 := 33) (p2 := 33) (EJ_iload (i := 4) (pc := 31) D_M_headMetas_31) AJ_nil) m_M_isCapital E1_I D_M_headMetas_33 q_1074 q_1075 q_97 ⟨by decide +kernel, by decide +kernel, by decide +kernel⟩ (by decide) (show 2 + 1 ≤ 3 from by decide) (fun _ h => absurd h List.not_mem_nil)) D_M_headMetas_36 rfl) (EJ_ishl (p0 := 39) (p1 := 40) (p2 := 45) (EJ_iconst (n := 1) (v := (nI 1)) (pc := 39) D_M_headMetas_39 (by decide +kernel)) (EJ_isub (p0 := 40) (p1 := 42) (p2 := 44) (EJ_iload (i := 4) (pc := 40) D_M_headMetas_40) (EJ_bipush (n := 65) (v := (nI 65)) (pc := 42) D_M_headMetas_42 (by decide +kernel)) D_M_headMetas_44) D_M_headMetas_45) (Lead.goto (K := K_M_headMetas) (pc := 46) (tgt := 50) D_M_headMetas_46 rfl) (EJ_iconst (n := 0) (v := (nI 0)) (pc := 49) D_M_headMetas_49 (by decide +kernel))) D_M_headMetas_50) D_M_headMetas_51 rfl))
 (SJ_post (SJ_iinc (i := 3) (n := 1) (v := (nI 1)) (pc := 52) D_M_headMetas_52 (by decide +kernel)) (Lead.goto (K := K_M_headMetas) (pc := 55) (tgt := 4) D_M_headMetas_55 rfl))))
 (SJ_ret (p0 := 58) (p1 := 59) (EJ_iload_n (j := 2) (i := 2) (pc := 58) D_M_headMetas_58 rfl) D_M_headMetas_59)))
 RTm_int q_1250 (by decide +kernel) rfl (fun h => by cases h) (show 5 ≤ 40 from by decide) (fun _ => trivial)
theorem D_M_rule_0 : decode cX12_rule 0 = .ok (.aload_n 0, 1) := by decide +kernel
theorem D_M_rule_1 : decode cX12_rule 1 = .ok (.iload_n 1, 1) := by decide +kernel
theorem D_M_rule_2 : decode cX12_rule 2 = .ok (.invokevirtual 217, 3) := by decide +kernel
theorem D_M_rule_5 : decode cX12_rule 5 = .ok (.ifCond .ne (5), 3) := by decide +kernel
theorem D_M_rule_8 : decode cX12_rule 8 = .ok (.iconst (-1), 1) := by decide +kernel
theorem D_M_rule_9 : decode cX12_rule 9 = .ok (.ireturn, 1) := by decide +kernel
theorem D_M_rule_10 : decode cX12_rule 10 = .ok (.iload_n 2, 1) := by decide +kernel
theorem D_M_rule_11 : decode cX12_rule 11 = .ok (.tableswitch 47 0 2 #[25, 35, 41], 25) := by decide +kernel
theorem D_M_rule_36 : decode cX12_rule 36 = .ok (.aload_n 0, 1) := by decide +kernel
theorem D_M_rule_37 : decode cX12_rule 37 = .ok (.getfield 9, 3) := by decide +kernel
theorem D_M_rule_40 : decode cX12_rule 40 = .ok (.iload_n 1, 1) := by decide +kernel
theorem D_M_rule_41 : decode cX12_rule 41 = .ok (.invokestatic 255, 3) := by decide +kernel
theorem D_M_rule_44 : decode cX12_rule 44 = .ok (.iaload, 1) := by decide +kernel
theorem D_M_rule_45 : decode cX12_rule 45 = .ok (.ireturn, 1) := by decide +kernel
theorem D_M_rule_46 : decode cX12_rule 46 = .ok (.aload_n 0, 1) := by decide +kernel
theorem D_M_rule_47 : decode cX12_rule 47 = .ok (.iload_n 1, 1) := by decide +kernel
theorem D_M_rule_48 : decode cX12_rule 48 = .ok (.invokevirtual 264, 3) := by decide +kernel
theorem D_M_rule_51 : decode cX12_rule 51 = .ok (.ireturn, 1) := by decide +kernel
theorem D_M_rule_52 : decode cX12_rule 52 = .ok (.aload_n 0, 1) := by decide +kernel
theorem D_M_rule_53 : decode cX12_rule 53 = .ok (.iload_n 1, 1) := by decide +kernel
theorem D_M_rule_54 : decode cX12_rule 54 = .ok (.invokevirtual 291, 3) := by decide +kernel
theorem D_M_rule_57 : decode cX12_rule 57 = .ok (.ireturn, 1) := by decide +kernel
theorem D_M_rule_58 : decode cX12_rule 58 = .ok (.iconst (-1), 1) := by decide +kernel
theorem D_M_rule_59 : decode cX12_rule 59 = .ok (.ireturn, 1) := by decide +kernel
def K_M_rule : SC := (cX12_rule, "TwoLevelsModel", 3, 4, false, [], NoQ)
def d_M_rule : MD Int32 := mth tt 3 (sq (sIf (cNot (eh1 z_ne (kV 13 d_M_isRule (lR 0) [vI (lI 1)]))) (rtn (eC (-1))) sk)
 (sSw (lI 2) [((rtn (eh2 (aI .int) (eh1 (gR 13 0) (lR 0)) (kS d_M_ruleAt [vI (lI 1)]))), 36),
 ((rtn (kV 13 d_M_choices (lR 0) [vI (lI 1)])), 46),
 ((rtn (kV 13 d_M_headMetas (lR 0) [vI (lI 1)])), 52)]
 (rtn (eC (-1)))))
theorem m_M_rule : MJ 4 [] yX12_rule (some .int) eI (d_M_rule) := MJ_of (K := K_M_rule) (ri := .ireturn) (n1 := 0) (n2 := 0) (n3 := 0)
 (SJ_sq (p0 := 0) (p1 := 10) (nN := 0) (nB := 0) (nC := 0) (SJ_if (p0 := 0) (pT := 8) (pF := 10) (nN := 10) (nB := 0) (nC := 0) (CJ_not (p0 := 0) (pT := 8) (pF := 10) (CZ_ne (off := 5) (tgt := 10) (p0 := 0) (p1 := 5) (EJ_callV (t := 13) (c := 12) (r := (RX12, TX12, 52)) (p0 := 0) (p1 := 1) (p2 := 2) (EJ_aload_n (j := 0) (i := 0) (pc := 0) D_M_rule_0 rfl) (AJ_I (p0 := 1) (p1 := 2) (p2 := 2) (EJ_iload_n (j := 1) (i := 1) (pc := 1) D_M_rule_1 rfl) AJ_nil) m_M_isRule E1_I D_M_rule_2 rfl rfl rfl q_1150 q_1151 q_55 q_97 ⟨by decide +kernel, by decide +kernel, by decide +kernel⟩ (by decide) (show 2 + 1 ≤ 4 from by decide) (fun _ h => absurd h List.not_mem_nil)) D_M_rule_5 rfl)) (SJ_ret (p0 := 8) (p1 := 9) (EJ_iconst (n := -1) (v := (-1)) (pc := 8) D_M_rule_8 (by decide +kernel)) D_M_rule_9) SJ_sk)
 (SJ_sw (p0 := 10) (p1 := 11) (pD := 58) (EJ_iload_n (j := 2) (i := 2) (pc := 10) D_M_rule_10 rfl) D_M_rule_11 (by decide) (fun j qq hq => match j, hq with | 0, hq => (by cases hq; exact ⟨⟨_, rfl, rfl⟩, (SJ_ret (p0 := 36) (p1 := 45) (EJ_iald (p0 := 36) (p1 := 40) (p2 := 44) (EJ_getR (t := 13) (c := 12) (kf := 0) (r := (RX12, TX12, 52)) (p0 := 36) (p1 := 37) (EJ_aload_n (j := 0) (i := 0) (pc := 36) D_M_rule_36 rfl) D_M_rule_37 ⟨rfl, rfl, by decide, q_932⟩ (fun _ _ => rfl)) (EJ_callS (p0 := 40) (p1 := 41) (AJ_I (p0 := 40) (p1 := 41) (p2 := 41) (EJ_iload_n (j := 1) (i := 1) (pc := 40) D_M_rule_40 rfl) AJ_nil) m_M_ruleAt E1_I D_M_rule_41 q_1209 q_1210 q_97 ⟨by decide +kernel, by decide +kernel, by decide +kernel⟩ (by decide) (show 1 + 1 ≤ 4 from by decide) (fun _ h => absurd h List.not_mem_nil)) D_M_rule_44) D_M_rule_45)⟩) | 1, hq => (by cases hq; exact ⟨⟨_, rfl, rfl⟩, (SJ_ret (p0 := 46) (p1 := 51) (EJ_callV (t := 13) (c := 12) (r := (RX12, TX12, 52)) (p0 := 46) (p1 := 47) (p2 := 48) (EJ_aload_n (j := 0) (i := 0) (pc := 46) D_M_rule_46 rfl) (AJ_I (p0 := 47) (p1 := 48) (p2 := 48) (EJ_iload_n (j := 1) (i := 1) (pc := 47) D_M_rule_47 rfl) AJ_nil) m_M_choices E1_I D_M_rule_48 rfl rfl rfl q_1215 q_1216 q_70 q_97 ⟨by decide +kernel, by decide +kernel, by decide +kernel⟩ (by decide) (show 2 + 1 ≤ 4 from by decide) (fun _ h => absurd h List.not_mem_nil)) D_M_rule_51)⟩) | 2, hq => (by cases hq; exact ⟨⟨_, rfl, rfl⟩, (SJ_ret (p0 := 52) (p1 := 57) (EJ_callV (t := 13) (c := 12) (r := (RX12, TX12, 52)) (p0 := 52) (p1 := 53) (p2 := 54) (EJ_aload_n (j := 0) (i := 0) (pc := 52) D_M_rule_52 rfl) (AJ_I (p0 := 53) (p1 := 54) (p2 := 54) (EJ_iload_n (j := 1) (i := 1) (pc := 53) D_M_rule_53 rfl) AJ_nil) m_M_headMetas E1_I D_M_rule_54 rfl rfl rfl q_1248 q_1249 q_72 q_97 ⟨by decide +kernel, by decide +kernel, by decide +kernel⟩ (by decide) (show 3 + 1 ≤ 4 from by decide) (fun _ h => absurd h List.not_mem_nil)) D_M_rule_57)⟩) | (_ + 3), hq => by simp at hq) rfl (SJ_ret (p0 := 58) (p1 := 59) (EJ_iconst (n := -1) (v := (-1)) (pc := 58) D_M_rule_58 (by decide +kernel)) D_M_rule_59)))
 RTm_int q_1247 (by decide +kernel) rfl (fun h => by cases h) (show 3 ≤ 40 from by decide) (fun _ => trivial)
theorem D_M_settle_0 : decode cX12_settle 0 = .ok (.iload_n 1, 1) := by decide +kernel
theorem D_M_settle_1 : decode cX12_settle 1 = .ok (.ifCond .ne (7), 3) := by decide +kernel
theorem D_M_settle_4 : decode cX12_settle 4 = .ok (.iconst (1), 1) := by decide +kernel
theorem D_M_settle_5 : decode cX12_settle 5 = .ok (.goto (4), 3) := by decide +kernel
theorem D_M_settle_8 : decode cX12_settle 8 = .ok (.iconst (0), 1) := by decide +kernel
theorem D_M_settle_9 : decode cX12_settle 9 = .ok (.istore_n 3, 1) := by decide +kernel
theorem D_M_settle_10 : decode cX12_settle 10 = .ok (.iload_n 3, 1) := by decide +kernel
theorem D_M_settle_11 : decode cX12_settle 11 = .ok (.ifCond .ne (8), 3) := by decide +kernel
theorem D_M_settle_14 : decode cX12_settle 14 = .ok (.iload_n 1, 1) := by decide +kernel
theorem D_M_settle_15 : decode cX12_settle 15 = .ok (.iconst (1), 1) := by decide +kernel
theorem D_M_settle_16 : decode cX12_settle 16 = .ok (.if_icmp .ne (24), 3) := by decide +kernel
theorem D_M_settle_19 : decode cX12_settle 19 = .ok (.iload_n 2, 1) := by decide +kernel
theorem D_M_settle_20 : decode cX12_settle 20 = .ok (.iload_n 3, 1) := by decide +kernel
theorem D_M_settle_21 : decode cX12_settle 21 = .ok (.invokestatic 172, 3) := by decide +kernel
theorem D_M_settle_24 : decode cX12_settle 24 = .ok (.iload_n 3, 1) := by decide +kernel
theorem D_M_settle_25 : decode cX12_settle 25 = .ok (.ifCond .eq (8), 3) := by decide +kernel
theorem D_M_settle_28 : decode cX12_settle 28 = .ok (.bipush (12), 2) := by decide +kernel
theorem D_M_settle_30 : decode cX12_settle 30 = .ok (.goto (4), 3) := by decide +kernel
theorem D_M_settle_33 : decode cX12_settle 33 = .ok (.iconst (3), 1) := by decide +kernel
theorem D_M_settle_34 : decode cX12_settle 34 = .ok (.invokestatic 108, 3) := by decide +kernel
theorem D_M_settle_37 : decode cX12_settle 37 = .ok (.ifCond .ne (5), 3) := by decide +kernel
theorem D_M_settle_40 : decode cX12_settle 40 = .ok (.iconst (-1), 1) := by decide +kernel
theorem D_M_settle_41 : decode cX12_settle 41 = .ok (.ireturn, 1) := by decide +kernel
theorem D_M_settle_42 : decode cX12_settle 42 = .ok (.iload_n 3, 1) := by decide +kernel
theorem D_M_settle_43 : decode cX12_settle 43 = .ok (.ifCond .eq (7), 3) := by decide +kernel
theorem D_M_settle_46 : decode cX12_settle 46 = .ok (.iconst (2), 1) := by decide +kernel
theorem D_M_settle_47 : decode cX12_settle 47 = .ok (.goto (4), 3) := by decide +kernel
theorem D_M_settle_50 : decode cX12_settle 50 = .ok (.iconst (3), 1) := by decide +kernel
theorem D_M_settle_51 : decode cX12_settle 51 = .ok (.istore 4, 2) := by decide +kernel
theorem D_M_settle_53 : decode cX12_settle 53 = .ok (.aload_n 0, 1) := by decide +kernel
theorem D_M_settle_54 : decode cX12_settle 54 = .ok (.getfield 9, 3) := by decide +kernel
theorem D_M_settle_57 : decode cX12_settle 57 = .ok (.iload 4, 2) := by decide +kernel
theorem D_M_settle_59 : decode cX12_settle 59 = .ok (.iaload, 1) := by decide +kernel
theorem D_M_settle_60 : decode cX12_settle 60 = .ok (.istore 5, 2) := by decide +kernel
theorem D_M_settle_62 : decode cX12_settle 62 = .ok (.iload 5, 2) := by decide +kernel
theorem D_M_settle_64 : decode cX12_settle 64 = .ok (.iload_n 2, 1) := by decide +kernel
theorem D_M_settle_65 : decode cX12_settle 65 = .ok (.if_icmp .ne (6), 3) := by decide +kernel
theorem D_M_settle_68 : decode cX12_settle 68 = .ok (.bipush (-2), 2) := by decide +kernel
theorem D_M_settle_70 : decode cX12_settle 70 = .ok (.ireturn, 1) := by decide +kernel
theorem D_M_settle_71 : decode cX12_settle 71 = .ok (.aload_n 0, 1) := by decide +kernel
theorem D_M_settle_72 : decode cX12_settle 72 = .ok (.invokevirtual 214, 3) := by decide +kernel
theorem D_M_settle_75 : decode cX12_settle 75 = .ok (.aload_n 0, 1) := by decide +kernel
theorem D_M_settle_76 : decode cX12_settle 76 = .ok (.getfield 9, 3) := by decide +kernel
theorem D_M_settle_79 : decode cX12_settle 79 = .ok (.iload 4, 2) := by decide +kernel
theorem D_M_settle_81 : decode cX12_settle 81 = .ok (.iload_n 2, 1) := by decide +kernel
theorem D_M_settle_82 : decode cX12_settle 82 = .ok (.iastore, 1) := by decide +kernel
theorem D_M_settle_83 : decode cX12_settle 83 = .ok (.iload 5, 2) := by decide +kernel
theorem D_M_settle_85 : decode cX12_settle 85 = .ok (.ireturn, 1) := by decide +kernel
def K_M_settle : SC := (cX12_settle, "TwoLevelsModel", 6, 3, false, [13, 70, 71, 72, 73], NoQ)
def d_M_settle : MD Int32 := mth tt 6 (sq (sI1 3 (eIf (eh1 z_eq (lI 1)) (eC (nI 1)) (eC (nI 0))))
 (sq (sIf (cOr (cAnd (cNot (eh1 z_ne (lI 3))) (eh2 c_ne (lI 1) (eC (nI 1)))) (cNot (eh1 z_ne (kS d_M_in [vI (lI 2), vI (kS d_M_truth [vI (lI 3)]), vI (eIf (eh1 z_ne (lI 3)) (eC (nI 12)) (eC (nI 3)))])))) (rtn (eC (-1))) sk)
 (sq (sI1 4 (eIf (eh1 z_ne (lI 3)) (eC (nI 2)) (eC (nI 3))))
 (sq (sI1 5 (eh2 (aI .int) (eh1 (gR 13 0) (lR 0)) (lI 4)))
 (sq (sIf (eh2 c_eq (lI 5) (lI 2)) (rtn (eC (-2))) sk)
 (sq (sE (kV 13 d_M_keepsPast (lR 0) []))
 (sq (sh3 (stI [70]) (eh1 (gR 13 0) (lR 0)) (lI 4) (lI 2))
 (rtn (lI 5)))))))))
theorem m_M_settle : MJ 3 [13, 70, 71, 72, 73] yX12_settle (some .int) eI (d_M_settle) := MJ_of (K := K_M_settle) (ri := .ireturn) (n1 := 0) (n2 := 0) (n3 := 0)
 (SJ_sq (p0 := 0) (p1 := 10) (nN := 0) (nB := 0) (nC := 0) (SJ_istore_n (i := 3) (j := 3) (p0 := 0) (p1 := 9) (EJ_if (p0 := 0) (pT := 4) (pF := 8) (pE := 5) (p1 := 9) (CZ_eq' (off := 7) (tgt := 8) (p0 := 0) (p1 := 1) (EJ_iload_n (j := 1) (i := 1) (pc := 0) D_M_settle_0 rfl) D_M_settle_1 rfl) (EJ_iconst (n := 1) (v := (nI 1)) (pc := 4) D_M_settle_4 (by decide +kernel)) (Lead.goto (K := K_M_settle) (pc := 5) (tgt := 9) D_M_settle_5 rfl) (EJ_iconst (n := 0) (v := (nI 0)) (pc := 8) D_M_settle_8 (by decide +kernel))) D_M_settle_9 rfl)
 (SJ_sq (p0 := 10) (p1 := 42) (nN := 0) (nB := 0) (nC := 0) (SJ_if (p0 := 10) (pT := 40) (pF := 42) (nN := 42) (nB := 0) (nC := 0) (CJ_or (p0 := 10) (pM := 19) (pT := 40) (pF := 42) (CJ_and (p0 := 10) (pM := 14) (pT := 40) (pF := 19) (CJ_not (p0 := 10) (pT := 14) (pF := 19) (CZ_ne (off := 8) (tgt := 19) (p0 := 10) (p1 := 11) (EJ_iload_n (j := 3) (i := 3) (pc := 10) D_M_settle_10 rfl) D_M_settle_11 rfl)) (CJ_ne (off := 24) (tgt := 40) (p0 := 14) (p1 := 15) (p2 := 16) (EJ_iload_n (j := 1) (i := 1) (pc := 14) D_M_settle_14 rfl) (EJ_iconst (n := 1) (v := (nI 1)) (pc := 15) D_M_settle_15 (by decide +kernel)) D_M_settle_16 rfl)) (CJ_not (p0 := 19) (pT := 40) (pF := 42) (CZ_ne (off := 5) (tgt := 42) (p0 := 19) (p1 := 37) (EJ_callS (p0 := 19) (p1 := 34) (AJ_I (p0 := 19) (p1 := 20) (p2 := 34) (EJ_iload_n (j := 2) (i := 2) (pc := 19) D_M_settle_19 rfl) (AJ_I (p0 := 20) (p1 := 24) (p2 := 34) (EJ_callS (p0 := 20) (p1 := 21) (AJ_I (p0 := 20) (p1 := 21) (p2 := 21) (EJ_iload_n (j := 3) (i := 3) (pc := 20) D_M_settle_20 rfl) AJ_nil) m_M_truth E1_I D_M_settle_21 q_1107 q_1108 q_97 ⟨by decide +kernel, by decide +kernel, by decide +kernel⟩ (by decide) (show 1 + 1 ≤ 3 from by decide) (fun _ h => absurd h List.not_mem_nil)) (AJ_I (p0 := 24) (p1 := 34) (p2 := 34) (EJ_if (p0 := 24) (pT := 28) (pF := 33) (pE := 30) (p1 := 34) (CZ_ne' (off := 8) (tgt := 33) (p0 := 24) (p1 := 25) (EJ_iload_n (j := 3) (i := 3) (pc := 24) D_M_settle_24 rfl) D_M_settle_25 rfl) (EJ_bipush (n := 12) (v := (nI 12)) (pc := 28) D_M_settle_28 (by decide +kernel)) (Lead.goto (K := K_M_settle) (pc := 30) (tgt := 34) D_M_settle_30 rfl) (EJ_iconst (n := 3) (v := (nI 3)) (pc := 33) D_M_settle_33 (by decide +kernel))) AJ_nil))) m_M_in E1_I D_M_settle_34 q_1071 q_1072 q_97 ⟨by decide +kernel, by decide +kernel, by decide +kernel⟩ (by decide) (show 1 + 1 ≤ 3 from by decide) (fun _ h => absurd h List.not_mem_nil)) D_M_settle_37 rfl))) (SJ_ret (p0 := 40) (p1 := 41) (EJ_iconst (n := -1) (v := (-1)) (pc := 40) D_M_settle_40 (by decide +kernel)) D_M_settle_41) SJ_sk)
 (SJ_sq (p0 := 42) (p1 := 53) (nN := 0) (nB := 0) (nC := 0) (SJ_istore (i := 4) (p0 := 42) (p1 := 51) (EJ_if (p0 := 42) (pT := 46) (pF := 50) (pE := 47) (p1 := 51) (CZ_ne' (off := 7) (tgt := 50) (p0 := 42) (p1 := 43) (EJ_iload_n (j := 3) (i := 3) (pc := 42) D_M_settle_42 rfl) D_M_settle_43 rfl) (EJ_iconst (n := 2) (v := (nI 2)) (pc := 46) D_M_settle_46 (by decide +kernel)) (Lead.goto (K := K_M_settle) (pc := 47) (tgt := 51) D_M_settle_47 rfl) (EJ_iconst (n := 3) (v := (nI 3)) (pc := 50) D_M_settle_50 (by decide +kernel))) D_M_settle_51)
 (SJ_sq (p0 := 53) (p1 := 62) (nN := 0) (nB := 0) (nC := 0) (SJ_istore (i := 5) (p0 := 53) (p1 := 60) (EJ_iald (p0 := 53) (p1 := 57) (p2 := 59) (EJ_getR (t := 13) (c := 12) (kf := 0) (r := (RX12, TX12, 52)) (p0 := 53) (p1 := 54) (EJ_aload_n (j := 0) (i := 0) (pc := 53) D_M_settle_53 rfl) D_M_settle_54 ⟨rfl, rfl, by decide, q_932⟩ (fun _ _ => rfl)) (EJ_iload (i := 4) (pc := 57) D_M_settle_57) D_M_settle_59) D_M_settle_60)
 (SJ_sq (p0 := 62) (p1 := 71) (nN := 0) (nB := 0) (nC := 0) (SJ_if (p0 := 62) (pT := 68) (pF := 71) (nN := 71) (nB := 0) (nC := 0) (CJ_eq' (off := 6) (tgt := 71) (p0 := 62) (p1 := 64) (p2 := 65) (EJ_iload (i := 5) (pc := 62) D_M_settle_62) (EJ_iload_n (j := 2) (i := 2) (pc := 64) D_M_settle_64 rfl) D_M_settle_65 rfl) (SJ_ret (p0 := 68) (p1 := 70) (EJ_bipush (n := -2) (v := (-2)) (pc := 68) D_M_settle_68 (by decide +kernel)) D_M_settle_70) SJ_sk)
 (SJ_sq (p0 := 71) (p1 := 75) (nN := 0) (nB := 0) (nC := 0) (SJ_void (p0 := 71) (p1 := 75) (EJ_callV (t := 13) (c := 12) (r := (RX12, TX12, 52)) (p0 := 71) (p1 := 72) (p2 := 72) (EJ_aload_n (j := 0) (i := 0) (pc := 71) D_M_settle_71 rfl) AJ_nil m_M_keepsPast E1_U D_M_settle_72 rfl rfl rfl q_1143 q_1144 q_54 q_97 ⟨by decide +kernel, by decide +kernel, by decide +kernel⟩ (by decide) (show 2 + 1 ≤ 3 from by decide) (show ∀ x_ ∈ ([13, 70, 71, 72, 73] : List Nat), x_ ∈ ([13, 70, 71, 72, 73] : List Nat) from by decide)))
 (SJ_sq (p0 := 75) (p1 := 83) (nN := 0) (nB := 0) (nC := 0) (SJ_iast (ws := [70]) (p0 := 75) (p1 := 79) (p2 := 81) (p3 := 82) (EJ_getR (t := 13) (c := 12) (kf := 0) (r := (RX12, TX12, 52)) (p0 := 75) (p1 := 76) (EJ_aload_n (j := 0) (i := 0) (pc := 75) D_M_settle_75 rfl) D_M_settle_76 ⟨rfl, rfl, by decide, q_932⟩ (fun _ _ => rfl)) (EJ_iload (i := 4) (pc := 79) D_M_settle_79) (EJ_iload_n (j := 2) (i := 2) (pc := 81) D_M_settle_81 rfl) D_M_settle_82 (show ∀ x_ ∈ ([70] : List Nat), x_ ∈ ([13, 70, 71, 72, 73] : List Nat) from by decide))
 (SJ_ret (p0 := 83) (p1 := 85) (EJ_iload (i := 5) (pc := 83) D_M_settle_83) D_M_settle_85))))))))
 RTm_int q_1142 (by decide +kernel) rfl (fun h => by cases h) (show 6 ≤ 40 from by decide) (fun _ => trivial)
