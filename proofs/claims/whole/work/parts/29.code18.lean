/-! the program: part 18 -/
theorem D_M_undo_0 : decode cX12_undo 0 = .ok (.aload_n 0, 1) := by decide +kernel
theorem D_M_undo_1 : decode cX12_undo 1 = .ok (.getfield 198, 3) := by decide +kernel
theorem D_M_undo_4 : decode cX12_undo 4 = .ok (.ifCond .ne (5), 3) := by decide +kernel
theorem D_M_undo_7 : decode cX12_undo 7 = .ok (.iconst (-1), 1) := by decide +kernel
theorem D_M_undo_8 : decode cX12_undo 8 = .ok (.ireturn, 1) := by decide +kernel
theorem D_M_undo_9 : decode cX12_undo 9 = .ok (.aload_n 0, 1) := by decide +kernel
theorem D_M_undo_10 : decode cX12_undo 10 = .ok (.dup, 1) := by decide +kernel
theorem D_M_undo_11 : decode cX12_undo 11 = .ok (.getfield 198, 3) := by decide +kernel
theorem D_M_undo_14 : decode cX12_undo 14 = .ok (.iconst (1), 1) := by decide +kernel
theorem D_M_undo_15 : decode cX12_undo 15 = .ok (.isub, 1) := by decide +kernel
theorem D_M_undo_16 : decode cX12_undo 16 = .ok (.putfield 198, 3) := by decide +kernel
theorem D_M_undo_19 : decode cX12_undo 19 = .ok (.aload_n 0, 1) := by decide +kernel
theorem D_M_undo_20 : decode cX12_undo 20 = .ok (.getfield 16, 3) := by decide +kernel
theorem D_M_undo_23 : decode cX12_undo 23 = .ok (.sipush (1584), 3) := by decide +kernel
theorem D_M_undo_26 : decode cX12_undo 26 = .ok (.aload_n 0, 1) := by decide +kernel
theorem D_M_undo_27 : decode cX12_undo 27 = .ok (.getfield 198, 3) := by decide +kernel
theorem D_M_undo_30 : decode cX12_undo 30 = .ok (.imul, 1) := by decide +kernel
theorem D_M_undo_31 : decode cX12_undo 31 = .ok (.aload_n 0, 1) := by decide +kernel
theorem D_M_undo_32 : decode cX12_undo 32 = .ok (.getfield 9, 3) := by decide +kernel
theorem D_M_undo_35 : decode cX12_undo 35 = .ok (.iconst (0), 1) := by decide +kernel
theorem D_M_undo_36 : decode cX12_undo 36 = .ok (.sipush (1584), 3) := by decide +kernel
theorem D_M_undo_39 : decode cX12_undo 39 = .ok (.invokestatic 179, 3) := by decide +kernel
theorem D_M_undo_42 : decode cX12_undo 42 = .ok (.aload_n 0, 1) := by decide +kernel
theorem D_M_undo_43 : decode cX12_undo 43 = .ok (.invokevirtual 201, 3) := by decide +kernel
theorem D_M_undo_46 : decode cX12_undo 46 = .ok (.aload_n 0, 1) := by decide +kernel
theorem D_M_undo_47 : decode cX12_undo 47 = .ok (.getfield 198, 3) := by decide +kernel
theorem D_M_undo_50 : decode cX12_undo 50 = .ok (.ireturn, 1) := by decide +kernel
def K_M_undo : SC := (cX12_undo, "TwoLevelsModel", 1, 2, false, [13, 70, 71, 72, 73], NoQ)
def d_M_undo : MD Int32 := mth tt 1 (sq (sIf (eh1 z_eq (eh1 (gI 13 5) (lR 0))) (rtn (eC (-1))) sk)
 (sq (su2 (gI 13 5) (uF false 13 5 (fun x y => x - y)) (lR 0) (eC (nI 1)))
 (sq (sE (kS d_M_moves [vR (eh1 (gR 13 2) (lR 0)), vI (eh2 imulF (eC (nI 1584)) (eh1 (gI 13 5) (lR 0))), vR (eh1 (gR 13 0) (lR 0)), vI (eC (nI 0)), vI (eC (nI 1584))]))
 (sq (sE (kV 13 d_M_changes (lR 0) []))
 (rtn (eh1 (gI 13 5) (lR 0)))))))
theorem m_M_undo : MJ 2 [13, 70, 71, 72, 73] yX12_undo (some .int) eI (d_M_undo) := MJ_of (K := K_M_undo) (ri := .ireturn) (n1 := 0) (n2 := 0) (n3 := 0)
 (SJ_sq (p0 := 0) (p1 := 9) (nN := 0) (nB := 0) (nC := 0) (SJ_if (p0 := 0) (pT := 7) (pF := 9) (nN := 9) (nB := 0) (nC := 0) (CZ_eq' (off := 5) (tgt := 9) (p0 := 0) (p1 := 4) (EJ_getI (t := 13) (c := 12) (kf := 5) (r := (RX12, TX12, 52)) (p0 := 0) (p1 := 1) (EJ_aload_n (j := 0) (i := 0) (pc := 0) D_M_undo_0 rfl) D_M_undo_1 ⟨rfl, rfl, by decide, q_937⟩ (fun _ _ => rfl)) D_M_undo_4 rfl) (SJ_ret (p0 := 7) (p1 := 8) (EJ_iconst (n := -1) (v := (-1)) (pc := 7) D_M_undo_7 (by decide +kernel)) D_M_undo_8) SJ_sk)
 (SJ_sq (p0 := 9) (p1 := 19) (nN := 0) (nB := 0) (nC := 0) (SJ_upF (z := false) (t := 13) (c := 12) (kf := 5) (r := (RX12, TX12, 52)) (f := (fun x y => x - y)) (p0 := 9) (p1 := 10) (p3 := 15) (EJ_aload_n (j := 0) (i := 0) (pc := 9) D_M_undo_9 rfl) D_M_undo_10 D_M_undo_11 (EJ_iconst (n := 1) (v := (nI 1)) (pc := 14) D_M_undo_14 (by decide +kernel)) (Op2_isub D_M_undo_15) D_M_undo_16 ⟨rfl, rfl, by decide, q_937⟩ ⟨rfl, rfl, by decide, q_937⟩ (Or.inl rfl) (fun _ _ => ⟨rfl, rfl⟩) (fun _ _ => rfl) (show (13 : Nat) ∈ ([13, 70, 71, 72, 73] : List Nat) from by decide))
 (SJ_sq (p0 := 19) (p1 := 42) (nN := 0) (nB := 0) (nC := 0) (SJ_void (p0 := 19) (p1 := 42) (EJ_callS (p0 := 19) (p1 := 39) (AJ_R (p0 := 19) (p1 := 23) (p2 := 39) (EJ_getR (t := 13) (c := 12) (kf := 2) (r := (RX12, TX12, 52)) (p0 := 19) (p1 := 20) (EJ_aload_n (j := 0) (i := 0) (pc := 19) D_M_undo_19 rfl) D_M_undo_20 ⟨rfl, rfl, by decide, q_934⟩ (fun _ _ => rfl)) (AJ_I (p0 := 23) (p1 := 31) (p2 := 39) (EJ_imul (p0 := 23) (p1 := 26) (p2 := 30) (EJ_sipush (n := 1584) (v := (nI 1584)) (pc := 23) D_M_undo_23 (by decide +kernel)) (EJ_getI (t := 13) (c := 12) (kf := 5) (r := (RX12, TX12, 52)) (p0 := 26) (p1 := 27) (EJ_aload_n (j := 0) (i := 0) (pc := 26) D_M_undo_26 rfl) D_M_undo_27 ⟨rfl, rfl, by decide, q_937⟩ (fun _ _ => rfl)) D_M_undo_30) (AJ_R (p0 := 31) (p1 := 35) (p2 := 39) (EJ_getR (t := 13) (c := 12) (kf := 0) (r := (RX12, TX12, 52)) (p0 := 31) (p1 := 32) (EJ_aload_n (j := 0) (i := 0) (pc := 31) D_M_undo_31 rfl) D_M_undo_32 ⟨rfl, rfl, by decide, q_932⟩ (fun _ _ => rfl)) (AJ_I (p0 := 35) (p1 := 36) (p2 := 39) (EJ_iconst (n := 0) (v := (nI 0)) (pc := 35) D_M_undo_35 (by decide +kernel)) (AJ_I (p0 := 36) (p1 := 39) (p2 := 39) (EJ_sipush (n := 1584) (v := (nI 1584)) (pc := 36) D_M_undo_36 (by decide +kernel)) AJ_nil))))) m_M_moves E1_U D_M_undo_39 q_1098 q_1099 q_97 ⟨by decide +kernel, by decide +kernel, by decide +kernel⟩ (by decide) (show 1 + 1 ≤ 2 from by decide) (show ∀ x_ ∈ ([70, 71, 72, 73] : List Nat), x_ ∈ ([13, 70, 71, 72, 73] : List Nat) from by decide)))
 (SJ_sq (p0 := 42) (p1 := 46) (nN := 0) (nB := 0) (nC := 0) (SJ_void (p0 := 42) (p1 := 46) (EJ_callV (t := 13) (c := 12) (r := (RX12, TX12, 52)) (p0 := 42) (p1 := 43) (p2 := 43) (EJ_aload_n (j := 0) (i := 0) (pc := 42) D_M_undo_42 rfl) AJ_nil m_M_changes E1_U D_M_undo_43 rfl rfl rfl q_1113 q_1114 q_52 q_97 ⟨by decide +kernel, by decide +kernel, by decide +kernel⟩ (by decide) (show 1 + 1 ≤ 2 from by decide) (show ∀ x_ ∈ ([13] : List Nat), x_ ∈ ([13, 70, 71, 72, 73] : List Nat) from by decide)))
 (SJ_ret (p0 := 46) (p1 := 50) (EJ_getI (t := 13) (c := 12) (kf := 5) (r := (RX12, TX12, 52)) (p0 := 46) (p1 := 47) (EJ_aload_n (j := 0) (i := 0) (pc := 46) D_M_undo_46 rfl) D_M_undo_47 ⟨rfl, rfl, by decide, q_937⟩ (fun _ _ => rfl)) D_M_undo_50)))))
 RTm_int q_1130 (by decide +kernel) rfl (fun h => by cases h) (show 1 ≤ 40 from by decide) (fun _ => trivial)
theorem D_M_word_0 : decode cX12_word 0 = .ok (.aload_n 0, 1) := by decide +kernel
theorem D_M_word_1 : decode cX12_word 1 = .ok (.iload_n 1, 1) := by decide +kernel
theorem D_M_word_2 : decode cX12_word 2 = .ok (.invokevirtual 220, 3) := by decide +kernel
theorem D_M_word_5 : decode cX12_word 5 = .ok (.istore 4, 2) := by decide +kernel
theorem D_M_word_7 : decode cX12_word 7 = .ok (.iload 4, 2) := by decide +kernel
theorem D_M_word_9 : decode cX12_word 9 = .ok (.iconst (-1), 1) := by decide +kernel
theorem D_M_word_10 : decode cX12_word 10 = .ok (.if_icmp .eq (12), 3) := by decide +kernel
theorem D_M_word_13 : decode cX12_word 13 = .ok (.iload_n 2, 1) := by decide +kernel
theorem D_M_word_14 : decode cX12_word 14 = .ok (.ifCond .lt (8), 3) := by decide +kernel
theorem D_M_word_17 : decode cX12_word 17 = .ok (.iload_n 3, 1) := by decide +kernel
theorem D_M_word_18 : decode cX12_word 18 = .ok (.iconst (-1), 1) := by decide +kernel
theorem D_M_word_19 : decode cX12_word 19 = .ok (.if_icmp .ge (5), 3) := by decide +kernel
theorem D_M_word_22 : decode cX12_word 22 = .ok (.iconst (-1), 1) := by decide +kernel
theorem D_M_word_23 : decode cX12_word 23 = .ok (.ireturn, 1) := by decide +kernel
theorem D_M_word_24 : decode cX12_word 24 = .ok (.aload_n 0, 1) := by decide +kernel
theorem D_M_word_25 : decode cX12_word 25 = .ok (.invokevirtual 273, 3) := by decide +kernel
theorem D_M_word_28 : decode cX12_word 28 = .ok (.iload_n 2, 1) := by decide +kernel
theorem D_M_word_29 : decode cX12_word 29 = .ok (.aload_n 0, 1) := by decide +kernel
theorem D_M_word_30 : decode cX12_word 30 = .ok (.getfield 48, 3) := by decide +kernel
theorem D_M_word_33 : decode cX12_word 33 = .ok (.iload 4, 2) := by decide +kernel
theorem D_M_word_35 : decode cX12_word 35 = .ok (.iaload, 1) := by decide +kernel
theorem D_M_word_36 : decode cX12_word 36 = .ok (.if_icmp .lt (6), 3) := by decide +kernel
theorem D_M_word_39 : decode cX12_word 39 = .ok (.bipush (-2), 2) := by decide +kernel
theorem D_M_word_41 : decode cX12_word 41 = .ok (.ireturn, 1) := by decide +kernel
theorem D_M_word_42 : decode cX12_word 42 = .ok (.bipush (20), 2) := by decide +kernel
theorem D_M_word_44 : decode cX12_word 44 = .ok (.iload 4, 2) := by decide +kernel
theorem D_M_word_46 : decode cX12_word 46 = .ok (.imul, 1) := by decide +kernel
theorem D_M_word_47 : decode cX12_word 47 = .ok (.iload_n 2, 1) := by decide +kernel
theorem D_M_word_48 : decode cX12_word 48 = .ok (.iadd, 1) := by decide +kernel
theorem D_M_word_49 : decode cX12_word 49 = .ok (.istore 5, 2) := by decide +kernel
theorem D_M_word_51 : decode cX12_word 51 = .ok (.iload_n 3, 1) := by decide +kernel
theorem D_M_word_52 : decode cX12_word 52 = .ok (.iconst (-1), 1) := by decide +kernel
theorem D_M_word_53 : decode cX12_word 53 = .ok (.if_icmp .ne (11), 3) := by decide +kernel
theorem D_M_word_56 : decode cX12_word 56 = .ok (.aload_n 0, 1) := by decide +kernel
theorem D_M_word_57 : decode cX12_word 57 = .ok (.getfield 51, 3) := by decide +kernel
theorem D_M_word_60 : decode cX12_word 60 = .ok (.iload 5, 2) := by decide +kernel
theorem D_M_word_62 : decode cX12_word 62 = .ok (.iaload, 1) := by decide +kernel
theorem D_M_word_63 : decode cX12_word 63 = .ok (.ireturn, 1) := by decide +kernel
theorem D_M_word_64 : decode cX12_word 64 = .ok (.iload_n 3, 1) := by decide +kernel
theorem D_M_word_65 : decode cX12_word 65 = .ok (.aload_n 0, 1) := by decide +kernel
theorem D_M_word_66 : decode cX12_word 66 = .ok (.getfield 51, 3) := by decide +kernel
theorem D_M_word_69 : decode cX12_word 69 = .ok (.iload 5, 2) := by decide +kernel
theorem D_M_word_71 : decode cX12_word 71 = .ok (.iaload, 1) := by decide +kernel
theorem D_M_word_72 : decode cX12_word 72 = .ok (.if_icmp .ge (17), 3) := by decide +kernel
theorem D_M_word_75 : decode cX12_word 75 = .ok (.aload_n 0, 1) := by decide +kernel
theorem D_M_word_76 : decode cX12_word 76 = .ok (.getfield 54, 3) := by decide +kernel
theorem D_M_word_79 : decode cX12_word 79 = .ok (.iconst (3), 1) := by decide +kernel
theorem D_M_word_80 : decode cX12_word 80 = .ok (.iload 5, 2) := by decide +kernel
theorem D_M_word_82 : decode cX12_word 82 = .ok (.imul, 1) := by decide +kernel
theorem D_M_word_83 : decode cX12_word 83 = .ok (.iload_n 3, 1) := by decide +kernel
theorem D_M_word_84 : decode cX12_word 84 = .ok (.iadd, 1) := by decide +kernel
theorem D_M_word_85 : decode cX12_word 85 = .ok (.iaload, 1) := by decide +kernel
theorem D_M_word_86 : decode cX12_word 86 = .ok (.goto (5), 3) := by decide +kernel
theorem D_M_word_89 : decode cX12_word 89 = .ok (.bipush (-2), 2) := by decide +kernel
theorem D_M_word_91 : decode cX12_word 91 = .ok (.ireturn, 1) := by decide +kernel
def K_M_word : SC := (cX12_word, "TwoLevelsModel", 6, 207, false, [13, 79, 80, 81, 82, 83, 84, 85], NoQ)
def d_M_word : MD Int32 := mth tt 6 (sq (sI1 4 (kV 13 d_M_metaOf (lR 0) [vI (lI 1)]))
 (sq (sIf (cOr (cOr (eh2 c_eq (lI 4) (eC (-1))) (eh1 z_lt (lI 2))) (eh2 c_lt (lI 3) (eC (-1)))) (rtn (eC (-1))) sk)
 (sq (sE (kV 13 d_M_finds (lR 0) []))
 (sq (sIf (eh2 c_ge (lI 2) (eh2 (aI .int) (eh1 (gR 13 19) (lR 0)) (lI 4))) (rtn (eC (-2))) sk)
 (sq (sI1 5 (eh2 iaddF (eh2 imulF (eC (nI 20)) (lI 4)) (lI 2)))
 (sq (sIf (eh2 c_eq (lI 3) (eC (-1))) (rtn (eh2 (aI .int) (eh1 (gR 13 20) (lR 0)) (lI 5))) sk)
 (rtn (eIf (eh2 c_lt (lI 3) (eh2 (aI .int) (eh1 (gR 13 20) (lR 0)) (lI 5))) (eh2 (aI .int) (eh1 (gR 13 21) (lR 0)) (eh2 iaddF (eh2 imulF (eC (nI 3)) (lI 5)) (lI 3))) (eC (-2))))))))))
theorem m_M_word : MJ 207 [13, 79, 80, 81, 82, 83, 84, 85] yX12_word (some .int) eI (d_M_word) := MJ_of (K := K_M_word) (ri := .ireturn) (n1 := 0) (n2 := 0) (n3 := 0)
 (SJ_sq (p0 := 0) (p1 := 7) (nN := 0) (nB := 0) (nC := 0) (SJ_istore (i := 4) (p0 := 0) (p1 := 5) (EJ_callV (t := 13) (c := 12) (r := (RX12, TX12, 52)) (p0 := 0) (p1 := 1) (p2 := 2) (EJ_aload_n (j := 0) (i := 0) (pc := 0) D_M_word_0 rfl) (AJ_I (p0 := 1) (p1 := 2) (p2 := 2) (EJ_iload_n (j := 1) (i := 1) (pc := 1) D_M_word_1 rfl) AJ_nil) m_M_metaOf E1_I D_M_word_2 rfl rfl rfl q_1161 q_1162 q_56 q_97 ⟨by decide +kernel, by decide +kernel, by decide +kernel⟩ (by decide) (show 1 + 1 ≤ 207 from by decide) (fun _ h => absurd h List.not_mem_nil)) D_M_word_5)
 (SJ_sq (p0 := 7) (p1 := 24) (nN := 0) (nB := 0) (nC := 0) (SJ_if (p0 := 7) (pT := 22) (pF := 24) (nN := 24) (nB := 0) (nC := 0) (CJ_or (p0 := 7) (pM := 17) (pT := 22) (pF := 24) (CJ_or (p0 := 7) (pM := 13) (pT := 22) (pF := 17) (CJ_eq (off := 12) (tgt := 22) (p0 := 7) (p1 := 9) (p2 := 10) (EJ_iload (i := 4) (pc := 7) D_M_word_7) (EJ_iconst (n := -1) (v := (-1)) (pc := 9) D_M_word_9 (by decide +kernel)) D_M_word_10 rfl) (CZ_lt (off := 8) (tgt := 22) (p0 := 13) (p1 := 14) (EJ_iload_n (j := 2) (i := 2) (pc := 13) D_M_word_13 rfl) D_M_word_14 rfl)) (CJ_lt' (off := 5) (tgt := 24) (p0 := 17) (p1 := 18) (p2 := 19) (EJ_iload_n (j := 3) (i := 3) (pc := 17) D_M_word_17 rfl) (EJ_iconst (n := -1) (v := (-1)) (pc := 18) D_M_word_18 (by decide +kernel)) D_M_word_19 rfl)) (SJ_ret (p0 := 22) (p1 := 23) (EJ_iconst (n := -1) (v := (-1)) (pc := 22) D_M_word_22 (by decide +kernel)) D_M_word_23) SJ_sk)
 (SJ_sq (p0 := 24) (p1 := 28) (nN := 0) (nB := 0) (nC := 0) (SJ_void (p0 := 24) (p1 := 28) (EJ_callV (t := 13) (c := 12) (r := (RX12, TX12, 52)) (p0 := 24) (p1 := 25) (p2 := 25) (EJ_aload_n (j := 0) (i := 0) (pc := 24) D_M_word_24 rfl) AJ_nil m_M_finds E1_U D_M_word_25 rfl rfl rfl q_1167 q_1168 q_58 q_97 ⟨by decide +kernel, by decide +kernel, by decide +kernel⟩ (by decide) (show 206 + 1 ≤ 207 from by decide) (show ∀ x_ ∈ ([13, 79, 80, 81, 82, 83, 84, 85] : List Nat), x_ ∈ ([13, 79, 80, 81, 82, 83, 84, 85] : List Nat) from by decide)))
 (SJ_sq (p0 := 28) (p1 := 42) (nN := 0) (nB := 0) (nC := 0) (SJ_if (p0 := 28) (pT := 39) (pF := 42) (nN := 42) (nB := 0) (nC := 0) (CJ_ge' (off := 6) (tgt := 42) (p0 := 28) (p1 := 29) (p2 := 36) (EJ_iload_n (j := 2) (i := 2) (pc := 28) D_M_word_28 rfl) (EJ_iald (p0 := 29) (p1 := 33) (p2 := 35) (EJ_getR (t := 13) (c := 12) (kf := 19) (r := (RX12, TX12, 52)) (p0 := 29) (p1 := 30) (EJ_aload_n (j := 0) (i := 0) (pc := 29) D_M_word_29 rfl) D_M_word_30 ⟨rfl, rfl, by decide, q_951⟩ (fun _ _ => rfl)) (EJ_iload (i := 4) (pc := 33) D_M_word_33) D_M_word_35) D_M_word_36 rfl) (SJ_ret (p0 := 39) (p1 := 41) (EJ_bipush (n := -2) (v := (-2)) (pc := 39) D_M_word_39 (by decide +kernel)) D_M_word_41) SJ_sk)
 (SJ_sq (p0 := 42) (p1 := 51) (nN := 0) (nB := 0) (nC := 0) (SJ_istore (i := 5) (p0 := 42) (p1 := 49) (EJ_iadd (p0 := 42) (p1 := 47) (p2 := 48) (EJ_imul (p0 := 42) (p1 := 44) (p2 := 46) (EJ_bipush (n := 20) (v := (nI 20)) (pc := 42) D_M_word_42 (by decide +kernel)) (EJ_iload (i := 4) (pc := 44) D_M_word_44) D_M_word_46) (EJ_iload_n (j := 2) (i := 2) (pc := 47) D_M_word_47 rfl) D_M_word_48) D_M_word_49)
 (SJ_sq (p0 := 51) (p1 := 64) (nN := 0) (nB := 0) (nC := 0) (SJ_if (p0 := 51) (pT := 56) (pF := 64) (nN := 64) (nB := 0) (nC := 0) (CJ_eq' (off := 11) (tgt := 64) (p0 := 51) (p1 := 52) (p2 := 53) (EJ_iload_n (j := 3) (i := 3) (pc := 51) D_M_word_51 rfl) (EJ_iconst (n := -1) (v := (-1)) (pc := 52) D_M_word_52 (by decide +kernel)) D_M_word_53 rfl) (SJ_ret (p0 := 56) (p1 := 63) (EJ_iald (p0 := 56) (p1 := 60) (p2 := 62) (EJ_getR (t := 13) (c := 12) (kf := 20) (r := (RX12, TX12, 52)) (p0 := 56) (p1 := 57) (EJ_aload_n (j := 0) (i := 0) (pc := 56) D_M_word_56 rfl) D_M_word_57 ⟨rfl, rfl, by decide, q_952⟩ (fun _ _ => rfl)) (EJ_iload (i := 5) (pc := 60) D_M_word_60) D_M_word_62) D_M_word_63) SJ_sk)
 (SJ_ret (p0 := 64) (p1 := 91) (EJ_if (p0 := 64) (pT := 75) (pF := 89) (pE := 86) (p1 := 91) (CJ_lt' (off := 17) (tgt := 89) (p0 := 64) (p1 := 65) (p2 := 72) (EJ_iload_n (j := 3) (i := 3) (pc := 64) D_M_word_64 rfl) (EJ_iald (p0 := 65) (p1 := 69) (p2 := 71) (EJ_getR (t := 13) (c := 12) (kf := 20) (r := (RX12, TX12, 52)) (p0 := 65) (p1 := 66) (EJ_aload_n (j := 0) (i := 0) (pc := 65) D_M_word_65 rfl) D_M_word_66 ⟨rfl, rfl, by decide, q_952⟩ (fun _ _ => rfl)) (EJ_iload (i := 5) (pc := 69) D_M_word_69) D_M_word_71) D_M_word_72 rfl) (EJ_iald (p0 := 75) (p1 := 79) (p2 := 85) (EJ_getR (t := 13) (c := 12) (kf := 21) (r := (RX12, TX12, 52)) (p0 := 75) (p1 := 76) (EJ_aload_n (j := 0) (i := 0) (pc := 75) D_M_word_75 rfl) D_M_word_76 ⟨rfl, rfl, by decide, q_953⟩ (fun _ _ => rfl)) (EJ_iadd (p0 := 79) (p1 := 83) (p2 := 84) (EJ_imul (p0 := 79) (p1 := 80) (p2 := 82) (EJ_iconst (n := 3) (v := (nI 3)) (pc := 79) D_M_word_79 (by decide +kernel)) (EJ_iload (i := 5) (pc := 80) D_M_word_80) D_M_word_82) (EJ_iload_n (j := 3) (i := 3) (pc := 83) D_M_word_83 rfl) D_M_word_84) D_M_word_85) (Lead.goto (K := K_M_word) (pc := 86) (tgt := 91) D_M_word_86 rfl) (EJ_bipush (n := -2) (v := (-2)) (pc := 89) D_M_word_89 (by decide +kernel))) D_M_word_91)))))))
 RTm_int q_1227 (by decide +kernel) rfl (fun h => by cases h) (show 6 ≤ 40 from by decide) (fun _ => trivial)
