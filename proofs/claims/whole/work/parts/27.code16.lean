/-! the program: part 16 -/
theorem D_M_spelled_0 : decode cX12_spelled 0 = .ok (.aload_n 0, 1) := by decide +kernel
theorem D_M_spelled_1 : decode cX12_spelled 1 = .ok (.iload_n 1, 1) := by decide +kernel
theorem D_M_spelled_2 : decode cX12_spelled 2 = .ok (.invokevirtual 378, 3) := by decide +kernel
theorem D_M_spelled_5 : decode cX12_spelled 5 = .ok (.ifCond .eq (39), 3) := by decide +kernel
theorem D_M_spelled_8 : decode cX12_spelled 8 = .ok (.iload_n 2, 1) := by decide +kernel
theorem D_M_spelled_9 : decode cX12_spelled 9 = .ok (.iconst (0), 1) := by decide +kernel
theorem D_M_spelled_10 : decode cX12_spelled 10 = .ok (.aload_n 0, 1) := by decide +kernel
theorem D_M_spelled_11 : decode cX12_spelled 11 = .ok (.getfield 99, 3) := by decide +kernel
theorem D_M_spelled_14 : decode cX12_spelled 14 = .ok (.bipush (12), 2) := by decide +kernel
theorem D_M_spelled_16 : decode cX12_spelled 16 = .ok (.iload_n 1, 1) := by decide +kernel
theorem D_M_spelled_17 : decode cX12_spelled 17 = .ok (.imul, 1) := by decide +kernel
theorem D_M_spelled_18 : decode cX12_spelled 18 = .ok (.bipush (6), 2) := by decide +kernel
theorem D_M_spelled_20 : decode cX12_spelled 20 = .ok (.iadd, 1) := by decide +kernel
theorem D_M_spelled_21 : decode cX12_spelled 21 = .ok (.iaload, 1) := by decide +kernel
theorem D_M_spelled_22 : decode cX12_spelled 22 = .ok (.iconst (1), 1) := by decide +kernel
theorem D_M_spelled_23 : decode cX12_spelled 23 = .ok (.isub, 1) := by decide +kernel
theorem D_M_spelled_24 : decode cX12_spelled 24 = .ok (.invokestatic 108, 3) := by decide +kernel
theorem D_M_spelled_27 : decode cX12_spelled 27 = .ok (.ifCond .eq (17), 3) := by decide +kernel
theorem D_M_spelled_30 : decode cX12_spelled 30 = .ok (.aload_n 0, 1) := by decide +kernel
theorem D_M_spelled_31 : decode cX12_spelled 31 = .ok (.getfield 102, 3) := by decide +kernel
theorem D_M_spelled_34 : decode cX12_spelled 34 = .ok (.bipush (10), 2) := by decide +kernel
theorem D_M_spelled_36 : decode cX12_spelled 36 = .ok (.iload_n 1, 1) := by decide +kernel
theorem D_M_spelled_37 : decode cX12_spelled 37 = .ok (.imul, 1) := by decide +kernel
theorem D_M_spelled_38 : decode cX12_spelled 38 = .ok (.iload_n 2, 1) := by decide +kernel
theorem D_M_spelled_39 : decode cX12_spelled 39 = .ok (.iadd, 1) := by decide +kernel
theorem D_M_spelled_40 : decode cX12_spelled 40 = .ok (.iaload, 1) := by decide +kernel
theorem D_M_spelled_41 : decode cX12_spelled 41 = .ok (.goto (4), 3) := by decide +kernel
theorem D_M_spelled_44 : decode cX12_spelled 44 = .ok (.iconst (-1), 1) := by decide +kernel
theorem D_M_spelled_45 : decode cX12_spelled 45 = .ok (.ireturn, 1) := by decide +kernel
def K_M_spelled : SC := (cX12_spelled, "TwoLevelsModel", 3, 210, false, [13, 79, 80, 81, 82, 83, 84, 85, 87, 88, 89, 92, 93, 94, 95, 96, 97, 98, 99, 100, 101], NoQ)
def d_M_spelled : MD Int32 := mth tt 3 (rtn (eIf (cAnd (eh1 z_ne (kV 13 d_M_hasNode (lR 0) [vI (lI 1)])) (eh1 z_ne (kS d_M_in [vI (lI 2), vI (eC (nI 0)), vI (eh2 isubF (eh2 (aI .int) (eh1 (gR 13 45) (lR 0)) (eh2 iaddF (eh2 imulF (eC (nI 12)) (lI 1)) (eC (nI 6)))) (eC (nI 1)))]))) (eh2 (aI .int) (eh1 (gR 13 46) (lR 0)) (eh2 iaddF (eh2 imulF (eC (nI 10)) (lI 1)) (lI 2))) (eC (-1))))
theorem m_M_spelled : MJ 210 [13, 79, 80, 81, 82, 83, 84, 85, 87, 88, 89, 92, 93, 94, 95, 96, 97, 98, 99, 100, 101] yX12_spelled (some .int) eI (d_M_spelled) := MJ_of (K := K_M_spelled) (ri := .ireturn) (n1 := 0) (n2 := 0) (n3 := 0)
 (SJ_ret (p0 := 0) (p1 := 45) (EJ_if (p0 := 0) (pT := 30) (pF := 44) (pE := 41) (p1 := 45) (CJ_and (p0 := 0) (pM := 8) (pT := 30) (pF := 44) (CZ_ne' (off := 39) (tgt := 44) (p0 := 0) (p1 := 5) (EJ_callV (t := 13) (c := 12) (r := (RX12, TX12, 52)) (p0 := 0) (p1 := 1) (p2 := 2) (EJ_aload_n (j := 0) (i := 0) (pc := 0) D_M_spelled_0 rfl) (AJ_I (p0 := 1) (p1 := 2) (p2 := 2) (EJ_iload_n (j := 1) (i := 1) (pc := 1) D_M_spelled_1 rfl) AJ_nil) m_M_hasNode E1_I D_M_spelled_2 rfl rfl rfl q_1334 q_1335 q_87 q_97 ⟨by decide +kernel, by decide +kernel, by decide +kernel⟩ (by decide) (show 209 + 1 ≤ 210 from by decide) (show ∀ x_ ∈ ([13, 79, 80, 81, 82, 83, 84, 85, 87, 88, 89, 92, 93, 94, 95, 96, 97, 98, 99, 100, 101] : List Nat), x_ ∈ ([13, 79, 80, 81, 82, 83, 84, 85, 87, 88, 89, 92, 93, 94, 95, 96, 97, 98, 99, 100, 101] : List Nat) from by decide)) D_M_spelled_5 rfl) (CZ_ne' (off := 17) (tgt := 44) (p0 := 8) (p1 := 27) (EJ_callS (p0 := 8) (p1 := 24) (AJ_I (p0 := 8) (p1 := 9) (p2 := 24) (EJ_iload_n (j := 2) (i := 2) (pc := 8) D_M_spelled_8 rfl) (AJ_I (p0 := 9) (p1 := 10) (p2 := 24) (EJ_iconst (n := 0) (v := (nI 0)) (pc := 9) D_M_spelled_9 (by decide +kernel)) (AJ_I (p0 := 10) (p1 := 24) (p2 := 24) (EJ_isub (p0 := 10) (p1 := 22) (p2 := 23) (EJ_iald (p0 := 10) (p1 := 14) (p2 := 21) (EJ_getR (t := 13) (c := 12) (kf := 45) (r := (RX12, TX12, 52)) (p0 := 10) (p1 := 11) (EJ_aload_n (j := 0) (i := 0) (pc := 10) D_M_spelled_10 rfl) D_M_spelled_11 ⟨rfl, rfl, by decide, q_977⟩ (fun _ _ => rfl)) (EJ_iadd (p0 := 14) (p1 := 18) (p2 := 20) (EJ_imul (p0 := 14) (p1 := 16) (p2 := 17) (EJ_bipush (n := 12) (v := (nI 12)) (pc := 14) D_M_spelled_14 (by decide +kernel)) (EJ_iload_n (j := 1) (i := 1) (pc := 16) D_M_spelled_16 rfl) D_M_spelled_17) (EJ_bipush (n := 6) (v := (nI 6)) (pc := 18) D_M_spelled_18 (by decide +kernel)) D_M_spelled_20) D_M_spelled_21) (EJ_iconst (n := 1) (v := (nI 1)) (pc := 22) D_M_spelled_22 (by decide +kernel)) D_M_spelled_23) AJ_nil))) m_M_in E1_I D_M_spelled_24 q_1071 q_1072 q_97 ⟨by decide +kernel, by decide +kernel, by decide +kernel⟩ (by decide) (show 1 + 1 ≤ 210 from by decide) (fun _ h => absurd h List.not_mem_nil)) D_M_spelled_27 rfl)) (EJ_iald (p0 := 30) (p1 := 34) (p2 := 40) (EJ_getR (t := 13) (c := 12) (kf := 46) (r := (RX12, TX12, 52)) (p0 := 30) (p1 := 31) (EJ_aload_n (j := 0) (i := 0) (pc := 30) D_M_spelled_30 rfl) D_M_spelled_31 ⟨rfl, rfl, by decide, q_978⟩ (fun _ _ => rfl)) (EJ_iadd (p0 := 34) (p1 := 38) (p2 := 39) (EJ_imul (p0 := 34) (p1 := 36) (p2 := 37) (EJ_bipush (n := 10) (v := (nI 10)) (pc := 34) D_M_spelled_34 (by decide +kernel)) (EJ_iload_n (j := 1) (i := 1) (pc := 36) D_M_spelled_36 rfl) D_M_spelled_37) (EJ_iload_n (j := 2) (i := 2) (pc := 38) D_M_spelled_38 rfl) D_M_spelled_39) D_M_spelled_40) (Lead.goto (K := K_M_spelled) (pc := 41) (tgt := 45) D_M_spelled_41 rfl) (EJ_iconst (n := -1) (v := (-1)) (pc := 44) D_M_spelled_44 (by decide +kernel))) D_M_spelled_45)
 RTm_int q_1340 (by decide +kernel) rfl (fun h => by cases h) (show 3 ≤ 40 from by decide) (fun _ => trivial)
theorem D_M_steps_0 : decode cX12_steps 0 = .ok (.iload_n 1, 1) := by decide +kernel
theorem D_M_steps_1 : decode cX12_steps 1 = .ok (.iconst (0), 1) := by decide +kernel
theorem D_M_steps_2 : decode cX12_steps 2 = .ok (.iconst (3), 1) := by decide +kernel
theorem D_M_steps_3 : decode cX12_steps 3 = .ok (.invokestatic 108, 3) := by decide +kernel
theorem D_M_steps_6 : decode cX12_steps 6 = .ok (.ifCond .ne (5), 3) := by decide +kernel
theorem D_M_steps_9 : decode cX12_steps 9 = .ok (.iconst (-1), 1) := by decide +kernel
theorem D_M_steps_10 : decode cX12_steps 10 = .ok (.ireturn, 1) := by decide +kernel
theorem D_M_steps_11 : decode cX12_steps 11 = .ok (.aload_n 0, 1) := by decide +kernel
theorem D_M_steps_12 : decode cX12_steps 12 = .ok (.invokevirtual 375, 3) := by decide +kernel
theorem D_M_steps_15 : decode cX12_steps 15 = .ok (.aload_n 0, 1) := by decide +kernel
theorem D_M_steps_16 : decode cX12_steps 16 = .ok (.getfield 323, 3) := by decide +kernel
theorem D_M_steps_19 : decode cX12_steps 19 = .ok (.ifCond .eq (6), 3) := by decide +kernel
theorem D_M_steps_22 : decode cX12_steps 22 = .ok (.bipush (-3), 2) := by decide +kernel
theorem D_M_steps_24 : decode cX12_steps 24 = .ok (.ireturn, 1) := by decide +kernel
theorem D_M_steps_25 : decode cX12_steps 25 = .ok (.iload_n 1, 1) := by decide +kernel
theorem D_M_steps_26 : decode cX12_steps 26 = .ok (.ifCond .ne (10), 3) := by decide +kernel
theorem D_M_steps_29 : decode cX12_steps 29 = .ok (.aload_n 0, 1) := by decide +kernel
theorem D_M_steps_30 : decode cX12_steps 30 = .ok (.getfield 326, 3) := by decide +kernel
theorem D_M_steps_33 : decode cX12_steps 33 = .ok (.goto (31), 3) := by decide +kernel
theorem D_M_steps_36 : decode cX12_steps 36 = .ok (.iload_n 1, 1) := by decide +kernel
theorem D_M_steps_37 : decode cX12_steps 37 = .ok (.iconst (1), 1) := by decide +kernel
theorem D_M_steps_38 : decode cX12_steps 38 = .ok (.if_icmp .ne (10), 3) := by decide +kernel
theorem D_M_steps_41 : decode cX12_steps 41 = .ok (.aload_n 0, 1) := by decide +kernel
theorem D_M_steps_42 : decode cX12_steps 42 = .ok (.getfield 349, 3) := by decide +kernel
theorem D_M_steps_45 : decode cX12_steps 45 = .ok (.goto (19), 3) := by decide +kernel
theorem D_M_steps_48 : decode cX12_steps 48 = .ok (.iload_n 1, 1) := by decide +kernel
theorem D_M_steps_49 : decode cX12_steps 49 = .ok (.iconst (2), 1) := by decide +kernel
theorem D_M_steps_50 : decode cX12_steps 50 = .ok (.if_icmp .ne (10), 3) := by decide +kernel
theorem D_M_steps_53 : decode cX12_steps 53 = .ok (.aload_n 0, 1) := by decide +kernel
theorem D_M_steps_54 : decode cX12_steps 54 = .ok (.getfield 340, 3) := by decide +kernel
theorem D_M_steps_57 : decode cX12_steps 57 = .ok (.goto (7), 3) := by decide +kernel
theorem D_M_steps_60 : decode cX12_steps 60 = .ok (.aload_n 0, 1) := by decide +kernel
theorem D_M_steps_61 : decode cX12_steps 61 = .ok (.getfield 329, 3) := by decide +kernel
theorem D_M_steps_64 : decode cX12_steps 64 = .ok (.ireturn, 1) := by decide +kernel
def K_M_steps : SC := (cX12_steps, "TwoLevelsModel", 2, 209, false, [13, 79, 80, 81, 82, 83, 84, 85, 87, 88, 89, 92, 93, 94, 95, 96, 97, 98, 99, 100, 101], NoQ)
def d_M_steps : MD Int32 := mth tt 2 (sq (sIf (cNot (eh1 z_ne (kS d_M_in [vI (lI 1), vI (eC (nI 0)), vI (eC (nI 3))]))) (rtn (eC (-1))) sk)
 (sq (sE (kV 13 d_M_searchesText (lR 0) []))
 (sq (sIf (eh1 z_ne (eh1 (gI 13 37) (lR 0))) (rtn (eC (-3))) sk)
 (rtn (eIf (eh1 z_eq (lI 1)) (eh1 (gI 13 33) (lR 0)) (eIf (eh2 c_eq (lI 1) (eC (nI 1))) (eh1 (gI 13 34) (lR 0)) (eIf (eh2 c_eq (lI 1) (eC (nI 2))) (eh1 (gI 13 35) (lR 0)) (eh1 (gI 13 36) (lR 0)))))))))
theorem m_M_steps : MJ 209 [13, 79, 80, 81, 82, 83, 84, 85, 87, 88, 89, 92, 93, 94, 95, 96, 97, 98, 99, 100, 101] yX12_steps (some .int) eI (d_M_steps) := MJ_of (K := K_M_steps) (ri := .ireturn) (n1 := 0) (n2 := 0) (n3 := 0)
 (SJ_sq (p0 := 0) (p1 := 11) (nN := 0) (nB := 0) (nC := 0) (SJ_if (p0 := 0) (pT := 9) (pF := 11) (nN := 11) (nB := 0) (nC := 0) (CJ_not (p0 := 0) (pT := 9) (pF := 11) (CZ_ne (off := 5) (tgt := 11) (p0 := 0) (p1 := 6) (EJ_callS (p0 := 0) (p1 := 3) (AJ_I (p0 := 0) (p1 := 1) (p2 := 3) (EJ_iload_n (j := 1) (i := 1) (pc := 0) D_M_steps_0 rfl) (AJ_I (p0 := 1) (p1 := 2) (p2 := 3) (EJ_iconst (n := 0) (v := (nI 0)) (pc := 1) D_M_steps_1 (by decide +kernel)) (AJ_I (p0 := 2) (p1 := 3) (p2 := 3) (EJ_iconst (n := 3) (v := (nI 3)) (pc := 2) D_M_steps_2 (by decide +kernel)) AJ_nil))) m_M_in E1_I D_M_steps_3 q_1071 q_1072 q_97 ⟨by decide +kernel, by decide +kernel, by decide +kernel⟩ (by decide) (show 1 + 1 ≤ 209 from by decide) (fun _ h => absurd h List.not_mem_nil)) D_M_steps_6 rfl)) (SJ_ret (p0 := 9) (p1 := 10) (EJ_iconst (n := -1) (v := (-1)) (pc := 9) D_M_steps_9 (by decide +kernel)) D_M_steps_10) SJ_sk)
 (SJ_sq (p0 := 11) (p1 := 15) (nN := 0) (nB := 0) (nC := 0) (SJ_void (p0 := 11) (p1 := 15) (EJ_callV (t := 13) (c := 12) (r := (RX12, TX12, 52)) (p0 := 11) (p1 := 12) (p2 := 12) (EJ_aload_n (j := 0) (i := 0) (pc := 11) D_M_steps_11 rfl) AJ_nil m_M_searchesText E1_U D_M_steps_12 rfl rfl rfl q_1319 q_1320 q_86 q_97 ⟨by decide +kernel, by decide +kernel, by decide +kernel⟩ (by decide) (show 208 + 1 ≤ 209 from by decide) (show ∀ x_ ∈ ([13, 79, 80, 81, 82, 83, 84, 85, 87, 88, 89, 92, 93, 94, 95, 96, 97, 98, 99, 100, 101] : List Nat), x_ ∈ ([13, 79, 80, 81, 82, 83, 84, 85, 87, 88, 89, 92, 93, 94, 95, 96, 97, 98, 99, 100, 101] : List Nat) from by decide)))
 (SJ_sq (p0 := 15) (p1 := 25) (nN := 0) (nB := 0) (nC := 0) (SJ_if (p0 := 15) (pT := 22) (pF := 25) (nN := 25) (nB := 0) (nC := 0) (CZ_ne' (off := 6) (tgt := 25) (p0 := 15) (p1 := 19) (EJ_getI (t := 13) (c := 12) (kf := 37) (r := (RX12, TX12, 52)) (p0 := 15) (p1 := 16) (EJ_aload_n (j := 0) (i := 0) (pc := 15) D_M_steps_15 rfl) D_M_steps_16 ⟨rfl, rfl, by decide, q_969⟩ (fun _ _ => rfl)) D_M_steps_19 rfl) (SJ_ret (p0 := 22) (p1 := 24) (EJ_bipush (n := -3) (v := (-3)) (pc := 22) D_M_steps_22 (by decide +kernel)) D_M_steps_24) SJ_sk)
 (SJ_ret (p0 := 25) (p1 := 64) (EJ_if (p0 := 25) (pT := 29) (pF := 36) (pE := 33) (p1 := 64) (CZ_eq' (off := 10) (tgt := 36) (p0 := 25) (p1 := 26) (EJ_iload_n (j := 1) (i := 1) (pc := 25) D_M_steps_25 rfl) D_M_steps_26 rfl) (EJ_getI (t := 13) (c := 12) (kf := 33) (r := (RX12, TX12, 52)) (p0 := 29) (p1 := 30) (EJ_aload_n (j := 0) (i := 0) (pc := 29) D_M_steps_29 rfl) D_M_steps_30 ⟨rfl, rfl, by decide, q_965⟩ (fun _ _ => rfl)) (Lead.goto (K := K_M_steps) (pc := 33) (tgt := 64) D_M_steps_33 rfl) (EJ_if (p0 := 36) (pT := 41) (pF := 48) (pE := 45) (p1 := 64) (CJ_eq' (off := 10) (tgt := 48) (p0 := 36) (p1 := 37) (p2 := 38) (EJ_iload_n (j := 1) (i := 1) (pc := 36) D_M_steps_36 rfl) (EJ_iconst (n := 1) (v := (nI 1)) (pc := 37) D_M_steps_37 (by decide +kernel)) D_M_steps_38 rfl) (EJ_getI (t := 13) (c := 12) (kf := 34) (r := (RX12, TX12, 52)) (p0 := 41) (p1 := 42) (EJ_aload_n (j := 0) (i := 0) (pc := 41) D_M_steps_41 rfl) D_M_steps_42 ⟨rfl, rfl, by decide, q_966⟩ (fun _ _ => rfl)) (Lead.goto (K := K_M_steps) (pc := 45) (tgt := 64) D_M_steps_45 rfl) (EJ_if (p0 := 48) (pT := 53) (pF := 60) (pE := 57) (p1 := 64) (CJ_eq' (off := 10) (tgt := 60) (p0 := 48) (p1 := 49) (p2 := 50) (EJ_iload_n (j := 1) (i := 1) (pc := 48) D_M_steps_48 rfl) (EJ_iconst (n := 2) (v := (nI 2)) (pc := 49) D_M_steps_49 (by decide +kernel)) D_M_steps_50 rfl) (EJ_getI (t := 13) (c := 12) (kf := 35) (r := (RX12, TX12, 52)) (p0 := 53) (p1 := 54) (EJ_aload_n (j := 0) (i := 0) (pc := 53) D_M_steps_53 rfl) D_M_steps_54 ⟨rfl, rfl, by decide, q_967⟩ (fun _ _ => rfl)) (Lead.goto (K := K_M_steps) (pc := 57) (tgt := 64) D_M_steps_57 rfl) (EJ_getI (t := 13) (c := 12) (kf := 36) (r := (RX12, TX12, 52)) (p0 := 60) (p1 := 61) (EJ_aload_n (j := 0) (i := 0) (pc := 60) D_M_steps_60 rfl) D_M_steps_61 ⟨rfl, rfl, by decide, q_968⟩ (fun _ _ => rfl))))) D_M_steps_64))))
 RTm_int q_1325 (by decide +kernel) rfl (fun h => by cases h) (show 2 ≤ 40 from by decide) (fun _ => trivial)
theorem D_M_swap_0 : decode cX12_swap 0 = .ok (.aload_n 0, 1) := by decide +kernel
theorem D_M_swap_1 : decode cX12_swap 1 = .ok (.iload_n 1, 1) := by decide +kernel
theorem D_M_swap_2 : decode cX12_swap 2 = .ok (.invokevirtual 217, 3) := by decide +kernel
theorem D_M_swap_5 : decode cX12_swap 5 = .ok (.ifCond .eq (11), 3) := by decide +kernel
theorem D_M_swap_8 : decode cX12_swap 8 = .ok (.aload_n 0, 1) := by decide +kernel
theorem D_M_swap_9 : decode cX12_swap 9 = .ok (.iload_n 2, 1) := by decide +kernel
theorem D_M_swap_10 : decode cX12_swap 10 = .ok (.invokevirtual 217, 3) := by decide +kernel
theorem D_M_swap_13 : decode cX12_swap 13 = .ok (.ifCond .ne (5), 3) := by decide +kernel
theorem D_M_swap_16 : decode cX12_swap 16 = .ok (.iconst (-1), 1) := by decide +kernel
theorem D_M_swap_17 : decode cX12_swap 17 = .ok (.ireturn, 1) := by decide +kernel
theorem D_M_swap_18 : decode cX12_swap 18 = .ok (.iload_n 1, 1) := by decide +kernel
theorem D_M_swap_19 : decode cX12_swap 19 = .ok (.iload_n 2, 1) := by decide +kernel
theorem D_M_swap_20 : decode cX12_swap 20 = .ok (.if_icmp .ne (6), 3) := by decide +kernel
theorem D_M_swap_23 : decode cX12_swap 23 = .ok (.bipush (-2), 2) := by decide +kernel
theorem D_M_swap_25 : decode cX12_swap 25 = .ok (.ireturn, 1) := by decide +kernel
theorem D_M_swap_26 : decode cX12_swap 26 = .ok (.aload_n 0, 1) := by decide +kernel
theorem D_M_swap_27 : decode cX12_swap 27 = .ok (.invokevirtual 214, 3) := by decide +kernel
theorem D_M_swap_30 : decode cX12_swap 30 = .ok (.iconst (0), 1) := by decide +kernel
theorem D_M_swap_31 : decode cX12_swap 31 = .ok (.istore_n 3, 1) := by decide +kernel
theorem D_M_swap_32 : decode cX12_swap 32 = .ok (.iload_n 3, 1) := by decide +kernel
theorem D_M_swap_33 : decode cX12_swap 33 = .ok (.sipush (140), 3) := by decide +kernel
theorem D_M_swap_36 : decode cX12_swap 36 = .ok (.if_icmp .ge (77), 3) := by decide +kernel
theorem D_M_swap_39 : decode cX12_swap 39 = .ok (.aload_n 0, 1) := by decide +kernel
theorem D_M_swap_40 : decode cX12_swap 40 = .ok (.getfield 9, 3) := by decide +kernel
theorem D_M_swap_43 : decode cX12_swap 43 = .ok (.sipush (184), 3) := by decide +kernel
theorem D_M_swap_46 : decode cX12_swap 46 = .ok (.sipush (140), 3) := by decide +kernel
theorem D_M_swap_49 : decode cX12_swap 49 = .ok (.iload_n 1, 1) := by decide +kernel
theorem D_M_swap_50 : decode cX12_swap 50 = .ok (.imul, 1) := by decide +kernel
theorem D_M_swap_51 : decode cX12_swap 51 = .ok (.iadd, 1) := by decide +kernel
theorem D_M_swap_52 : decode cX12_swap 52 = .ok (.iload_n 3, 1) := by decide +kernel
theorem D_M_swap_53 : decode cX12_swap 53 = .ok (.iadd, 1) := by decide +kernel
theorem D_M_swap_54 : decode cX12_swap 54 = .ok (.iaload, 1) := by decide +kernel
theorem D_M_swap_55 : decode cX12_swap 55 = .ok (.istore 4, 2) := by decide +kernel
theorem D_M_swap_57 : decode cX12_swap 57 = .ok (.aload_n 0, 1) := by decide +kernel
theorem D_M_swap_58 : decode cX12_swap 58 = .ok (.getfield 9, 3) := by decide +kernel
theorem D_M_swap_61 : decode cX12_swap 61 = .ok (.sipush (184), 3) := by decide +kernel
theorem D_M_swap_64 : decode cX12_swap 64 = .ok (.sipush (140), 3) := by decide +kernel
theorem D_M_swap_67 : decode cX12_swap 67 = .ok (.iload_n 1, 1) := by decide +kernel
theorem D_M_swap_68 : decode cX12_swap 68 = .ok (.imul, 1) := by decide +kernel
theorem D_M_swap_69 : decode cX12_swap 69 = .ok (.iadd, 1) := by decide +kernel
theorem D_M_swap_70 : decode cX12_swap 70 = .ok (.iload_n 3, 1) := by decide +kernel
theorem D_M_swap_71 : decode cX12_swap 71 = .ok (.iadd, 1) := by decide +kernel
theorem D_M_swap_72 : decode cX12_swap 72 = .ok (.aload_n 0, 1) := by decide +kernel
theorem D_M_swap_73 : decode cX12_swap 73 = .ok (.getfield 9, 3) := by decide +kernel
theorem D_M_swap_76 : decode cX12_swap 76 = .ok (.sipush (184), 3) := by decide +kernel
theorem D_M_swap_79 : decode cX12_swap 79 = .ok (.sipush (140), 3) := by decide +kernel
theorem D_M_swap_82 : decode cX12_swap 82 = .ok (.iload_n 2, 1) := by decide +kernel
theorem D_M_swap_83 : decode cX12_swap 83 = .ok (.imul, 1) := by decide +kernel
theorem D_M_swap_84 : decode cX12_swap 84 = .ok (.iadd, 1) := by decide +kernel
theorem D_M_swap_85 : decode cX12_swap 85 = .ok (.iload_n 3, 1) := by decide +kernel
theorem D_M_swap_86 : decode cX12_swap 86 = .ok (.iadd, 1) := by decide +kernel
theorem D_M_swap_87 : decode cX12_swap 87 = .ok (.iaload, 1) := by decide +kernel
theorem D_M_swap_88 : decode cX12_swap 88 = .ok (.iastore, 1) := by decide +kernel
theorem D_M_swap_89 : decode cX12_swap 89 = .ok (.aload_n 0, 1) := by decide +kernel
theorem D_M_swap_90 : decode cX12_swap 90 = .ok (.getfield 9, 3) := by decide +kernel
theorem D_M_swap_93 : decode cX12_swap 93 = .ok (.sipush (184), 3) := by decide +kernel
theorem D_M_swap_96 : decode cX12_swap 96 = .ok (.sipush (140), 3) := by decide +kernel
theorem D_M_swap_99 : decode cX12_swap 99 = .ok (.iload_n 2, 1) := by decide +kernel
theorem D_M_swap_100 : decode cX12_swap 100 = .ok (.imul, 1) := by decide +kernel
theorem D_M_swap_101 : decode cX12_swap 101 = .ok (.iadd, 1) := by decide +kernel
theorem D_M_swap_102 : decode cX12_swap 102 = .ok (.iload_n 3, 1) := by decide +kernel
theorem D_M_swap_103 : decode cX12_swap 103 = .ok (.iadd, 1) := by decide +kernel
theorem D_M_swap_104 : decode cX12_swap 104 = .ok (.iload 4, 2) := by decide +kernel
theorem D_M_swap_106 : decode cX12_swap 106 = .ok (.iastore, 1) := by decide +kernel
theorem D_M_swap_107 : decode cX12_swap 107 = .ok (.iinc 3 (1), 3) := by decide +kernel
theorem D_M_swap_110 : decode cX12_swap 110 = .ok (.goto (-78), 3) := by decide +kernel
theorem D_M_swap_113 : decode cX12_swap 113 = .ok (.iconst (1), 1) := by decide +kernel
theorem D_M_swap_114 : decode cX12_swap 114 = .ok (.ireturn, 1) := by decide +kernel
def K_M_swap : SC := (cX12_swap, "TwoLevelsModel", 5, 3, false, [13, 70, 71, 72, 73], NoQ)
def d_M_swap : MD Int32 := mth tt 5 (sq (sIf (cOr (cNot (eh1 z_ne (kV 13 d_M_isRule (lR 0) [vI (lI 1)]))) (cNot (eh1 z_ne (kV 13 d_M_isRule (lR 0) [vI (lI 2)])))) (rtn (eC (-1))) sk)
 (sq (sIf (eh2 c_eq (lI 1) (lI 2)) (rtn (eC (-2))) sk)
 (sq (sE (kV 13 d_M_keepsPast (lR 0) []))
 (sq (sq (sI1 3 (eC (nI 0)))
 (loop (eh2 c_lt (lI 3) (eC (nI 140)))
 (sq (sI1 4 (eh2 (aI .int) (eh1 (gR 13 0) (lR 0)) (eh2 iaddF (eh2 iaddF (eC (nI 184)) (eh2 imulF (eC (nI 140)) (lI 1))) (lI 3))))
 (sq (sh3 (stI [70]) (eh1 (gR 13 0) (lR 0)) (eh2 iaddF (eh2 iaddF (eC (nI 184)) (eh2 imulF (eC (nI 140)) (lI 1))) (lI 3)) (eh2 (aI .int) (eh1 (gR 13 0) (lR 0)) (eh2 iaddF (eh2 iaddF (eC (nI 184)) (eh2 imulF (eC (nI 140)) (lI 2))) (lI 3))))
 (sh3 (stI [70]) (eh1 (gR 13 0) (lR 0)) (eh2 iaddF (eh2 iaddF (eC (nI 184)) (eh2 imulF (eC (nI 140)) (lI 2))) (lI 3)) (lI 4))))
 (sInc 3 (nI 1))))
 (rtn (eC (nI 1)))))))
theorem m_M_swap : MJ 3 [13, 70, 71, 72, 73] yX12_swap (some .int) eI (d_M_swap) := MJ_of (K := K_M_swap) (ri := .ireturn) (n1 := 0) (n2 := 0) (n3 := 0)
 (SJ_sq (p0 := 0) (p1 := 18) (nN := 0) (nB := 0) (nC := 0) (SJ_if (p0 := 0) (pT := 16) (pF := 18) (nN := 18) (nB := 0) (nC := 0) (CJ_or (p0 := 0) (pM := 8) (pT := 16) (pF := 18) (CJ_not (p0 := 0) (pT := 16) (pF := 8) (CZ_ne' (off := 11) (tgt := 16) (p0 := 0) (p1 := 5) (EJ_callV (t := 13) (c := 12) (r := (RX12, TX12, 52)) (p0 := 0) (p1 := 1) (p2 := 2) (EJ_aload_n (j := 0) (i := 0) (pc := 0) D_M_swap_0 rfl) (AJ_I (p0 := 1) (p1 := 2) (p2 := 2) (EJ_iload_n (j := 1) (i := 1) (pc := 1) D_M_swap_1 rfl) AJ_nil) m_M_isRule E1_I D_M_swap_2 rfl rfl rfl q_1150 q_1151 q_55 q_97 ⟨by decide +kernel, by decide +kernel, by decide +kernel⟩ (by decide) (show 2 + 1 ≤ 3 from by decide) (fun _ h => absurd h List.not_mem_nil)) D_M_swap_5 rfl)) (CJ_not (p0 := 8) (pT := 16) (pF := 18) (CZ_ne (off := 5) (tgt := 18) (p0 := 8) (p1 := 13) (EJ_callV (t := 13) (c := 12) (r := (RX12, TX12, 52)) (p0 := 8) (p1 := 9) (p2 := 10) (EJ_aload_n (j := 0) (i := 0) (pc := 8) D_M_swap_8 rfl) (AJ_I (p0 := 9) (p1 := 10) (p2 := 10) (EJ_iload_n (j := 2) (i := 2) (pc := 9) D_M_swap_9 rfl) AJ_nil) m_M_isRule E1_I D_M_swap_10 rfl rfl rfl q_1150 q_1151 q_55 q_97 ⟨by decide +kernel, by decide +kernel, by decide +kernel⟩ (by decide) (show 2 + 1 ≤ 3 from by decide) (fun _ h => absurd h List.not_mem_nil)) D_M_swap_13 rfl))) (SJ_ret (p0 := 16) (p1 := 17) (EJ_iconst (n := -1) (v := (-1)) (pc := 16) D_M_swap_16 (by decide +kernel)) D_M_swap_17) SJ_sk)
 (SJ_sq (p0 := 18) (p1 := 26) (nN := 0) (nB := 0) (nC := 0) (SJ_if (p0 := 18) (pT := 23) (pF := 26) (nN := 26) (nB := 0) (nC := 0) (CJ_eq' (off := 6) (tgt := 26) (p0 := 18) (p1 := 19) (p2 := 20) (EJ_iload_n (j := 1) (i := 1) (pc := 18) D_M_swap_18 rfl) (EJ_iload_n (j := 2) (i := 2) (pc := 19) D_M_swap_19 rfl) D_M_swap_20 rfl) (SJ_ret (p0 := 23) (p1 := 25) (EJ_bipush (n := -2) (v := (-2)) (pc := 23) D_M_swap_23 (by decide +kernel)) D_M_swap_25) SJ_sk)
 (SJ_sq (p0 := 26) (p1 := 30) (nN := 0) (nB := 0) (nC := 0) (SJ_void (p0 := 26) (p1 := 30) (EJ_callV (t := 13) (c := 12) (r := (RX12, TX12, 52)) (p0 := 26) (p1 := 27) (p2 := 27) (EJ_aload_n (j := 0) (i := 0) (pc := 26) D_M_swap_26 rfl) AJ_nil m_M_keepsPast E1_U D_M_swap_27 rfl rfl rfl q_1143 q_1144 q_54 q_97 ⟨by decide +kernel, by decide +kernel, by decide +kernel⟩ (by decide) (show 2 + 1 ≤ 3 from by decide) (show ∀ x_ ∈ ([13, 70, 71, 72, 73] : List Nat), x_ ∈ ([13, 70, 71, 72, 73] : List Nat) from by decide)))
 (SJ_sq (p0 := 30) (p1 := 113) (nN := 0) (nB := 0) (nC := 0) (SJ_sq (p0 := 30) (p1 := 32) (nN := 113) (nB := 0) (nC := 0) (SJ_istore_n (i := 3) (j := 3) (p0 := 30) (p1 := 31) (EJ_iconst (n := 0) (v := (nI 0)) (pc := 30) D_M_swap_30 (by decide +kernel)) D_M_swap_31 rfl)
 (SJ_loop (p0 := 32) (pB := 39) (pS := 107) (pE := 113) (CJ_lt' (off := 77) (tgt := 113) (p0 := 32) (p1 := 33) (p2 := 36) (EJ_iload_n (j := 3) (i := 3) (pc := 32) D_M_swap_32 rfl) (EJ_sipush (n := 140) (v := (nI 140)) (pc := 33) D_M_swap_33 (by decide +kernel)) D_M_swap_36 rfl)
 (SJ_sq (p0 := 39) (p1 := 57) (nN := 107) (nB := 113) (nC := 107) (SJ_istore (i := 4) (p0 := 39) (p1 := 55) (EJ_iald (p0 := 39) (p1 := 43) (p2 := 54) (EJ_getR (t := 13) (c := 12) (kf := 0) (r := (RX12, TX12, 52)) (p0 := 39) (p1 := 40) (EJ_aload_n (j := 0) (i := 0) (pc := 39) D_M_swap_39 rfl) D_M_swap_40 ⟨rfl, rfl, by decide, q_932⟩ (fun _ _ => rfl)) (EJ_iadd (p0 := 43) (p1 := 52) (p2 := 53) (EJ_iadd (p0 := 43) (p1 := 46) (p2 := 51) (EJ_sipush (n := 184) (v := (nI 184)) (pc := 43) D_M_swap_43 (by decide +kernel)) (EJ_imul (p0 := 46) (p1 := 49) (p2 := 50) (EJ_sipush (n := 140) (v := (nI 140)) (pc := 46) D_M_swap_46 (by decide +kernel)) (EJ_iload_n (j := 1) (i := 1) (pc := 49) D_M_swap_49 rfl) D_M_swap_50) D_M_swap_51) (EJ_iload_n (j := 3) (i := 3) (pc := 52) D_M_swap_52 rfl) D_M_swap_53) D_M_swap_54) D_M_swap_55)
 (SJ_sq (p0 := 57) (p1 := 89) (nN := 107) (nB := 113) (nC := 107) (SJ_iast (ws := [70]) (p0 := 57) (p1 := 61) (p2 := 72) (p3 := 88) (EJ_getR (t := 13) (c := 12) (kf := 0) (r := (RX12, TX12, 52)) (p0 := 57) (p1 := 58) (EJ_aload_n (j := 0) (i := 0) (pc := 57) D_M_swap_57 rfl) D_M_swap_58 ⟨rfl, rfl, by decide, q_932⟩ (fun _ _ => rfl)) (EJ_iadd (p0 := 61) (p1 := 70) (p2 := 71) (EJ_iadd (p0 := 61) (p1 := 64) (p2 := 69) (EJ_sipush (n := 184) (v := (nI 184)) (pc := 61) D_M_swap_61 (by decide +kernel)) (EJ_imul (p0 := 64) (p1 := 67) (p2 := 68) (EJ_sipush (n := 140) (v := (nI 140)) (pc := 64) D_M_swap_64 (by decide +kernel)) (EJ_iload_n (j := 1) (i := 1) (pc := 67) D_M_swap_67 rfl) D_M_swap_68) D_M_swap_69) (EJ_iload_n (j := 3) (i := 3) (pc := 70) D_M_swap_70 rfl) D_M_swap_71) (EJ_iald (p0 := 72) (p1 := 76) (p2 := 87) (EJ_getR (t := 13) (c := 12) (kf := 0) (r := (RX12, TX12, 52)) (p0 := 72) (p1 := 73) (EJ_aload_n (j := 0) (i := 0) (pc := 72) D_M_swap_72 rfl) D_M_swap_73 ⟨rfl, rfl, by decide, q_932⟩ (fun _ _ => rfl)) (EJ_iadd (p0 := 76) (p1 := 85) (p2 := 86) (EJ_iadd (p0 := 76) (p1 := 79) (p2 := 84) (EJ_sipush (n := 184) (v := (nI 184)) (pc := 76) D_M_swap_76 (by decide +kernel)) (EJ_imul (p0 := 79) (p1 := 82) (p2 := 83) (EJ_sipush (n := 140) (v := (nI 140)) (pc := 79) D_M_swap_79 (by decide +kernel)) (EJ_iload_n (j := 2) (i := 2) (pc := 82) D_M_swap_82 rfl) D_M_swap_83) D_M_swap_84) (EJ_iload_n (j := 3) (i := 3) (pc := 85) D_M_swap_85 rfl) D_M_swap_86) D_M_swap_87) D_M_swap_88 (show ∀ x_ ∈ ([70] : List Nat), x_ ∈ ([13, 70, 71, 72, 73] : List Nat) from by decide))
 (SJ_iast (ws := [70]) (p0 := 89) (p1 := 93) (p2 := 104) (p3 := 106) (EJ_getR (t := 13) (c := 12) (kf := 0) (r := (RX12, TX12, 52)) (p0 := 89) (p1 := 90) (EJ_aload_n (j := 0) (i := 0) (pc := 89) D_M_swap_89 rfl) D_M_swap_90 ⟨rfl, rfl, by decide, q_932⟩ (fun _ _ => rfl)) (EJ_iadd (p0 := 93) (p1 := 102) (p2 := 103) (EJ_iadd (p0 := 93) (p1 := 96) (p2 := 101) (EJ_sipush (n := 184) (v := (nI 184)) (pc := 93) D_M_swap_93 (by decide +kernel)) (EJ_imul (p0 := 96) (p1 := 99) (p2 := 100) (EJ_sipush (n := 140) (v := (nI 140)) (pc := 96) D_M_swap_96 (by decide +kernel)) (EJ_iload_n (j := 2) (i := 2) (pc := 99) D_M_swap_99 rfl) D_M_swap_100) D_M_swap_101) (EJ_iload_n (j := 3) (i := 3) (pc := 102) D_M_swap_102 rfl) D_M_swap_103) (EJ_iload (i := 4) (pc := 104) D_M_swap_104) D_M_swap_106 (show ∀ x_ ∈ ([70] : List Nat), x_ ∈ ([13, 70, 71, 72, 73] : List Nat) from by decide))))
 (SJ_post (SJ_iinc (i := 3) (n := 1) (v := (nI 1)) (pc := 107) D_M_swap_107 (by decide +kernel)) (Lead.goto (K := K_M_swap) (pc := 110) (tgt := 32) D_M_swap_110 rfl))))
 (SJ_ret (p0 := 113) (p1 := 114) (EJ_iconst (n := 1) (v := (nI 1)) (pc := 113) D_M_swap_113 (by decide +kernel)) D_M_swap_114)))))
 RTm_int q_1156 (by decide +kernel) rfl (fun h => by cases h) (show 5 ≤ 40 from by decide) (fun _ => trivial)
theorem D_M_heardMeta_0 : decode cX12_heardMeta 0 = .ok (.iconst (0), 1) := by decide +kernel
theorem D_M_heardMeta_1 : decode cX12_heardMeta 1 = .ok (.istore_n 2, 1) := by decide +kernel
theorem D_M_heardMeta_2 : decode cX12_heardMeta 2 = .ok (.iload_n 2, 1) := by decide +kernel
theorem D_M_heardMeta_3 : decode cX12_heardMeta 3 = .ok (.aload_n 0, 1) := by decide +kernel
theorem D_M_heardMeta_4 : decode cX12_heardMeta 4 = .ok (.getfield 13, 3) := by decide +kernel
theorem D_M_heardMeta_7 : decode cX12_heardMeta 7 = .ok (.iconst (0), 1) := by decide +kernel
theorem D_M_heardMeta_8 : decode cX12_heardMeta 8 = .ok (.iaload, 1) := by decide +kernel
theorem D_M_heardMeta_9 : decode cX12_heardMeta 9 = .ok (.if_icmp .ge (26), 3) := by decide +kernel
theorem D_M_heardMeta_12 : decode cX12_heardMeta 12 = .ok (.aload_n 0, 1) := by decide +kernel
theorem D_M_heardMeta_13 : decode cX12_heardMeta 13 = .ok (.getfield 13, 3) := by decide +kernel
theorem D_M_heardMeta_16 : decode cX12_heardMeta 16 = .ok (.iconst (4), 1) := by decide +kernel
theorem D_M_heardMeta_17 : decode cX12_heardMeta 17 = .ok (.bipush (30), 2) := by decide +kernel
theorem D_M_heardMeta_19 : decode cX12_heardMeta 19 = .ok (.iload_n 2, 1) := by decide +kernel
theorem D_M_heardMeta_20 : decode cX12_heardMeta 20 = .ok (.imul, 1) := by decide +kernel
theorem D_M_heardMeta_21 : decode cX12_heardMeta 21 = .ok (.iadd, 1) := by decide +kernel
theorem D_M_heardMeta_22 : decode cX12_heardMeta 22 = .ok (.iaload, 1) := by decide +kernel
theorem D_M_heardMeta_23 : decode cX12_heardMeta 23 = .ok (.iload_n 1, 1) := by decide +kernel
theorem D_M_heardMeta_24 : decode cX12_heardMeta 24 = .ok (.if_icmp .ne (5), 3) := by decide +kernel
theorem D_M_heardMeta_27 : decode cX12_heardMeta 27 = .ok (.iload_n 2, 1) := by decide +kernel
theorem D_M_heardMeta_28 : decode cX12_heardMeta 28 = .ok (.ireturn, 1) := by decide +kernel
theorem D_M_heardMeta_29 : decode cX12_heardMeta 29 = .ok (.iinc 2 (1), 3) := by decide +kernel
theorem D_M_heardMeta_32 : decode cX12_heardMeta 32 = .ok (.goto (-30), 3) := by decide +kernel
theorem D_M_heardMeta_35 : decode cX12_heardMeta 35 = .ok (.iconst (-1), 1) := by decide +kernel
theorem D_M_heardMeta_36 : decode cX12_heardMeta 36 = .ok (.ireturn, 1) := by decide +kernel
def K_M_heardMeta : SC := (cX12_heardMeta, "TwoLevelsModel", 3, 1, false, [], NoQ)
def d_M_heardMeta : MD Int32 := mth tt 3 (sq (sq (sI1 2 (eC (nI 0)))
 (loop (eh2 c_lt (lI 2) (eh2 (aI .int) (eh1 (gR 13 1) (lR 0)) (eC (nI 0))))
 (sIf (eh2 c_eq (eh2 (aI .int) (eh1 (gR 13 1) (lR 0)) (eh2 iaddF (eC (nI 4)) (eh2 imulF (eC (nI 30)) (lI 2)))) (lI 1)) (rtn (lI 2)) sk)
 (sInc 2 (nI 1))))
 (rtn (eC (-1))))
theorem m_M_heardMeta : MJ 1 [] yX12_heardMeta (some .int) eI (d_M_heardMeta) := MJ_of (K := K_M_heardMeta) (ri := .ireturn) (n1 := 0) (n2 := 0) (n3 := 0)
 (SJ_sq (p0 := 0) (p1 := 35) (nN := 0) (nB := 0) (nC := 0) (SJ_sq (p0 := 0) (p1 := 2) (nN := 35) (nB := 0) (nC := 0) (SJ_istore_n (i := 2) (j := 2) (p0 := 0) (p1 := 1) (EJ_iconst (n := 0) (v := (nI 0)) (pc := 0) D_M_heardMeta_0 (by decide +kernel)) D_M_heardMeta_1 rfl)
 (SJ_loop (p0 := 2) (pB := 12) (pS := 29) (pE := 35) (CJ_lt' (off := 26) (tgt := 35) (p0 := 2) (p1 := 3) (p2 := 9) (EJ_iload_n (j := 2) (i := 2) (pc := 2) D_M_heardMeta_2 rfl) (EJ_iald (p0 := 3) (p1 := 7) (p2 := 8) (EJ_getR (t := 13) (c := 12) (kf := 1) (r := (RX12, TX12, 52)) (p0 := 3) (p1 := 4) (EJ_aload_n (j := 0) (i := 0) (pc := 3) D_M_heardMeta_3 rfl) D_M_heardMeta_4 ⟨rfl, rfl, by decide, q_933⟩ (fun _ _ => rfl)) (EJ_iconst (n := 0) (v := (nI 0)) (pc := 7) D_M_heardMeta_7 (by decide +kernel)) D_M_heardMeta_8) D_M_heardMeta_9 rfl)
 (SJ_if (p0 := 12) (pT := 27) (pF := 29) (nN := 29) (nB := 35) (nC := 29) (CJ_eq' (off := 5) (tgt := 29) (p0 := 12) (p1 := 23) (p2 := 24) (EJ_iald (p0 := 12) (p1 := 16) (p2 := 22) (EJ_getR (t := 13) (c := 12) (kf := 1) (r := (RX12, TX12, 52)) (p0 := 12) (p1 := 13) (EJ_aload_n (j := 0) (i := 0) (pc := 12) D_M_heardMeta_12 rfl) D_M_heardMeta_13 ⟨rfl, rfl, by decide, q_933⟩ (fun _ _ => rfl)) (EJ_iadd (p0 := 16) (p1 := 17) (p2 := 21) (EJ_iconst (n := 4) (v := (nI 4)) (pc := 16) D_M_heardMeta_16 (by decide +kernel)) (EJ_imul (p0 := 17) (p1 := 19) (p2 := 20) (EJ_bipush (n := 30) (v := (nI 30)) (pc := 17) D_M_heardMeta_17 (by decide +kernel)) (EJ_iload_n (j := 2) (i := 2) (pc := 19) D_M_heardMeta_19 rfl) D_M_heardMeta_20) D_M_heardMeta_21) D_M_heardMeta_22) (EJ_iload_n (j := 1) (i := 1) (pc := 23) D_M_heardMeta_23 rfl) D_M_heardMeta_24 rfl) (SJ_ret (p0 := 27) (p1 := 28) (EJ_iload_n (j := 2) (i := 2) (pc := 27) D_M_heardMeta_27 rfl) D_M_heardMeta_28) SJ_sk)
 (SJ_post (SJ_iinc (i := 2) (n := 1) (v := (nI 1)) (pc := 29) D_M_heardMeta_29 (by decide +kernel)) (Lead.goto (K := K_M_heardMeta) (pc := 32) (tgt := 2) D_M_heardMeta_32 rfl))))
 (SJ_ret (p0 := 35) (p1 := 36) (EJ_iconst (n := -1) (v := (-1)) (pc := 35) D_M_heardMeta_35 (by decide +kernel)) D_M_heardMeta_36))
 RTm_int q_1085 (by decide +kernel) rfl (fun h => by cases h) (show 3 ≤ 40 from by decide) (fun _ => trivial)
theorem D_M_looksOver_0 : decode cX12_looksOver 0 = .ok (.iconst (0), 1) := by decide +kernel
theorem D_M_looksOver_1 : decode cX12_looksOver 1 = .ok (.istore_n 1, 1) := by decide +kernel
theorem D_M_looksOver_2 : decode cX12_looksOver 2 = .ok (.iload_n 1, 1) := by decide +kernel
theorem D_M_looksOver_3 : decode cX12_looksOver 3 = .ok (.aload_n 0, 1) := by decide +kernel
theorem D_M_looksOver_4 : decode cX12_looksOver 4 = .ok (.getfield 112, 3) := by decide +kernel
theorem D_M_looksOver_7 : decode cX12_looksOver 7 = .ok (.if_icmp .ge (41), 3) := by decide +kernel
theorem D_M_looksOver_10 : decode cX12_looksOver 10 = .ok (.aload_n 0, 1) := by decide +kernel
theorem D_M_looksOver_11 : decode cX12_looksOver 11 = .ok (.getfield 26, 3) := by decide +kernel
theorem D_M_looksOver_14 : decode cX12_looksOver 14 = .ok (.iload_n 1, 1) := by decide +kernel
theorem D_M_looksOver_15 : decode cX12_looksOver 15 = .ok (.baload, 1) := by decide +kernel
theorem D_M_looksOver_16 : decode cX12_looksOver 16 = .ok (.invokestatic 141, 3) := by decide +kernel
theorem D_M_looksOver_19 : decode cX12_looksOver 19 = .ok (.ifCond .eq (23), 3) := by decide +kernel
theorem D_M_looksOver_22 : decode cX12_looksOver 22 = .ok (.aload_n 0, 1) := by decide +kernel
theorem D_M_looksOver_23 : decode cX12_looksOver 23 = .ok (.aload_n 0, 1) := by decide +kernel
theorem D_M_looksOver_24 : decode cX12_looksOver 24 = .ok (.getfield 26, 3) := by decide +kernel
theorem D_M_looksOver_27 : decode cX12_looksOver 27 = .ok (.iload_n 1, 1) := by decide +kernel
theorem D_M_looksOver_28 : decode cX12_looksOver 28 = .ok (.baload, 1) := by decide +kernel
theorem D_M_looksOver_29 : decode cX12_looksOver 29 = .ok (.invokevirtual 164, 3) := by decide +kernel
theorem D_M_looksOver_32 : decode cX12_looksOver 32 = .ok (.iconst (-1), 1) := by decide +kernel
theorem D_M_looksOver_33 : decode cX12_looksOver 33 = .ok (.if_icmp .ne (9), 3) := by decide +kernel
theorem D_M_looksOver_36 : decode cX12_looksOver 36 = .ok (.aload_n 0, 1) := by decide +kernel
theorem D_M_looksOver_37 : decode cX12_looksOver 37 = .ok (.iconst (5), 1) := by decide +kernel
theorem D_M_looksOver_38 : decode cX12_looksOver 38 = .ok (.iload_n 1, 1) := by decide +kernel
theorem D_M_looksOver_39 : decode cX12_looksOver 39 = .ok (.invokevirtual 154, 3) := by decide +kernel
theorem D_M_looksOver_42 : decode cX12_looksOver 42 = .ok (.iinc 1 (1), 3) := by decide +kernel
theorem D_M_looksOver_45 : decode cX12_looksOver 45 = .ok (.goto (-43), 3) := by decide +kernel
theorem D_M_looksOver_48 : decode cX12_looksOver 48 = .ok (.return_, 1) := by decide +kernel
def K_M_looksOver : SC := (cX12_looksOver, "TwoLevelsModel", 2, 3, false, [13], NoQ)
def d_M_looksOver : MD Unit := mth tt 2 (sq (sq (sI1 1 (eC (nI 0)))
 (loop (eh2 c_lt (lI 1) (eh1 (gI 13 7) (lR 0)))
 (sIf (cAnd (eh1 z_ne (kS d_M_isCapital [vI (eh2 (aI .byte) (eh1 (gR 13 6) (lR 0)) (lI 1))])) (eh2 c_eq (kV 13 d_M_heardMeta (lR 0) [vI (eh2 (aI .byte) (eh1 (gR 13 6) (lR 0)) (lI 1))]) (eC (-1)))) (sE (kV 13 d_M_fails (lR 0) [vI (eC (nI 5)), vI (lI 1)])) sk)
 (sInc 1 (nI 1))))
 rtnU)
theorem m_M_looksOver : MJ 3 [13] yX12_looksOver none eU (d_M_looksOver) := MJ_of (K := K_M_looksOver) (ri := .return_) (n1 := 0) (n2 := 0) (n3 := 0)
 (SJ_sq (p0 := 0) (p1 := 48) (nN := 0) (nB := 0) (nC := 0) (SJ_sq (p0 := 0) (p1 := 2) (nN := 48) (nB := 0) (nC := 0) (SJ_istore_n (i := 1) (j := 1) (p0 := 0) (p1 := 1) (EJ_iconst (n := 0) (v := (nI 0)) (pc := 0) D_M_looksOver_0 (by decide +kernel)) D_M_looksOver_1 rfl)
 (SJ_loop (p0 := 2) (pB := 10) (pS := 42) (pE := 48) (CJ_lt' (off := 41) (tgt := 48) (p0 := 2) (p1 := 3) (p2 := 7) (EJ_iload_n (j := 1) (i := 1) (pc := 2) D_M_looksOver_2 rfl) (EJ_getI (t := 13) (c := 12) (kf := 7) (r := (RX12, TX12, 52)) (p0 := 3) (p1 := 4) (EJ_aload_n (j := 0) (i := 0) (pc := 3) D_M_looksOver_3 rfl) D_M_looksOver_4 ⟨rfl, rfl, by decide, q_939⟩ (fun _ _ => rfl)) D_M_looksOver_7 rfl)
 (SJ_if (p0 := 10) (pT := 36) (pF := 42) (nN := 42) (nB := 48) (nC := 42) (CJ_and (p0 := 10) (pM := 22) (pT := 36) (pF := 42) (CZ_ne' (off := 23) (tgt := 42) (p0 := 10) (p1 := 19) (EJ_callS (p0 := 10) (p1 := 16) (AJ_I (p0 := 10) (p1 := 16) (p2 := 16) (EJ_bald (p0 := 10) (p1 := 14) (p2 := 15) (EJ_getR (t := 13) (c := 12) (kf := 6) (r := (RX12, TX12, 52)) (p0 := 10) (p1 := 11) (EJ_aload_n (j := 0) (i := 0) (pc := 10) D_M_looksOver_10 rfl) D_M_looksOver_11 ⟨rfl, rfl, by decide, q_938⟩ (fun _ _ => rfl)) (EJ_iload_n (j := 1) (i := 1) (pc := 14) D_M_looksOver_14 rfl) D_M_looksOver_15) AJ_nil) m_M_isCapital E1_I D_M_looksOver_16 q_1074 q_1075 q_97 ⟨by decide +kernel, by decide +kernel, by decide +kernel⟩ (by decide) (show 2 + 1 ≤ 3 from by decide) (fun _ h => absurd h List.not_mem_nil)) D_M_looksOver_19 rfl) (CJ_eq' (off := 9) (tgt := 42) (p0 := 22) (p1 := 32) (p2 := 33) (EJ_callV (t := 13) (c := 12) (r := (RX12, TX12, 52)) (p0 := 22) (p1 := 23) (p2 := 29) (EJ_aload_n (j := 0) (i := 0) (pc := 22) D_M_looksOver_22 rfl) (AJ_I (p0 := 23) (p1 := 29) (p2 := 29) (EJ_bald (p0 := 23) (p1 := 27) (p2 := 28) (EJ_getR (t := 13) (c := 12) (kf := 6) (r := (RX12, TX12, 52)) (p0 := 23) (p1 := 24) (EJ_aload_n (j := 0) (i := 0) (pc := 23) D_M_looksOver_23 rfl) D_M_looksOver_24 ⟨rfl, rfl, by decide, q_938⟩ (fun _ _ => rfl)) (EJ_iload_n (j := 1) (i := 1) (pc := 27) D_M_looksOver_27 rfl) D_M_looksOver_28) AJ_nil) m_M_heardMeta E1_I D_M_looksOver_29 rfl rfl rfl q_1083 q_1084 q_44 q_97 ⟨by decide +kernel, by decide +kernel, by decide +kernel⟩ (by decide) (show 1 + 1 ≤ 3 from by decide) (fun _ h => absurd h List.not_mem_nil)) (EJ_iconst (n := -1) (v := (-1)) (pc := 32) D_M_looksOver_32 (by decide +kernel)) D_M_looksOver_33 rfl)) (SJ_void (p0 := 36) (p1 := 42) (EJ_callV (t := 13) (c := 12) (r := (RX12, TX12, 52)) (p0 := 36) (p1 := 37) (p2 := 39) (EJ_aload_n (j := 0) (i := 0) (pc := 36) D_M_looksOver_36 rfl) (AJ_I (p0 := 37) (p1 := 38) (p2 := 39) (EJ_iconst (n := 5) (v := (nI 5)) (pc := 37) D_M_looksOver_37 (by decide +kernel)) (AJ_I (p0 := 38) (p1 := 39) (p2 := 39) (EJ_iload_n (j := 1) (i := 1) (pc := 38) D_M_looksOver_38 rfl) AJ_nil)) m_M_fails E1_U D_M_looksOver_39 rfl rfl rfl q_1077 q_1078 q_42 q_97 ⟨by decide +kernel, by decide +kernel, by decide +kernel⟩ (by decide) (show 2 + 1 ≤ 3 from by decide) (show ∀ x_ ∈ ([13] : List Nat), x_ ∈ ([13] : List Nat) from by decide))) SJ_sk)
 (SJ_post (SJ_iinc (i := 1) (n := 1) (v := (nI 1)) (pc := 42) D_M_looksOver_42 (by decide +kernel)) (Lead.goto (K := K_M_looksOver) (pc := 45) (tgt := 2) D_M_looksOver_45 rfl))))
 (SJ_retU (pc := 48) D_M_looksOver_48))
 RTm_void q_1112 (by decide +kernel) rfl (fun h => by cases h) (show 2 ≤ 40 from by decide) (fun _ => trivial)
theorem D_M_sign_0 : decode cX12_sign 0 = .ok (.aload_n 0, 1) := by decide +kernel
theorem D_M_sign_1 : decode cX12_sign 1 = .ok (.getfield 120, 3) := by decide +kernel
theorem D_M_sign_4 : decode cX12_sign 4 = .ok (.aload_n 0, 1) := by decide +kernel
theorem D_M_sign_5 : decode cX12_sign 5 = .ok (.getfield 112, 3) := by decide +kernel
theorem D_M_sign_8 : decode cX12_sign 8 = .ok (.if_icmp .ge (19), 3) := by decide +kernel
theorem D_M_sign_11 : decode cX12_sign 11 = .ok (.aload_n 0, 1) := by decide +kernel
theorem D_M_sign_12 : decode cX12_sign 12 = .ok (.getfield 26, 3) := by decide +kernel
theorem D_M_sign_15 : decode cX12_sign 15 = .ok (.aload_n 0, 1) := by decide +kernel
theorem D_M_sign_16 : decode cX12_sign 16 = .ok (.getfield 120, 3) := by decide +kernel
theorem D_M_sign_19 : decode cX12_sign 19 = .ok (.baload, 1) := by decide +kernel
theorem D_M_sign_20 : decode cX12_sign 20 = .ok (.sipush (255), 3) := by decide +kernel
theorem D_M_sign_23 : decode cX12_sign 23 = .ok (.iand, 1) := by decide +kernel
theorem D_M_sign_24 : decode cX12_sign 24 = .ok (.goto (4), 3) := by decide +kernel
theorem D_M_sign_27 : decode cX12_sign 27 = .ok (.iconst (-1), 1) := by decide +kernel
theorem D_M_sign_28 : decode cX12_sign 28 = .ok (.ireturn, 1) := by decide +kernel
def K_M_sign : SC := (cX12_sign, "TwoLevelsModel", 1, 1, false, [], NoQ)
def d_M_sign : MD Int32 := mth tt 1 (rtn (eIf (eh2 c_lt (eh1 (gI 13 8) (lR 0)) (eh1 (gI 13 7) (lR 0))) (eh2 iandF (eh2 (aI .byte) (eh1 (gR 13 6) (lR 0)) (eh1 (gI 13 8) (lR 0))) (eC (nI 255))) (eC (-1))))
theorem m_M_sign : MJ 1 [] yX12_sign (some .int) eI (d_M_sign) := MJ_of (K := K_M_sign) (ri := .ireturn) (n1 := 0) (n2 := 0) (n3 := 0)
 (SJ_ret (p0 := 0) (p1 := 28) (EJ_if (p0 := 0) (pT := 11) (pF := 27) (pE := 24) (p1 := 28) (CJ_lt' (off := 19) (tgt := 27) (p0 := 0) (p1 := 4) (p2 := 8) (EJ_getI (t := 13) (c := 12) (kf := 8) (r := (RX12, TX12, 52)) (p0 := 0) (p1 := 1) (EJ_aload_n (j := 0) (i := 0) (pc := 0) D_M_sign_0 rfl) D_M_sign_1 ⟨rfl, rfl, by decide, q_940⟩ (fun _ _ => rfl)) (EJ_getI (t := 13) (c := 12) (kf := 7) (r := (RX12, TX12, 52)) (p0 := 4) (p1 := 5) (EJ_aload_n (j := 0) (i := 0) (pc := 4) D_M_sign_4 rfl) D_M_sign_5 ⟨rfl, rfl, by decide, q_939⟩ (fun _ _ => rfl)) D_M_sign_8 rfl) (EJ_iand (p0 := 11) (p1 := 20) (p2 := 23) (EJ_bald (p0 := 11) (p1 := 15) (p2 := 19) (EJ_getR (t := 13) (c := 12) (kf := 6) (r := (RX12, TX12, 52)) (p0 := 11) (p1 := 12) (EJ_aload_n (j := 0) (i := 0) (pc := 11) D_M_sign_11 rfl) D_M_sign_12 ⟨rfl, rfl, by decide, q_938⟩ (fun _ _ => rfl)) (EJ_getI (t := 13) (c := 12) (kf := 8) (r := (RX12, TX12, 52)) (p0 := 15) (p1 := 16) (EJ_aload_n (j := 0) (i := 0) (pc := 15) D_M_sign_15 rfl) D_M_sign_16 ⟨rfl, rfl, by decide, q_940⟩ (fun _ _ => rfl)) D_M_sign_19) (EJ_sipush (n := 255) (v := (nI 255)) (pc := 20) D_M_sign_20 (by decide +kernel)) D_M_sign_23) (Lead.goto (K := K_M_sign) (pc := 24) (tgt := 28) D_M_sign_24 rfl) (EJ_iconst (n := -1) (v := (-1)) (pc := 27) D_M_sign_27 (by decide +kernel))) D_M_sign_28)
 RTm_int q_1058 (by decide +kernel) rfl (fun h => by cases h) (show 1 ≤ 40 from by decide) (fun _ => trivial)
theorem D_M_next_0 : decode cX12_next 0 = .ok (.aload_n 0, 1) := by decide +kernel
theorem D_M_next_1 : decode cX12_next 1 = .ok (.invokevirtual 123, 3) := by decide +kernel
theorem D_M_next_4 : decode cX12_next 4 = .ok (.bipush (32), 2) := by decide +kernel
theorem D_M_next_6 : decode cX12_next 6 = .ok (.if_icmp .ne (16), 3) := by decide +kernel
theorem D_M_next_9 : decode cX12_next 9 = .ok (.aload_n 0, 1) := by decide +kernel
theorem D_M_next_10 : decode cX12_next 10 = .ok (.dup, 1) := by decide +kernel
theorem D_M_next_11 : decode cX12_next 11 = .ok (.getfield 120, 3) := by decide +kernel
theorem D_M_next_14 : decode cX12_next 14 = .ok (.iconst (1), 1) := by decide +kernel
theorem D_M_next_15 : decode cX12_next 15 = .ok (.iadd, 1) := by decide +kernel
theorem D_M_next_16 : decode cX12_next 16 = .ok (.putfield 120, 3) := by decide +kernel
theorem D_M_next_19 : decode cX12_next 19 = .ok (.goto (-19), 3) := by decide +kernel
theorem D_M_next_22 : decode cX12_next 22 = .ok (.aload_n 0, 1) := by decide +kernel
theorem D_M_next_23 : decode cX12_next 23 = .ok (.invokevirtual 123, 3) := by decide +kernel
theorem D_M_next_26 : decode cX12_next 26 = .ok (.ireturn, 1) := by decide +kernel
def K_M_next : SC := (cX12_next, "TwoLevelsModel", 1, 2, false, [13], NoQ)
def d_M_next : MD Int32 := mth tt 1 (sq (loop (eh2 c_eq (kV 13 d_M_sign (lR 0) []) (eC (nI 32)))
 (su2 (gI 13 8) (uF false 13 8 (fun x y => x + y)) (lR 0) (eC (nI 1)))
 sk)
 (rtn (kV 13 d_M_sign (lR 0) [])))
theorem m_M_next : MJ 2 [13] yX12_next (some .int) eI (d_M_next) := MJ_of (K := K_M_next) (ri := .ireturn) (n1 := 0) (n2 := 0) (n3 := 0)
 (SJ_sq (p0 := 0) (p1 := 22) (nN := 0) (nB := 0) (nC := 0) (SJ_loop (p0 := 0) (pB := 9) (pS := 0) (pE := 22) (CJ_eq' (off := 16) (tgt := 22) (p0 := 0) (p1 := 4) (p2 := 6) (EJ_callV (t := 13) (c := 12) (r := (RX12, TX12, 52)) (p0 := 0) (p1 := 1) (p2 := 1) (EJ_aload_n (j := 0) (i := 0) (pc := 0) D_M_next_0 rfl) AJ_nil m_M_sign E1_I D_M_next_1 rfl rfl rfl q_1056 q_1057 q_38 q_97 ⟨by decide +kernel, by decide +kernel, by decide +kernel⟩ (by decide) (show 1 + 1 ≤ 2 from by decide) (fun _ h => absurd h List.not_mem_nil)) (EJ_bipush (n := 32) (v := (nI 32)) (pc := 4) D_M_next_4 (by decide +kernel)) D_M_next_6 rfl)
 (SJ_post (SJ_upF (z := false) (t := 13) (c := 12) (kf := 8) (r := (RX12, TX12, 52)) (f := (fun x y => x + y)) (p0 := 9) (p1 := 10) (p3 := 15) (EJ_aload_n (j := 0) (i := 0) (pc := 9) D_M_next_9 rfl) D_M_next_10 D_M_next_11 (EJ_iconst (n := 1) (v := (nI 1)) (pc := 14) D_M_next_14 (by decide +kernel)) (Op2_iadd D_M_next_15) D_M_next_16 ⟨rfl, rfl, by decide, q_940⟩ ⟨rfl, rfl, by decide, q_940⟩ (Or.inl rfl) (fun _ _ => ⟨rfl, rfl⟩) (fun _ _ => rfl) (show (13 : Nat) ∈ ([13] : List Nat) from by decide)) (Lead.goto (K := K_M_next) (pc := 19) (tgt := 0) D_M_next_19 rfl))
 SJ_sk)
 (SJ_ret (p0 := 22) (p1 := 26) (EJ_callV (t := 13) (c := 12) (r := (RX12, TX12, 52)) (p0 := 22) (p1 := 23) (p2 := 23) (EJ_aload_n (j := 0) (i := 0) (pc := 22) D_M_next_22 rfl) AJ_nil m_M_sign E1_I D_M_next_23 rfl rfl rfl q_1056 q_1057 q_38 q_97 ⟨by decide +kernel, by decide +kernel, by decide +kernel⟩ (by decide) (show 1 + 1 ≤ 2 from by decide) (fun _ h => absurd h List.not_mem_nil)) D_M_next_26))
 RTm_int q_1055 (by decide +kernel) rfl (fun h => by cases h) (show 1 ≤ 40 from by decide) (fun _ => trivial)
theorem D_M_isSign_0 : decode cX12_isSign 0 = .ok (.aload_n 0, 1) := by decide +kernel
theorem D_M_isSign_1 : decode cX12_isSign 1 = .ok (.invokevirtual 134, 3) := by decide +kernel
theorem D_M_isSign_4 : decode cX12_isSign 4 = .ok (.istore_n 1, 1) := by decide +kernel
theorem D_M_isSign_5 : decode cX12_isSign 5 = .ok (.iload_n 1, 1) := by decide +kernel
theorem D_M_isSign_6 : decode cX12_isSign 6 = .ok (.invokestatic 137, 3) := by decide +kernel
theorem D_M_isSign_9 : decode cX12_isSign 9 = .ok (.ifCond .ne (10), 3) := by decide +kernel
theorem D_M_isSign_12 : decode cX12_isSign 12 = .ok (.iload_n 1, 1) := by decide +kernel
theorem D_M_isSign_13 : decode cX12_isSign 13 = .ok (.invokestatic 141, 3) := by decide +kernel
theorem D_M_isSign_16 : decode cX12_isSign 16 = .ok (.ifCond .eq (7), 3) := by decide +kernel
theorem D_M_isSign_19 : decode cX12_isSign 19 = .ok (.iconst (1), 1) := by decide +kernel
theorem D_M_isSign_20 : decode cX12_isSign 20 = .ok (.goto (4), 3) := by decide +kernel
theorem D_M_isSign_23 : decode cX12_isSign 23 = .ok (.iconst (0), 1) := by decide +kernel
theorem D_M_isSign_24 : decode cX12_isSign 24 = .ok (.ireturn, 1) := by decide +kernel
def K_M_isSign : SC := (cX12_isSign, "TwoLevelsModel", 2, 3, false, [13], NoQ)
def d_M_isSign : MD Int32 := mth zz 2 (sq (sI1 1 (kV 13 d_M_next (lR 0) []))
 (rtn (eIf (cOr (eh1 z_ne (kS d_M_isSmall [vI (lI 1)])) (eh1 z_ne (kS d_M_isCapital [vI (lI 1)]))) (eC (nI 1)) (eC (nI 0)))))
theorem m_M_isSign : MJ 3 [13] yX12_isSign (some .boolean) eI (d_M_isSign) := MJ_of (K := K_M_isSign) (ri := .ireturn) (n1 := 0) (n2 := 0) (n3 := 0)
 (SJ_sq (p0 := 0) (p1 := 5) (nN := 0) (nB := 0) (nC := 0) (SJ_istore_n (i := 1) (j := 1) (p0 := 0) (p1 := 4) (EJ_callV (t := 13) (c := 12) (r := (RX12, TX12, 52)) (p0 := 0) (p1 := 1) (p2 := 1) (EJ_aload_n (j := 0) (i := 0) (pc := 0) D_M_isSign_0 rfl) AJ_nil m_M_next E1_I D_M_isSign_1 rfl rfl rfl q_1053 q_1054 q_37 q_97 ⟨by decide +kernel, by decide +kernel, by decide +kernel⟩ (by decide) (show 2 + 1 ≤ 3 from by decide) (show ∀ x_ ∈ ([13] : List Nat), x_ ∈ ([13] : List Nat) from by decide)) D_M_isSign_4 rfl)
 (SJ_ret (p0 := 5) (p1 := 24) (EJ_if (p0 := 5) (pT := 19) (pF := 23) (pE := 20) (p1 := 24) (CJ_or (p0 := 5) (pM := 12) (pT := 19) (pF := 23) (CZ_ne (off := 10) (tgt := 19) (p0 := 5) (p1 := 9) (EJ_callS (p0 := 5) (p1 := 6) (AJ_I (p0 := 5) (p1 := 6) (p2 := 6) (EJ_iload_n (j := 1) (i := 1) (pc := 5) D_M_isSign_5 rfl) AJ_nil) m_M_isSmall E1_I D_M_isSign_6 q_1068 q_1069 q_97 ⟨by decide +kernel, by decide +kernel, by decide +kernel⟩ (by decide) (show 2 + 1 ≤ 3 from by decide) (fun _ h => absurd h List.not_mem_nil)) D_M_isSign_9 rfl) (CZ_ne' (off := 7) (tgt := 23) (p0 := 12) (p1 := 16) (EJ_callS (p0 := 12) (p1 := 13) (AJ_I (p0 := 12) (p1 := 13) (p2 := 13) (EJ_iload_n (j := 1) (i := 1) (pc := 12) D_M_isSign_12 rfl) AJ_nil) m_M_isCapital E1_I D_M_isSign_13 q_1074 q_1075 q_97 ⟨by decide +kernel, by decide +kernel, by decide +kernel⟩ (by decide) (show 2 + 1 ≤ 3 from by decide) (fun _ h => absurd h List.not_mem_nil)) D_M_isSign_16 rfl)) (EJ_iconst (n := 1) (v := (nI 1)) (pc := 19) D_M_isSign_19 (by decide +kernel)) (Lead.goto (K := K_M_isSign) (pc := 20) (tgt := 24) D_M_isSign_20 rfl) (EJ_iconst (n := 0) (v := (nI 0)) (pc := 23) D_M_isSign_23 (by decide +kernel))) D_M_isSign_24))
 RTm_bool q_1067 (by decide +kernel) rfl (fun h => by cases h) (show 2 ≤ 40 from by decide) (fun _ => trivial)
theorem D_M_isIn_0 : decode cX12_isIn 0 = .ok (.iconst (0), 1) := by decide +kernel
theorem D_M_isIn_1 : decode cX12_isIn 1 = .ok (.istore_n 3, 1) := by decide +kernel
theorem D_M_isIn_2 : decode cX12_isIn 2 = .ok (.iload_n 3, 1) := by decide +kernel
theorem D_M_isIn_3 : decode cX12_isIn 3 = .ok (.aload_n 0, 1) := by decide +kernel
theorem D_M_isIn_4 : decode cX12_isIn 4 = .ok (.getfield 13, 3) := by decide +kernel
theorem D_M_isIn_7 : decode cX12_isIn 7 = .ok (.iload_n 1, 1) := by decide +kernel
theorem D_M_isIn_8 : decode cX12_isIn 8 = .ok (.iaload, 1) := by decide +kernel
theorem D_M_isIn_9 : decode cX12_isIn 9 = .ok (.if_icmp .ge (25), 3) := by decide +kernel
theorem D_M_isIn_12 : decode cX12_isIn 12 = .ok (.aload_n 0, 1) := by decide +kernel
theorem D_M_isIn_13 : decode cX12_isIn 13 = .ok (.getfield 13, 3) := by decide +kernel
theorem D_M_isIn_16 : decode cX12_isIn 16 = .ok (.iload_n 1, 1) := by decide +kernel
theorem D_M_isIn_17 : decode cX12_isIn 17 = .ok (.iconst (1), 1) := by decide +kernel
theorem D_M_isIn_18 : decode cX12_isIn 18 = .ok (.iadd, 1) := by decide +kernel
theorem D_M_isIn_19 : decode cX12_isIn 19 = .ok (.iload_n 3, 1) := by decide +kernel
theorem D_M_isIn_20 : decode cX12_isIn 20 = .ok (.iadd, 1) := by decide +kernel
theorem D_M_isIn_21 : decode cX12_isIn 21 = .ok (.iaload, 1) := by decide +kernel
theorem D_M_isIn_22 : decode cX12_isIn 22 = .ok (.iload_n 2, 1) := by decide +kernel
theorem D_M_isIn_23 : decode cX12_isIn 23 = .ok (.if_icmp .ne (5), 3) := by decide +kernel
theorem D_M_isIn_26 : decode cX12_isIn 26 = .ok (.iconst (1), 1) := by decide +kernel
theorem D_M_isIn_27 : decode cX12_isIn 27 = .ok (.ireturn, 1) := by decide +kernel
theorem D_M_isIn_28 : decode cX12_isIn 28 = .ok (.iinc 3 (1), 3) := by decide +kernel
theorem D_M_isIn_31 : decode cX12_isIn 31 = .ok (.goto (-29), 3) := by decide +kernel
theorem D_M_isIn_34 : decode cX12_isIn 34 = .ok (.iconst (0), 1) := by decide +kernel
theorem D_M_isIn_35 : decode cX12_isIn 35 = .ok (.ireturn, 1) := by decide +kernel
def K_M_isIn : SC := (cX12_isIn, "TwoLevelsModel", 4, 1, false, [], NoQ)
def d_M_isIn : MD Int32 := mth zz 4 (sq (sq (sI1 3 (eC (nI 0)))
 (loop (eh2 c_lt (lI 3) (eh2 (aI .int) (eh1 (gR 13 1) (lR 0)) (lI 1)))
 (sIf (eh2 c_eq (eh2 (aI .int) (eh1 (gR 13 1) (lR 0)) (eh2 iaddF (eh2 iaddF (lI 1) (eC (nI 1))) (lI 3))) (lI 2)) (rtn (eC (nI 1))) sk)
 (sInc 3 (nI 1))))
 (rtn (eC (nI 0))))
theorem m_M_isIn : MJ 1 [] yX12_isIn (some .boolean) eI (d_M_isIn) := MJ_of (K := K_M_isIn) (ri := .ireturn) (n1 := 0) (n2 := 0) (n3 := 0)
 (SJ_sq (p0 := 0) (p1 := 34) (nN := 0) (nB := 0) (nC := 0) (SJ_sq (p0 := 0) (p1 := 2) (nN := 34) (nB := 0) (nC := 0) (SJ_istore_n (i := 3) (j := 3) (p0 := 0) (p1 := 1) (EJ_iconst (n := 0) (v := (nI 0)) (pc := 0) D_M_isIn_0 (by decide +kernel)) D_M_isIn_1 rfl)
 (SJ_loop (p0 := 2) (pB := 12) (pS := 28) (pE := 34) (CJ_lt' (off := 25) (tgt := 34) (p0 := 2) (p1 := 3) (p2 := 9) (EJ_iload_n (j := 3) (i := 3) (pc := 2) D_M_isIn_2 rfl) (EJ_iald (p0 := 3) (p1 := 7) (p2 := 8) (EJ_getR (t := 13) (c := 12) (kf := 1) (r := (RX12, TX12, 52)) (p0 := 3) (p1 := 4) (EJ_aload_n (j := 0) (i := 0) (pc := 3) D_M_isIn_3 rfl) D_M_isIn_4 ⟨rfl, rfl, by decide, q_933⟩ (fun _ _ => rfl)) (EJ_iload_n (j := 1) (i := 1) (pc := 7) D_M_isIn_7 rfl) D_M_isIn_8) D_M_isIn_9 rfl)
 (SJ_if (p0 := 12) (pT := 26) (pF := 28) (nN := 28) (nB := 34) (nC := 28) (CJ_eq' (off := 5) (tgt := 28) (p0 := 12) (p1 := 22) (p2 := 23) (EJ_iald (p0 := 12) (p1 := 16) (p2 := 21) (EJ_getR (t := 13) (c := 12) (kf := 1) (r := (RX12, TX12, 52)) (p0 := 12) (p1 := 13) (EJ_aload_n (j := 0) (i := 0) (pc := 12) D_M_isIn_12 rfl) D_M_isIn_13 ⟨rfl, rfl, by decide, q_933⟩ (fun _ _ => rfl)) (EJ_iadd (p0 := 16) (p1 := 19) (p2 := 20) (EJ_iadd (p0 := 16) (p1 := 17) (p2 := 18) (EJ_iload_n (j := 1) (i := 1) (pc := 16) D_M_isIn_16 rfl) (EJ_iconst (n := 1) (v := (nI 1)) (pc := 17) D_M_isIn_17 (by decide +kernel)) D_M_isIn_18) (EJ_iload_n (j := 3) (i := 3) (pc := 19) D_M_isIn_19 rfl) D_M_isIn_20) D_M_isIn_21) (EJ_iload_n (j := 2) (i := 2) (pc := 22) D_M_isIn_22 rfl) D_M_isIn_23 rfl) (SJ_ret (p0 := 26) (p1 := 27) (EJ_iconst (n := 1) (v := (nI 1)) (pc := 26) D_M_isIn_26 (by decide +kernel)) D_M_isIn_27) SJ_sk)
 (SJ_post (SJ_iinc (i := 3) (n := 1) (v := (nI 1)) (pc := 28) D_M_isIn_28 (by decide +kernel)) (Lead.goto (K := K_M_isIn) (pc := 31) (tgt := 2) D_M_isIn_31 rfl))))
 (SJ_ret (p0 := 34) (p1 := 35) (EJ_iconst (n := 0) (v := (nI 0)) (pc := 34) D_M_isIn_34 (by decide +kernel)) D_M_isIn_35))
 RTm_bool q_1094 (by decide +kernel) rfl (fun h => by cases h) (show 4 ≤ 40 from by decide) (fun _ => trivial)
theorem D_M_frees_0 : decode cX12_frees 0 = .ok (.iload_n 1, 1) := by decide +kernel
theorem D_M_frees_1 : decode cX12_frees 1 = .ok (.invokestatic 141, 3) := by decide +kernel
theorem D_M_frees_4 : decode cX12_frees 4 = .ok (.ifCond .eq (50), 3) := by decide +kernel
theorem D_M_frees_7 : decode cX12_frees 7 = .ok (.aload_n 0, 1) := by decide +kernel
theorem D_M_frees_8 : decode cX12_frees 8 = .ok (.aload_n 0, 1) := by decide +kernel
theorem D_M_frees_9 : decode cX12_frees 9 = .ok (.getfield 144, 3) := by decide +kernel
theorem D_M_frees_12 : decode cX12_frees 12 = .ok (.iload_n 1, 1) := by decide +kernel
theorem D_M_frees_13 : decode cX12_frees 13 = .ok (.invokevirtual 147, 3) := by decide +kernel
theorem D_M_frees_16 : decode cX12_frees 16 = .ok (.ifCond .ne (38), 3) := by decide +kernel
theorem D_M_frees_19 : decode cX12_frees 19 = .ok (.aload_n 0, 1) := by decide +kernel
theorem D_M_frees_20 : decode cX12_frees 20 = .ok (.getfield 151, 3) := by decide +kernel
theorem D_M_frees_23 : decode cX12_frees 23 = .ok (.ifCond .le (13), 3) := by decide +kernel
theorem D_M_frees_26 : decode cX12_frees 26 = .ok (.aload_n 0, 1) := by decide +kernel
theorem D_M_frees_27 : decode cX12_frees 27 = .ok (.getfield 30, 3) := by decide +kernel
theorem D_M_frees_30 : decode cX12_frees 30 = .ok (.iconst (0), 1) := by decide +kernel
theorem D_M_frees_31 : decode cX12_frees 31 = .ok (.iaload, 1) := by decide +kernel
theorem D_M_frees_32 : decode cX12_frees 32 = .ok (.iload_n 1, 1) := by decide +kernel
theorem D_M_frees_33 : decode cX12_frees 33 = .ok (.if_icmp .eq (21), 3) := by decide +kernel
theorem D_M_frees_36 : decode cX12_frees 36 = .ok (.aload_n 0, 1) := by decide +kernel
theorem D_M_frees_37 : decode cX12_frees 37 = .ok (.getfield 151, 3) := by decide +kernel
theorem D_M_frees_40 : decode cX12_frees 40 = .ok (.iconst (1), 1) := by decide +kernel
theorem D_M_frees_41 : decode cX12_frees 41 = .ok (.if_icmp .le (14), 3) := by decide +kernel
theorem D_M_frees_44 : decode cX12_frees 44 = .ok (.aload_n 0, 1) := by decide +kernel
theorem D_M_frees_45 : decode cX12_frees 45 = .ok (.getfield 30, 3) := by decide +kernel
theorem D_M_frees_48 : decode cX12_frees 48 = .ok (.iconst (1), 1) := by decide +kernel
theorem D_M_frees_49 : decode cX12_frees 49 = .ok (.iaload, 1) := by decide +kernel
theorem D_M_frees_50 : decode cX12_frees 50 = .ok (.iload_n 1, 1) := by decide +kernel
theorem D_M_frees_51 : decode cX12_frees 51 = .ok (.if_icmp .ne (4), 3) := by decide +kernel
theorem D_M_frees_54 : decode cX12_frees 54 = .ok (.return_, 1) := by decide +kernel
theorem D_M_frees_55 : decode cX12_frees 55 = .ok (.aload_n 0, 1) := by decide +kernel
theorem D_M_frees_56 : decode cX12_frees 56 = .ok (.getfield 151, 3) := by decide +kernel
theorem D_M_frees_59 : decode cX12_frees 59 = .ok (.iconst (2), 1) := by decide +kernel
theorem D_M_frees_60 : decode cX12_frees 60 = .ok (.if_icmp .ne (13), 3) := by decide +kernel
theorem D_M_frees_63 : decode cX12_frees 63 = .ok (.aload_n 0, 1) := by decide +kernel
theorem D_M_frees_64 : decode cX12_frees 64 = .ok (.iconst (3), 1) := by decide +kernel
theorem D_M_frees_65 : decode cX12_frees 65 = .ok (.aload_n 0, 1) := by decide +kernel
theorem D_M_frees_66 : decode cX12_frees 66 = .ok (.getfield 120, 3) := by decide +kernel
theorem D_M_frees_69 : decode cX12_frees 69 = .ok (.invokevirtual 154, 3) := by decide +kernel
theorem D_M_frees_72 : decode cX12_frees 72 = .ok (.return_, 1) := by decide +kernel
theorem D_M_frees_73 : decode cX12_frees 73 = .ok (.aload_n 0, 1) := by decide +kernel
theorem D_M_frees_74 : decode cX12_frees 74 = .ok (.getfield 30, 3) := by decide +kernel
theorem D_M_frees_77 : decode cX12_frees 77 = .ok (.aload_n 0, 1) := by decide +kernel
theorem D_M_frees_78 : decode cX12_frees 78 = .ok (.getfield 151, 3) := by decide +kernel
theorem D_M_frees_81 : decode cX12_frees 81 = .ok (.iload_n 1, 1) := by decide +kernel
theorem D_M_frees_82 : decode cX12_frees 82 = .ok (.iastore, 1) := by decide +kernel
theorem D_M_frees_83 : decode cX12_frees 83 = .ok (.aload_n 0, 1) := by decide +kernel
theorem D_M_frees_84 : decode cX12_frees 84 = .ok (.dup, 1) := by decide +kernel
theorem D_M_frees_85 : decode cX12_frees 85 = .ok (.getfield 151, 3) := by decide +kernel
theorem D_M_frees_88 : decode cX12_frees 88 = .ok (.iconst (1), 1) := by decide +kernel
theorem D_M_frees_89 : decode cX12_frees 89 = .ok (.iadd, 1) := by decide +kernel
theorem D_M_frees_90 : decode cX12_frees 90 = .ok (.putfield 151, 3) := by decide +kernel
theorem D_M_frees_93 : decode cX12_frees 93 = .ok (.return_, 1) := by decide +kernel
def K_M_frees : SC := (cX12_frees, "TwoLevelsModel", 2, 3, false, [13, 76], NoQ)
def d_M_frees : MD Unit := mth tt 2 (sq (sIf (cOr (cOr (cOr (cNot (eh1 z_ne (kS d_M_isCapital [vI (lI 1)]))) (eh1 z_ne (kV 13 d_M_isIn (lR 0) [vI (eh1 (gI 13 10) (lR 0)), vI (lI 1)]))) (cAnd (eh1 z_gt (eh1 (gI 13 11) (lR 0))) (eh2 c_eq (eh2 (aI .int) (eh1 (gR 13 12) (lR 0)) (eC (nI 0))) (lI 1)))) (cAnd (eh2 c_gt (eh1 (gI 13 11) (lR 0)) (eC (nI 1))) (eh2 c_eq (eh2 (aI .int) (eh1 (gR 13 12) (lR 0)) (eC (nI 1))) (lI 1)))) rtnU sk)
 (sq (sIf (eh2 c_eq (eh1 (gI 13 11) (lR 0)) (eC (nI 2))) (sq (sE (kV 13 d_M_fails (lR 0) [vI (eC (nI 3)), vI (eh1 (gI 13 8) (lR 0))]))
 rtnU) sk)
 (sq (sh3 (stI [76]) (eh1 (gR 13 12) (lR 0)) (eh1 (gI 13 11) (lR 0)) (lI 1))
 (sq (su2 (gI 13 11) (uF false 13 11 (fun x y => x + y)) (lR 0) (eC (nI 1)))
 rtnU))))
theorem m_M_frees : MJ 3 [13, 76] yX12_frees none eU (d_M_frees) := MJ_of (K := K_M_frees) (ri := .return_) (n1 := 0) (n2 := 0) (n3 := 0)
 (SJ_sq (p0 := 0) (p1 := 55) (nN := 0) (nB := 0) (nC := 0) (SJ_if (p0 := 0) (pT := 54) (pF := 55) (nN := 55) (nB := 0) (nC := 0) (CJ_or (p0 := 0) (pM := 36) (pT := 54) (pF := 55) (CJ_or (p0 := 0) (pM := 19) (pT := 54) (pF := 36) (CJ_or (p0 := 0) (pM := 7) (pT := 54) (pF := 19) (CJ_not (p0 := 0) (pT := 54) (pF := 7) (CZ_ne' (off := 50) (tgt := 54) (p0 := 0) (p1 := 4) (EJ_callS (p0 := 0) (p1 := 1) (AJ_I (p0 := 0) (p1 := 1) (p2 := 1) (EJ_iload_n (j := 1) (i := 1) (pc := 0) D_M_frees_0 rfl) AJ_nil) m_M_isCapital E1_I D_M_frees_1 q_1074 q_1075 q_97 ⟨by decide +kernel, by decide +kernel, by decide +kernel⟩ (by decide) (show 2 + 1 ≤ 3 from by decide) (fun _ h => absurd h List.not_mem_nil)) D_M_frees_4 rfl)) (CZ_ne (off := 38) (tgt := 54) (p0 := 7) (p1 := 16) (EJ_callV (t := 13) (c := 12) (r := (RX12, TX12, 52)) (p0 := 7) (p1 := 8) (p2 := 13) (EJ_aload_n (j := 0) (i := 0) (pc := 7) D_M_frees_7 rfl) (AJ_I (p0 := 8) (p1 := 12) (p2 := 13) (EJ_getI (t := 13) (c := 12) (kf := 10) (r := (RX12, TX12, 52)) (p0 := 8) (p1 := 9) (EJ_aload_n (j := 0) (i := 0) (pc := 8) D_M_frees_8 rfl) D_M_frees_9 ⟨rfl, rfl, by decide, q_942⟩ (fun _ _ => rfl)) (AJ_I (p0 := 12) (p1 := 13) (p2 := 13) (EJ_iload_n (j := 1) (i := 1) (pc := 12) D_M_frees_12 rfl) AJ_nil)) m_M_isIn E1_I D_M_frees_13 rfl rfl rfl q_1092 q_1093 q_47 q_97 ⟨by decide +kernel, by decide +kernel, by decide +kernel⟩ (by decide) (show 1 + 1 ≤ 3 from by decide) (fun _ h => absurd h List.not_mem_nil)) D_M_frees_16 rfl)) (CJ_and (p0 := 19) (pM := 26) (pT := 54) (pF := 36) (CZ_gt' (off := 13) (tgt := 36) (p0 := 19) (p1 := 23) (EJ_getI (t := 13) (c := 12) (kf := 11) (r := (RX12, TX12, 52)) (p0 := 19) (p1 := 20) (EJ_aload_n (j := 0) (i := 0) (pc := 19) D_M_frees_19 rfl) D_M_frees_20 ⟨rfl, rfl, by decide, q_943⟩ (fun _ _ => rfl)) D_M_frees_23 rfl) (CJ_eq (off := 21) (tgt := 54) (p0 := 26) (p1 := 32) (p2 := 33) (EJ_iald (p0 := 26) (p1 := 30) (p2 := 31) (EJ_getR (t := 13) (c := 12) (kf := 12) (r := (RX12, TX12, 52)) (p0 := 26) (p1 := 27) (EJ_aload_n (j := 0) (i := 0) (pc := 26) D_M_frees_26 rfl) D_M_frees_27 ⟨rfl, rfl, by decide, q_944⟩ (fun _ _ => rfl)) (EJ_iconst (n := 0) (v := (nI 0)) (pc := 30) D_M_frees_30 (by decide +kernel)) D_M_frees_31) (EJ_iload_n (j := 1) (i := 1) (pc := 32) D_M_frees_32 rfl) D_M_frees_33 rfl))) (CJ_and (p0 := 36) (pM := 44) (pT := 54) (pF := 55) (CJ_gt' (off := 14) (tgt := 55) (p0 := 36) (p1 := 40) (p2 := 41) (EJ_getI (t := 13) (c := 12) (kf := 11) (r := (RX12, TX12, 52)) (p0 := 36) (p1 := 37) (EJ_aload_n (j := 0) (i := 0) (pc := 36) D_M_frees_36 rfl) D_M_frees_37 ⟨rfl, rfl, by decide, q_943⟩ (fun _ _ => rfl)) (EJ_iconst (n := 1) (v := (nI 1)) (pc := 40) D_M_frees_40 (by decide +kernel)) D_M_frees_41 rfl) (CJ_eq' (off := 4) (tgt := 55) (p0 := 44) (p1 := 50) (p2 := 51) (EJ_iald (p0 := 44) (p1 := 48) (p2 := 49) (EJ_getR (t := 13) (c := 12) (kf := 12) (r := (RX12, TX12, 52)) (p0 := 44) (p1 := 45) (EJ_aload_n (j := 0) (i := 0) (pc := 44) D_M_frees_44 rfl) D_M_frees_45 ⟨rfl, rfl, by decide, q_944⟩ (fun _ _ => rfl)) (EJ_iconst (n := 1) (v := (nI 1)) (pc := 48) D_M_frees_48 (by decide +kernel)) D_M_frees_49) (EJ_iload_n (j := 1) (i := 1) (pc := 50) D_M_frees_50 rfl) D_M_frees_51 rfl))) (SJ_retU (pc := 54) D_M_frees_54) SJ_sk)
 (SJ_sq (p0 := 55) (p1 := 73) (nN := 0) (nB := 0) (nC := 0) (SJ_if (p0 := 55) (pT := 63) (pF := 73) (nN := 73) (nB := 0) (nC := 0) (CJ_eq' (off := 13) (tgt := 73) (p0 := 55) (p1 := 59) (p2 := 60) (EJ_getI (t := 13) (c := 12) (kf := 11) (r := (RX12, TX12, 52)) (p0 := 55) (p1 := 56) (EJ_aload_n (j := 0) (i := 0) (pc := 55) D_M_frees_55 rfl) D_M_frees_56 ⟨rfl, rfl, by decide, q_943⟩ (fun _ _ => rfl)) (EJ_iconst (n := 2) (v := (nI 2)) (pc := 59) D_M_frees_59 (by decide +kernel)) D_M_frees_60 rfl) (SJ_sq (p0 := 63) (p1 := 72) (nN := 73) (nB := 0) (nC := 0) (SJ_void (p0 := 63) (p1 := 72) (EJ_callV (t := 13) (c := 12) (r := (RX12, TX12, 52)) (p0 := 63) (p1 := 64) (p2 := 69) (EJ_aload_n (j := 0) (i := 0) (pc := 63) D_M_frees_63 rfl) (AJ_I (p0 := 64) (p1 := 65) (p2 := 69) (EJ_iconst (n := 3) (v := (nI 3)) (pc := 64) D_M_frees_64 (by decide +kernel)) (AJ_I (p0 := 65) (p1 := 69) (p2 := 69) (EJ_getI (t := 13) (c := 12) (kf := 8) (r := (RX12, TX12, 52)) (p0 := 65) (p1 := 66) (EJ_aload_n (j := 0) (i := 0) (pc := 65) D_M_frees_65 rfl) D_M_frees_66 ⟨rfl, rfl, by decide, q_940⟩ (fun _ _ => rfl)) AJ_nil)) m_M_fails E1_U D_M_frees_69 rfl rfl rfl q_1077 q_1078 q_42 q_97 ⟨by decide +kernel, by decide +kernel, by decide +kernel⟩ (by decide) (show 2 + 1 ≤ 3 from by decide) (show ∀ x_ ∈ ([13] : List Nat), x_ ∈ ([13, 76] : List Nat) from by decide)))
 (SJ_retU (pc := 72) D_M_frees_72)) SJ_sk)
 (SJ_sq (p0 := 73) (p1 := 83) (nN := 0) (nB := 0) (nC := 0) (SJ_iast (ws := [76]) (p0 := 73) (p1 := 77) (p2 := 81) (p3 := 82) (EJ_getR (t := 13) (c := 12) (kf := 12) (r := (RX12, TX12, 52)) (p0 := 73) (p1 := 74) (EJ_aload_n (j := 0) (i := 0) (pc := 73) D_M_frees_73 rfl) D_M_frees_74 ⟨rfl, rfl, by decide, q_944⟩ (fun _ _ => rfl)) (EJ_getI (t := 13) (c := 12) (kf := 11) (r := (RX12, TX12, 52)) (p0 := 77) (p1 := 78) (EJ_aload_n (j := 0) (i := 0) (pc := 77) D_M_frees_77 rfl) D_M_frees_78 ⟨rfl, rfl, by decide, q_943⟩ (fun _ _ => rfl)) (EJ_iload_n (j := 1) (i := 1) (pc := 81) D_M_frees_81 rfl) D_M_frees_82 (show ∀ x_ ∈ ([76] : List Nat), x_ ∈ ([13, 76] : List Nat) from by decide))
 (SJ_sq (p0 := 83) (p1 := 93) (nN := 0) (nB := 0) (nC := 0) (SJ_upF (z := false) (t := 13) (c := 12) (kf := 11) (r := (RX12, TX12, 52)) (f := (fun x y => x + y)) (p0 := 83) (p1 := 84) (p3 := 89) (EJ_aload_n (j := 0) (i := 0) (pc := 83) D_M_frees_83 rfl) D_M_frees_84 D_M_frees_85 (EJ_iconst (n := 1) (v := (nI 1)) (pc := 88) D_M_frees_88 (by decide +kernel)) (Op2_iadd D_M_frees_89) D_M_frees_90 ⟨rfl, rfl, by decide, q_943⟩ ⟨rfl, rfl, by decide, q_943⟩ (Or.inl rfl) (fun _ _ => ⟨rfl, rfl⟩) (fun _ _ => rfl) (show (13 : Nat) ∈ ([13, 76] : List Nat) from by decide))
 (SJ_retU (pc := 93) D_M_frees_93)))))
 RTm_void q_1091 (by decide +kernel) rfl (fun h => by cases h) (show 2 ≤ 40 from by decide) (fun _ => trivial)
theorem D_M_readsSigns_0 : decode cX12_readsSigns 0 = .ok (.aload_n 0, 1) := by decide +kernel
theorem D_M_readsSigns_1 : decode cX12_readsSigns 1 = .ok (.getfield 13, 3) := by decide +kernel
theorem D_M_readsSigns_4 : decode cX12_readsSigns 4 = .ok (.iload_n 1, 1) := by decide +kernel
theorem D_M_readsSigns_5 : decode cX12_readsSigns 5 = .ok (.iconst (0), 1) := by decide +kernel
theorem D_M_readsSigns_6 : decode cX12_readsSigns 6 = .ok (.iastore, 1) := by decide +kernel
theorem D_M_readsSigns_7 : decode cX12_readsSigns 7 = .ok (.aload_n 0, 1) := by decide +kernel
theorem D_M_readsSigns_8 : decode cX12_readsSigns 8 = .ok (.invokevirtual 130, 3) := by decide +kernel
theorem D_M_readsSigns_11 : decode cX12_readsSigns 11 = .ok (.ifCond .eq (96), 3) := by decide +kernel
theorem D_M_readsSigns_14 : decode cX12_readsSigns 14 = .ok (.aload_n 0, 1) := by decide +kernel
theorem D_M_readsSigns_15 : decode cX12_readsSigns 15 = .ok (.invokevirtual 158, 3) := by decide +kernel
theorem D_M_readsSigns_18 : decode cX12_readsSigns 18 = .ok (.ifCond .eq (89), 3) := by decide +kernel
theorem D_M_readsSigns_21 : decode cX12_readsSigns 21 = .ok (.aload_n 0, 1) := by decide +kernel
theorem D_M_readsSigns_22 : decode cX12_readsSigns 22 = .ok (.getfield 13, 3) := by decide +kernel
theorem D_M_readsSigns_25 : decode cX12_readsSigns 25 = .ok (.iload_n 1, 1) := by decide +kernel
theorem D_M_readsSigns_26 : decode cX12_readsSigns 26 = .ok (.iaload, 1) := by decide +kernel
theorem D_M_readsSigns_27 : decode cX12_readsSigns 27 = .ok (.bipush (6), 2) := by decide +kernel
theorem D_M_readsSigns_29 : decode cX12_readsSigns 29 = .ok (.if_icmp .ne (12), 3) := by decide +kernel
theorem D_M_readsSigns_32 : decode cX12_readsSigns 32 = .ok (.aload_n 0, 1) := by decide +kernel
theorem D_M_readsSigns_33 : decode cX12_readsSigns 33 = .ok (.iconst (2), 1) := by decide +kernel
theorem D_M_readsSigns_34 : decode cX12_readsSigns 34 = .ok (.aload_n 0, 1) := by decide +kernel
theorem D_M_readsSigns_35 : decode cX12_readsSigns 35 = .ok (.getfield 120, 3) := by decide +kernel
theorem D_M_readsSigns_38 : decode cX12_readsSigns 38 = .ok (.invokevirtual 154, 3) := by decide +kernel
theorem D_M_readsSigns_41 : decode cX12_readsSigns 41 = .ok (.aload_n 0, 1) := by decide +kernel
theorem D_M_readsSigns_42 : decode cX12_readsSigns 42 = .ok (.invokevirtual 130, 3) := by decide +kernel
theorem D_M_readsSigns_45 : decode cX12_readsSigns 45 = .ok (.ifCond .eq (15), 3) := by decide +kernel
theorem D_M_readsSigns_48 : decode cX12_readsSigns 48 = .ok (.iload_n 2, 1) := by decide +kernel
theorem D_M_readsSigns_49 : decode cX12_readsSigns 49 = .ok (.ifCond .eq (11), 3) := by decide +kernel
theorem D_M_readsSigns_52 : decode cX12_readsSigns 52 = .ok (.aload_n 0, 1) := by decide +kernel
theorem D_M_readsSigns_53 : decode cX12_readsSigns 53 = .ok (.aload_n 0, 1) := by decide +kernel
theorem D_M_readsSigns_54 : decode cX12_readsSigns 54 = .ok (.invokevirtual 123, 3) := by decide +kernel
theorem D_M_readsSigns_57 : decode cX12_readsSigns 57 = .ok (.invokevirtual 161, 3) := by decide +kernel
theorem D_M_readsSigns_60 : decode cX12_readsSigns 60 = .ok (.aload_n 0, 1) := by decide +kernel
theorem D_M_readsSigns_61 : decode cX12_readsSigns 61 = .ok (.invokevirtual 130, 3) := by decide +kernel
theorem D_M_readsSigns_64 : decode cX12_readsSigns 64 = .ok (.ifCond .eq (-57), 3) := by decide +kernel
theorem D_M_readsSigns_67 : decode cX12_readsSigns 67 = .ok (.aload_n 0, 1) := by decide +kernel
theorem D_M_readsSigns_68 : decode cX12_readsSigns 68 = .ok (.getfield 13, 3) := by decide +kernel
theorem D_M_readsSigns_71 : decode cX12_readsSigns 71 = .ok (.iload_n 1, 1) := by decide +kernel
theorem D_M_readsSigns_72 : decode cX12_readsSigns 72 = .ok (.dup2, 1) := by decide +kernel
theorem D_M_readsSigns_73 : decode cX12_readsSigns 73 = .ok (.iaload, 1) := by decide +kernel
theorem D_M_readsSigns_74 : decode cX12_readsSigns 74 = .ok (.iconst (1), 1) := by decide +kernel
theorem D_M_readsSigns_75 : decode cX12_readsSigns 75 = .ok (.iadd, 1) := by decide +kernel
theorem D_M_readsSigns_76 : decode cX12_readsSigns 76 = .ok (.iastore, 1) := by decide +kernel
theorem D_M_readsSigns_77 : decode cX12_readsSigns 77 = .ok (.aload_n 0, 1) := by decide +kernel
theorem D_M_readsSigns_78 : decode cX12_readsSigns 78 = .ok (.getfield 13, 3) := by decide +kernel
theorem D_M_readsSigns_81 : decode cX12_readsSigns 81 = .ok (.iload_n 1, 1) := by decide +kernel
theorem D_M_readsSigns_82 : decode cX12_readsSigns 82 = .ok (.aload_n 0, 1) := by decide +kernel
theorem D_M_readsSigns_83 : decode cX12_readsSigns 83 = .ok (.getfield 13, 3) := by decide +kernel
theorem D_M_readsSigns_86 : decode cX12_readsSigns 86 = .ok (.iload_n 1, 1) := by decide +kernel
theorem D_M_readsSigns_87 : decode cX12_readsSigns 87 = .ok (.iaload, 1) := by decide +kernel
theorem D_M_readsSigns_88 : decode cX12_readsSigns 88 = .ok (.iadd, 1) := by decide +kernel
theorem D_M_readsSigns_89 : decode cX12_readsSigns 89 = .ok (.aload_n 0, 1) := by decide +kernel
theorem D_M_readsSigns_90 : decode cX12_readsSigns 90 = .ok (.invokevirtual 123, 3) := by decide +kernel
theorem D_M_readsSigns_93 : decode cX12_readsSigns 93 = .ok (.iastore, 1) := by decide +kernel
theorem D_M_readsSigns_94 : decode cX12_readsSigns 94 = .ok (.aload_n 0, 1) := by decide +kernel
theorem D_M_readsSigns_95 : decode cX12_readsSigns 95 = .ok (.dup, 1) := by decide +kernel
theorem D_M_readsSigns_96 : decode cX12_readsSigns 96 = .ok (.getfield 120, 3) := by decide +kernel
theorem D_M_readsSigns_99 : decode cX12_readsSigns 99 = .ok (.iconst (1), 1) := by decide +kernel
theorem D_M_readsSigns_100 : decode cX12_readsSigns 100 = .ok (.iadd, 1) := by decide +kernel
theorem D_M_readsSigns_101 : decode cX12_readsSigns 101 = .ok (.putfield 120, 3) := by decide +kernel
theorem D_M_readsSigns_104 : decode cX12_readsSigns 104 = .ok (.goto (-97), 3) := by decide +kernel
theorem D_M_readsSigns_107 : decode cX12_readsSigns 107 = .ok (.return_, 1) := by decide +kernel
def K_M_readsSigns : SC := (cX12_readsSigns, "TwoLevelsModel", 3, 4, false, [13, 71, 76], NoQ)
def d_M_readsSigns : MD Unit := mth tt 3 (sq (sh3 (stI [71]) (eh1 (gR 13 1) (lR 0)) (lI 1) (eC (nI 0)))
 (sq (loop (cAnd (eh1 z_ne (kV 13 d_M_isRight (lR 0) [])) (eh1 z_ne (kV 13 d_M_isSign (lR 0) [])))
 (sq (sIf (eh2 c_eq (eh2 (aI .int) (eh1 (gR 13 1) (lR 0)) (lI 1)) (eC (nI 6))) (sE (kV 13 d_M_fails (lR 0) [vI (eC (nI 2)), vI (eh1 (gI 13 8) (lR 0))])) sk)
 (sq (sIf (cAnd (eh1 z_ne (kV 13 d_M_isRight (lR 0) [])) (eh1 z_ne (lI 2))) (sE (kV 13 d_M_frees (lR 0) [vI (kV 13 d_M_sign (lR 0) [])])) sk)
 (sIf (eh1 z_ne (kV 13 d_M_isRight (lR 0) [])) (sq (su3 (aI .int) (uA [71] (fun x y => x + y)) (eh1 (gR 13 1) (lR 0)) (lI 1) (eC (nI 1)))
 (sq (sh3 (stI [71]) (eh1 (gR 13 1) (lR 0)) (eh2 iaddF (lI 1) (eh2 (aI .int) (eh1 (gR 13 1) (lR 0)) (lI 1))) (kV 13 d_M_sign (lR 0) []))
 (su2 (gI 13 8) (uF false 13 8 (fun x y => x + y)) (lR 0) (eC (nI 1))))) sk)))
 sk)
 rtnU))
theorem m_M_readsSigns : MJ 4 [13, 71, 76] yX12_readsSigns none eU (d_M_readsSigns) := MJ_of (K := K_M_readsSigns) (ri := .return_) (n1 := 0) (n2 := 0) (n3 := 0)
 (SJ_sq (p0 := 0) (p1 := 7) (nN := 0) (nB := 0) (nC := 0) (SJ_iast (ws := [71]) (p0 := 0) (p1 := 4) (p2 := 5) (p3 := 6) (EJ_getR (t := 13) (c := 12) (kf := 1) (r := (RX12, TX12, 52)) (p0 := 0) (p1 := 1) (EJ_aload_n (j := 0) (i := 0) (pc := 0) D_M_readsSigns_0 rfl) D_M_readsSigns_1 ⟨rfl, rfl, by decide, q_933⟩ (fun _ _ => rfl)) (EJ_iload_n (j := 1) (i := 1) (pc := 4) D_M_readsSigns_4 rfl) (EJ_iconst (n := 0) (v := (nI 0)) (pc := 5) D_M_readsSigns_5 (by decide +kernel)) D_M_readsSigns_6 (show ∀ x_ ∈ ([71] : List Nat), x_ ∈ ([13, 71, 76] : List Nat) from by decide))
 (SJ_sq (p0 := 7) (p1 := 107) (nN := 0) (nB := 0) (nC := 0) (SJ_loop (p0 := 7) (pB := 21) (pS := 7) (pE := 107) (CJ_and (p0 := 7) (pM := 14) (pT := 21) (pF := 107) (CZ_ne' (off := 96) (tgt := 107) (p0 := 7) (p1 := 11) (EJ_callV (t := 13) (c := 12) (r := (RX12, TX12, 52)) (p0 := 7) (p1 := 8) (p2 := 8) (EJ_aload_n (j := 0) (i := 0) (pc := 7) D_M_readsSigns_7 rfl) AJ_nil m_M_isRight E1_I D_M_readsSigns_8 rfl rfl rfl q_1062 q_1063 q_40 q_97 ⟨by decide +kernel, by decide +kernel, by decide +kernel⟩ (by decide) (show 1 + 1 ≤ 4 from by decide) (fun _ h => absurd h List.not_mem_nil)) D_M_readsSigns_11 rfl) (CZ_ne' (off := 89) (tgt := 107) (p0 := 14) (p1 := 18) (EJ_callV (t := 13) (c := 12) (r := (RX12, TX12, 52)) (p0 := 14) (p1 := 15) (p2 := 15) (EJ_aload_n (j := 0) (i := 0) (pc := 14) D_M_readsSigns_14 rfl) AJ_nil m_M_isSign E1_I D_M_readsSigns_15 rfl rfl rfl q_1065 q_1066 q_41 q_97 ⟨by decide +kernel, by decide +kernel, by decide +kernel⟩ (by decide) (show 3 + 1 ≤ 4 from by decide) (show ∀ x_ ∈ ([13] : List Nat), x_ ∈ ([13, 71, 76] : List Nat) from by decide)) D_M_readsSigns_18 rfl))
 (SJ_sq (p0 := 21) (p1 := 41) (nN := 7) (nB := 107) (nC := 7) (SJ_if (p0 := 21) (pT := 32) (pF := 41) (nN := 41) (nB := 107) (nC := 7) (CJ_eq' (off := 12) (tgt := 41) (p0 := 21) (p1 := 27) (p2 := 29) (EJ_iald (p0 := 21) (p1 := 25) (p2 := 26) (EJ_getR (t := 13) (c := 12) (kf := 1) (r := (RX12, TX12, 52)) (p0 := 21) (p1 := 22) (EJ_aload_n (j := 0) (i := 0) (pc := 21) D_M_readsSigns_21 rfl) D_M_readsSigns_22 ⟨rfl, rfl, by decide, q_933⟩ (fun _ _ => rfl)) (EJ_iload_n (j := 1) (i := 1) (pc := 25) D_M_readsSigns_25 rfl) D_M_readsSigns_26) (EJ_bipush (n := 6) (v := (nI 6)) (pc := 27) D_M_readsSigns_27 (by decide +kernel)) D_M_readsSigns_29 rfl) (SJ_void (p0 := 32) (p1 := 41) (EJ_callV (t := 13) (c := 12) (r := (RX12, TX12, 52)) (p0 := 32) (p1 := 33) (p2 := 38) (EJ_aload_n (j := 0) (i := 0) (pc := 32) D_M_readsSigns_32 rfl) (AJ_I (p0 := 33) (p1 := 34) (p2 := 38) (EJ_iconst (n := 2) (v := (nI 2)) (pc := 33) D_M_readsSigns_33 (by decide +kernel)) (AJ_I (p0 := 34) (p1 := 38) (p2 := 38) (EJ_getI (t := 13) (c := 12) (kf := 8) (r := (RX12, TX12, 52)) (p0 := 34) (p1 := 35) (EJ_aload_n (j := 0) (i := 0) (pc := 34) D_M_readsSigns_34 rfl) D_M_readsSigns_35 ⟨rfl, rfl, by decide, q_940⟩ (fun _ _ => rfl)) AJ_nil)) m_M_fails E1_U D_M_readsSigns_38 rfl rfl rfl q_1077 q_1078 q_42 q_97 ⟨by decide +kernel, by decide +kernel, by decide +kernel⟩ (by decide) (show 2 + 1 ≤ 4 from by decide) (show ∀ x_ ∈ ([13] : List Nat), x_ ∈ ([13, 71, 76] : List Nat) from by decide))) SJ_sk)
 (SJ_sq (p0 := 41) (p1 := 60) (nN := 7) (nB := 107) (nC := 7) (SJ_if (p0 := 41) (pT := 52) (pF := 60) (nN := 60) (nB := 107) (nC := 7) (CJ_and (p0 := 41) (pM := 48) (pT := 52) (pF := 60) (CZ_ne' (off := 15) (tgt := 60) (p0 := 41) (p1 := 45) (EJ_callV (t := 13) (c := 12) (r := (RX12, TX12, 52)) (p0 := 41) (p1 := 42) (p2 := 42) (EJ_aload_n (j := 0) (i := 0) (pc := 41) D_M_readsSigns_41 rfl) AJ_nil m_M_isRight E1_I D_M_readsSigns_42 rfl rfl rfl q_1062 q_1063 q_40 q_97 ⟨by decide +kernel, by decide +kernel, by decide +kernel⟩ (by decide) (show 1 + 1 ≤ 4 from by decide) (fun _ h => absurd h List.not_mem_nil)) D_M_readsSigns_45 rfl) (CZ_ne' (off := 11) (tgt := 60) (p0 := 48) (p1 := 49) (EJ_iload_n (j := 2) (i := 2) (pc := 48) D_M_readsSigns_48 rfl) D_M_readsSigns_49 rfl)) (SJ_void (p0 := 52) (p1 := 60) (EJ_callV (t := 13) (c := 12) (r := (RX12, TX12, 52)) (p0 := 52) (p1 := 53) (p2 := 57) (EJ_aload_n (j := 0) (i := 0) (pc := 52) D_M_readsSigns_52 rfl) (AJ_I (p0 := 53) (p1 := 57) (p2 := 57) (EJ_callV (t := 13) (c := 12) (r := (RX12, TX12, 52)) (p0 := 53) (p1 := 54) (p2 := 54) (EJ_aload_n (j := 0) (i := 0) (pc := 53) D_M_readsSigns_53 rfl) AJ_nil m_M_sign E1_I D_M_readsSigns_54 rfl rfl rfl q_1056 q_1057 q_38 q_97 ⟨by decide +kernel, by decide +kernel, by decide +kernel⟩ (by decide) (show 1 + 1 ≤ 4 from by decide) (fun _ h => absurd h List.not_mem_nil)) AJ_nil) m_M_frees E1_U D_M_readsSigns_57 rfl rfl rfl q_1089 q_1090 q_46 q_97 ⟨by decide +kernel, by decide +kernel, by decide +kernel⟩ (by decide) (show 3 + 1 ≤ 4 from by decide) (show ∀ x_ ∈ ([13, 76] : List Nat), x_ ∈ ([13, 71, 76] : List Nat) from by decide))) SJ_sk)
 (SJ_if (p0 := 60) (pT := 67) (pF := 7) (nN := 7) (nB := 107) (nC := 7) (CZ_ne' (off := -57) (tgt := 7) (p0 := 60) (p1 := 64) (EJ_callV (t := 13) (c := 12) (r := (RX12, TX12, 52)) (p0 := 60) (p1 := 61) (p2 := 61) (EJ_aload_n (j := 0) (i := 0) (pc := 60) D_M_readsSigns_60 rfl) AJ_nil m_M_isRight E1_I D_M_readsSigns_61 rfl rfl rfl q_1062 q_1063 q_40 q_97 ⟨by decide +kernel, by decide +kernel, by decide +kernel⟩ (by decide) (show 1 + 1 ≤ 4 from by decide) (fun _ h => absurd h List.not_mem_nil)) D_M_readsSigns_64 rfl) (SJ_sq (p0 := 67) (p1 := 77) (nN := 7) (nB := 107) (nC := 7) (SJ_upA (ws := [71]) (f := (fun x y => x + y)) (p0 := 67) (p1 := 71) (p2 := 72) (p4 := 75) (EJ_getR (t := 13) (c := 12) (kf := 1) (r := (RX12, TX12, 52)) (p0 := 67) (p1 := 68) (EJ_aload_n (j := 0) (i := 0) (pc := 67) D_M_readsSigns_67 rfl) D_M_readsSigns_68 ⟨rfl, rfl, by decide, q_933⟩ (fun _ _ => rfl)) (EJ_iload_n (j := 1) (i := 1) (pc := 71) D_M_readsSigns_71 rfl) D_M_readsSigns_72 D_M_readsSigns_73 (EJ_iconst (n := 1) (v := (nI 1)) (pc := 74) D_M_readsSigns_74 (by decide +kernel)) (Op2_iadd D_M_readsSigns_75) D_M_readsSigns_76 (show ∀ x_ ∈ ([71] : List Nat), x_ ∈ ([13, 71, 76] : List Nat) from by decide))
 (SJ_sq (p0 := 77) (p1 := 94) (nN := 7) (nB := 107) (nC := 7) (SJ_iast (ws := [71]) (p0 := 77) (p1 := 81) (p2 := 89) (p3 := 93) (EJ_getR (t := 13) (c := 12) (kf := 1) (r := (RX12, TX12, 52)) (p0 := 77) (p1 := 78) (EJ_aload_n (j := 0) (i := 0) (pc := 77) D_M_readsSigns_77 rfl) D_M_readsSigns_78 ⟨rfl, rfl, by decide, q_933⟩ (fun _ _ => rfl)) (EJ_iadd (p0 := 81) (p1 := 82) (p2 := 88) (EJ_iload_n (j := 1) (i := 1) (pc := 81) D_M_readsSigns_81 rfl) (EJ_iald (p0 := 82) (p1 := 86) (p2 := 87) (EJ_getR (t := 13) (c := 12) (kf := 1) (r := (RX12, TX12, 52)) (p0 := 82) (p1 := 83) (EJ_aload_n (j := 0) (i := 0) (pc := 82) D_M_readsSigns_82 rfl) D_M_readsSigns_83 ⟨rfl, rfl, by decide, q_933⟩ (fun _ _ => rfl)) (EJ_iload_n (j := 1) (i := 1) (pc := 86) D_M_readsSigns_86 rfl) D_M_readsSigns_87) D_M_readsSigns_88) (EJ_callV (t := 13) (c := 12) (r := (RX12, TX12, 52)) (p0 := 89) (p1 := 90) (p2 := 90) (EJ_aload_n (j := 0) (i := 0) (pc := 89) D_M_readsSigns_89 rfl) AJ_nil m_M_sign E1_I D_M_readsSigns_90 rfl rfl rfl q_1056 q_1057 q_38 q_97 ⟨by decide +kernel, by decide +kernel, by decide +kernel⟩ (by decide) (show 1 + 1 ≤ 4 from by decide) (fun _ h => absurd h List.not_mem_nil)) D_M_readsSigns_93 (show ∀ x_ ∈ ([71] : List Nat), x_ ∈ ([13, 71, 76] : List Nat) from by decide))
 (SJ_post (SJ_upF (z := false) (t := 13) (c := 12) (kf := 8) (r := (RX12, TX12, 52)) (f := (fun x y => x + y)) (p0 := 94) (p1 := 95) (p3 := 100) (EJ_aload_n (j := 0) (i := 0) (pc := 94) D_M_readsSigns_94 rfl) D_M_readsSigns_95 D_M_readsSigns_96 (EJ_iconst (n := 1) (v := (nI 1)) (pc := 99) D_M_readsSigns_99 (by decide +kernel)) (Op2_iadd D_M_readsSigns_100) D_M_readsSigns_101 ⟨rfl, rfl, by decide, q_940⟩ ⟨rfl, rfl, by decide, q_940⟩ (Or.inl rfl) (fun _ _ => ⟨rfl, rfl⟩) (fun _ _ => rfl) (show (13 : Nat) ∈ ([13, 71, 76] : List Nat) from by decide)) (Lead.goto (K := K_M_readsSigns) (pc := 104) (tgt := 7) D_M_readsSigns_104 rfl)))) SJ_sk)))
 SJ_sk)
 (SJ_retU (pc := 107) D_M_readsSigns_107)))
 RTm_void q_1088 (by decide +kernel) rfl (fun h => by cases h) (show 3 ≤ 40 from by decide) (fun _ => trivial)
theorem D_M_readsMeta_0 : decode cX12_readsMeta 0 = .ok (.aload_n 0, 1) := by decide +kernel
theorem D_M_readsMeta_1 : decode cX12_readsMeta 1 = .ok (.iload_n 1, 1) := by decide +kernel
theorem D_M_readsMeta_2 : decode cX12_readsMeta 2 = .ok (.invokevirtual 164, 3) := by decide +kernel
theorem D_M_readsMeta_5 : decode cX12_readsMeta 5 = .ok (.iconst (-1), 1) := by decide +kernel
theorem D_M_readsMeta_6 : decode cX12_readsMeta 6 = .ok (.if_icmp .eq (12), 3) := by decide +kernel
theorem D_M_readsMeta_9 : decode cX12_readsMeta 9 = .ok (.aload_n 0, 1) := by decide +kernel
theorem D_M_readsMeta_10 : decode cX12_readsMeta 10 = .ok (.iconst (4), 1) := by decide +kernel
theorem D_M_readsMeta_11 : decode cX12_readsMeta 11 = .ok (.iload_n 2, 1) := by decide +kernel
theorem D_M_readsMeta_12 : decode cX12_readsMeta 12 = .ok (.invokevirtual 154, 3) := by decide +kernel
theorem D_M_readsMeta_15 : decode cX12_readsMeta 15 = .ok (.goto (20), 3) := by decide +kernel
theorem D_M_readsMeta_18 : decode cX12_readsMeta 18 = .ok (.aload_n 0, 1) := by decide +kernel
theorem D_M_readsMeta_19 : decode cX12_readsMeta 19 = .ok (.getfield 13, 3) := by decide +kernel
theorem D_M_readsMeta_22 : decode cX12_readsMeta 22 = .ok (.iconst (0), 1) := by decide +kernel
theorem D_M_readsMeta_23 : decode cX12_readsMeta 23 = .ok (.iaload, 1) := by decide +kernel
theorem D_M_readsMeta_24 : decode cX12_readsMeta 24 = .ok (.bipush (6), 2) := by decide +kernel
theorem D_M_readsMeta_26 : decode cX12_readsMeta 26 = .ok (.if_icmp .ne (9), 3) := by decide +kernel
theorem D_M_readsMeta_29 : decode cX12_readsMeta 29 = .ok (.aload_n 0, 1) := by decide +kernel
theorem D_M_readsMeta_30 : decode cX12_readsMeta 30 = .ok (.iconst (3), 1) := by decide +kernel
theorem D_M_readsMeta_31 : decode cX12_readsMeta 31 = .ok (.iload_n 2, 1) := by decide +kernel
theorem D_M_readsMeta_32 : decode cX12_readsMeta 32 = .ok (.invokevirtual 154, 3) := by decide +kernel
theorem D_M_readsMeta_35 : decode cX12_readsMeta 35 = .ok (.aload_n 0, 1) := by decide +kernel
theorem D_M_readsMeta_36 : decode cX12_readsMeta 36 = .ok (.invokevirtual 130, 3) := by decide +kernel
theorem D_M_readsMeta_39 : decode cX12_readsMeta 39 = .ok (.ifCond .ne (4), 3) := by decide +kernel
theorem D_M_readsMeta_42 : decode cX12_readsMeta 42 = .ok (.return_, 1) := by decide +kernel
theorem D_M_readsMeta_43 : decode cX12_readsMeta 43 = .ok (.iconst (4), 1) := by decide +kernel
theorem D_M_readsMeta_44 : decode cX12_readsMeta 44 = .ok (.bipush (30), 2) := by decide +kernel
theorem D_M_readsMeta_46 : decode cX12_readsMeta 46 = .ok (.aload_n 0, 1) := by decide +kernel
theorem D_M_readsMeta_47 : decode cX12_readsMeta 47 = .ok (.getfield 13, 3) := by decide +kernel
theorem D_M_readsMeta_50 : decode cX12_readsMeta 50 = .ok (.iconst (0), 1) := by decide +kernel
theorem D_M_readsMeta_51 : decode cX12_readsMeta 51 = .ok (.iaload, 1) := by decide +kernel
theorem D_M_readsMeta_52 : decode cX12_readsMeta 52 = .ok (.imul, 1) := by decide +kernel
theorem D_M_readsMeta_53 : decode cX12_readsMeta 53 = .ok (.iadd, 1) := by decide +kernel
theorem D_M_readsMeta_54 : decode cX12_readsMeta 54 = .ok (.istore_n 3, 1) := by decide +kernel
theorem D_M_readsMeta_55 : decode cX12_readsMeta 55 = .ok (.aload_n 0, 1) := by decide +kernel
theorem D_M_readsMeta_56 : decode cX12_readsMeta 56 = .ok (.getfield 13, 3) := by decide +kernel
theorem D_M_readsMeta_59 : decode cX12_readsMeta 59 = .ok (.iload_n 3, 1) := by decide +kernel
theorem D_M_readsMeta_60 : decode cX12_readsMeta 60 = .ok (.iload_n 1, 1) := by decide +kernel
theorem D_M_readsMeta_61 : decode cX12_readsMeta 61 = .ok (.iastore, 1) := by decide +kernel
theorem D_M_readsMeta_62 : decode cX12_readsMeta 62 = .ok (.aload_n 0, 1) := by decide +kernel
theorem D_M_readsMeta_63 : decode cX12_readsMeta 63 = .ok (.getfield 13, 3) := by decide +kernel
theorem D_M_readsMeta_66 : decode cX12_readsMeta 66 = .ok (.iload_n 3, 1) := by decide +kernel
theorem D_M_readsMeta_67 : decode cX12_readsMeta 67 = .ok (.iconst (1), 1) := by decide +kernel
theorem D_M_readsMeta_68 : decode cX12_readsMeta 68 = .ok (.iadd, 1) := by decide +kernel
theorem D_M_readsMeta_69 : decode cX12_readsMeta 69 = .ok (.iconst (0), 1) := by decide +kernel
theorem D_M_readsMeta_70 : decode cX12_readsMeta 70 = .ok (.iastore, 1) := by decide +kernel
theorem D_M_readsMeta_71 : decode cX12_readsMeta 71 = .ok (.aload_n 0, 1) := by decide +kernel
theorem D_M_readsMeta_72 : decode cX12_readsMeta 72 = .ok (.getfield 13, 3) := by decide +kernel
theorem D_M_readsMeta_75 : decode cX12_readsMeta 75 = .ok (.iconst (0), 1) := by decide +kernel
theorem D_M_readsMeta_76 : decode cX12_readsMeta 76 = .ok (.dup2, 1) := by decide +kernel
theorem D_M_readsMeta_77 : decode cX12_readsMeta 77 = .ok (.iaload, 1) := by decide +kernel
theorem D_M_readsMeta_78 : decode cX12_readsMeta 78 = .ok (.iconst (1), 1) := by decide +kernel
theorem D_M_readsMeta_79 : decode cX12_readsMeta 79 = .ok (.iadd, 1) := by decide +kernel
theorem D_M_readsMeta_80 : decode cX12_readsMeta 80 = .ok (.iastore, 1) := by decide +kernel
theorem D_M_readsMeta_81 : decode cX12_readsMeta 81 = .ok (.iconst (1), 1) := by decide +kernel
theorem D_M_readsMeta_82 : decode cX12_readsMeta 82 = .ok (.istore 4, 2) := by decide +kernel
theorem D_M_readsMeta_84 : decode cX12_readsMeta 84 = .ok (.iload 4, 2) := by decide +kernel
theorem D_M_readsMeta_86 : decode cX12_readsMeta 86 = .ok (.ifCond .eq (100), 3) := by decide +kernel
theorem D_M_readsMeta_89 : decode cX12_readsMeta 89 = .ok (.aload_n 0, 1) := by decide +kernel
theorem D_M_readsMeta_90 : decode cX12_readsMeta 90 = .ok (.dup, 1) := by decide +kernel
theorem D_M_readsMeta_91 : decode cX12_readsMeta 91 = .ok (.getfield 120, 3) := by decide +kernel
theorem D_M_readsMeta_94 : decode cX12_readsMeta 94 = .ok (.iconst (1), 1) := by decide +kernel
theorem D_M_readsMeta_95 : decode cX12_readsMeta 95 = .ok (.iadd, 1) := by decide +kernel
theorem D_M_readsMeta_96 : decode cX12_readsMeta 96 = .ok (.putfield 120, 3) := by decide +kernel
theorem D_M_readsMeta_99 : decode cX12_readsMeta 99 = .ok (.aload_n 0, 1) := by decide +kernel
theorem D_M_readsMeta_100 : decode cX12_readsMeta 100 = .ok (.iload_n 3, 1) := by decide +kernel
theorem D_M_readsMeta_101 : decode cX12_readsMeta 101 = .ok (.iconst (2), 1) := by decide +kernel
theorem D_M_readsMeta_102 : decode cX12_readsMeta 102 = .ok (.iadd, 1) := by decide +kernel
theorem D_M_readsMeta_103 : decode cX12_readsMeta 103 = .ok (.bipush (7), 2) := by decide +kernel
theorem D_M_readsMeta_105 : decode cX12_readsMeta 105 = .ok (.aload_n 0, 1) := by decide +kernel
theorem D_M_readsMeta_106 : decode cX12_readsMeta 106 = .ok (.getfield 13, 3) := by decide +kernel
theorem D_M_readsMeta_109 : decode cX12_readsMeta 109 = .ok (.iload_n 3, 1) := by decide +kernel
theorem D_M_readsMeta_110 : decode cX12_readsMeta 110 = .ok (.iconst (1), 1) := by decide +kernel
theorem D_M_readsMeta_111 : decode cX12_readsMeta 111 = .ok (.iadd, 1) := by decide +kernel
theorem D_M_readsMeta_112 : decode cX12_readsMeta 112 = .ok (.iaload, 1) := by decide +kernel
theorem D_M_readsMeta_113 : decode cX12_readsMeta 113 = .ok (.imul, 1) := by decide +kernel
theorem D_M_readsMeta_114 : decode cX12_readsMeta 114 = .ok (.iadd, 1) := by decide +kernel
theorem D_M_readsMeta_115 : decode cX12_readsMeta 115 = .ok (.iconst (0), 1) := by decide +kernel
theorem D_M_readsMeta_116 : decode cX12_readsMeta 116 = .ok (.invokevirtual 168, 3) := by decide +kernel
theorem D_M_readsMeta_119 : decode cX12_readsMeta 119 = .ok (.aload_n 0, 1) := by decide +kernel
theorem D_M_readsMeta_120 : decode cX12_readsMeta 120 = .ok (.getfield 13, 3) := by decide +kernel
theorem D_M_readsMeta_123 : decode cX12_readsMeta 123 = .ok (.iload_n 3, 1) := by decide +kernel
theorem D_M_readsMeta_124 : decode cX12_readsMeta 124 = .ok (.iconst (1), 1) := by decide +kernel
theorem D_M_readsMeta_125 : decode cX12_readsMeta 125 = .ok (.iadd, 1) := by decide +kernel
theorem D_M_readsMeta_126 : decode cX12_readsMeta 126 = .ok (.dup2, 1) := by decide +kernel
theorem D_M_readsMeta_127 : decode cX12_readsMeta 127 = .ok (.iaload, 1) := by decide +kernel
theorem D_M_readsMeta_128 : decode cX12_readsMeta 128 = .ok (.iconst (1), 1) := by decide +kernel
theorem D_M_readsMeta_129 : decode cX12_readsMeta 129 = .ok (.iadd, 1) := by decide +kernel
theorem D_M_readsMeta_130 : decode cX12_readsMeta 130 = .ok (.iastore, 1) := by decide +kernel
theorem D_M_readsMeta_131 : decode cX12_readsMeta 131 = .ok (.aload_n 0, 1) := by decide +kernel
theorem D_M_readsMeta_132 : decode cX12_readsMeta 132 = .ok (.invokevirtual 130, 3) := by decide +kernel
theorem D_M_readsMeta_135 : decode cX12_readsMeta 135 = .ok (.ifCond .eq (16), 3) := by decide +kernel
theorem D_M_readsMeta_138 : decode cX12_readsMeta 138 = .ok (.aload_n 0, 1) := by decide +kernel
theorem D_M_readsMeta_139 : decode cX12_readsMeta 139 = .ok (.invokevirtual 134, 3) := by decide +kernel
theorem D_M_readsMeta_142 : decode cX12_readsMeta 142 = .ok (.bipush (124), 2) := by decide +kernel
theorem D_M_readsMeta_144 : decode cX12_readsMeta 144 = .ok (.if_icmp .ne (7), 3) := by decide +kernel
theorem D_M_readsMeta_147 : decode cX12_readsMeta 147 = .ok (.iconst (1), 1) := by decide +kernel
theorem D_M_readsMeta_148 : decode cX12_readsMeta 148 = .ok (.goto (4), 3) := by decide +kernel
theorem D_M_readsMeta_151 : decode cX12_readsMeta 151 = .ok (.iconst (0), 1) := by decide +kernel
theorem D_M_readsMeta_152 : decode cX12_readsMeta 152 = .ok (.istore 4, 2) := by decide +kernel
theorem D_M_readsMeta_154 : decode cX12_readsMeta 154 = .ok (.iload 4, 2) := by decide +kernel
theorem D_M_readsMeta_156 : decode cX12_readsMeta 156 = .ok (.ifCond .eq (-72), 3) := by decide +kernel
theorem D_M_readsMeta_159 : decode cX12_readsMeta 159 = .ok (.aload_n 0, 1) := by decide +kernel
theorem D_M_readsMeta_160 : decode cX12_readsMeta 160 = .ok (.getfield 13, 3) := by decide +kernel
theorem D_M_readsMeta_163 : decode cX12_readsMeta 163 = .ok (.iload_n 3, 1) := by decide +kernel
theorem D_M_readsMeta_164 : decode cX12_readsMeta 164 = .ok (.iconst (1), 1) := by decide +kernel
theorem D_M_readsMeta_165 : decode cX12_readsMeta 165 = .ok (.iadd, 1) := by decide +kernel
theorem D_M_readsMeta_166 : decode cX12_readsMeta 166 = .ok (.iaload, 1) := by decide +kernel
theorem D_M_readsMeta_167 : decode cX12_readsMeta 167 = .ok (.iconst (4), 1) := by decide +kernel
theorem D_M_readsMeta_168 : decode cX12_readsMeta 168 = .ok (.if_icmp .ne (-84), 3) := by decide +kernel
theorem D_M_readsMeta_171 : decode cX12_readsMeta 171 = .ok (.aload_n 0, 1) := by decide +kernel
theorem D_M_readsMeta_172 : decode cX12_readsMeta 172 = .ok (.iconst (3), 1) := by decide +kernel
theorem D_M_readsMeta_173 : decode cX12_readsMeta 173 = .ok (.aload_n 0, 1) := by decide +kernel
theorem D_M_readsMeta_174 : decode cX12_readsMeta 174 = .ok (.getfield 120, 3) := by decide +kernel
theorem D_M_readsMeta_177 : decode cX12_readsMeta 177 = .ok (.invokevirtual 154, 3) := by decide +kernel
theorem D_M_readsMeta_180 : decode cX12_readsMeta 180 = .ok (.iconst (0), 1) := by decide +kernel
theorem D_M_readsMeta_181 : decode cX12_readsMeta 181 = .ok (.istore 4, 2) := by decide +kernel
theorem D_M_readsMeta_183 : decode cX12_readsMeta 183 = .ok (.goto (-99), 3) := by decide +kernel
theorem D_M_readsMeta_186 : decode cX12_readsMeta 186 = .ok (.return_, 1) := by decide +kernel
def K_M_readsMeta : SC := (cX12_readsMeta, "TwoLevelsModel", 5, 5, false, [13, 71, 76], NoQ)
def d_M_readsMeta : MD Unit := mth tt 5 (sq (sIf (eh2 c_ne (kV 13 d_M_heardMeta (lR 0) [vI (lI 1)]) (eC (-1))) (sE (kV 13 d_M_fails (lR 0) [vI (eC (nI 4)), vI (lI 2)])) (sIf (eh2 c_eq (eh2 (aI .int) (eh1 (gR 13 1) (lR 0)) (eC (nI 0))) (eC (nI 6))) (sE (kV 13 d_M_fails (lR 0) [vI (eC (nI 3)), vI (lI 2)])) sk))
 (sq (sIf (cNot (eh1 z_ne (kV 13 d_M_isRight (lR 0) []))) rtnU sk)
 (sq (sI1 3 (eh2 iaddF (eC (nI 4)) (eh2 imulF (eC (nI 30)) (eh2 (aI .int) (eh1 (gR 13 1) (lR 0)) (eC (nI 0))))))
 (sq (sh3 (stI [71]) (eh1 (gR 13 1) (lR 0)) (lI 3) (lI 1))
 (sq (sh3 (stI [71]) (eh1 (gR 13 1) (lR 0)) (eh2 iaddF (lI 3) (eC (nI 1))) (eC (nI 0)))
 (sq (su3 (aI .int) (uA [71] (fun x y => x + y)) (eh1 (gR 13 1) (lR 0)) (eC (nI 0)) (eC (nI 1)))
 (sq (sI1 4 (eC (nI 1)))
 (sq (loop (eh1 z_ne (lI 4))
 (sq (su2 (gI 13 8) (uF false 13 8 (fun x y => x + y)) (lR 0) (eC (nI 1)))
 (sq (sE (kV 13 d_M_readsSigns (lR 0) [vI (eh2 iaddF (eh2 iaddF (lI 3) (eC (nI 2))) (eh2 imulF (eC (nI 7)) (eh2 (aI .int) (eh1 (gR 13 1) (lR 0)) (eh2 iaddF (lI 3) (eC (nI 1)))))), vI (eC (nI 0))]))
 (sq (su3 (aI .int) (uA [71] (fun x y => x + y)) (eh1 (gR 13 1) (lR 0)) (eh2 iaddF (lI 3) (eC (nI 1))) (eC (nI 1)))
 (sq (sI1 4 (eIf (cAnd (eh1 z_ne (kV 13 d_M_isRight (lR 0) [])) (eh2 c_eq (kV 13 d_M_next (lR 0) []) (eC (nI 124)))) (eC (nI 1)) (eC (nI 0))))
 (sIf (cAnd (eh1 z_ne (lI 4)) (eh2 c_eq (eh2 (aI .int) (eh1 (gR 13 1) (lR 0)) (eh2 iaddF (lI 3) (eC (nI 1)))) (eC (nI 4)))) (sq (sE (kV 13 d_M_fails (lR 0) [vI (eC (nI 3)), vI (eh1 (gI 13 8) (lR 0))]))
 (sI1 4 (eC (nI 0)))) sk)))))
 sk)
 rtnU))))))))
theorem m_M_readsMeta : MJ 5 [13, 71, 76] yX12_readsMeta none eU (d_M_readsMeta) := MJ_of (K := K_M_readsMeta) (ri := .return_) (n1 := 0) (n2 := 0) (n3 := 0)
 (SJ_sq (p0 := 0) (p1 := 35) (nN := 0) (nB := 0) (nC := 0) (SJ_if (p0 := 0) (pT := 9) (pF := 18) (nN := 35) (nB := 0) (nC := 0) (CJ_ne' (off := 12) (tgt := 18) (p0 := 0) (p1 := 5) (p2 := 6) (EJ_callV (t := 13) (c := 12) (r := (RX12, TX12, 52)) (p0 := 0) (p1 := 1) (p2 := 2) (EJ_aload_n (j := 0) (i := 0) (pc := 0) D_M_readsMeta_0 rfl) (AJ_I (p0 := 1) (p1 := 2) (p2 := 2) (EJ_iload_n (j := 1) (i := 1) (pc := 1) D_M_readsMeta_1 rfl) AJ_nil) m_M_heardMeta E1_I D_M_readsMeta_2 rfl rfl rfl q_1083 q_1084 q_44 q_97 ⟨by decide +kernel, by decide +kernel, by decide +kernel⟩ (by decide) (show 1 + 1 ≤ 5 from by decide) (fun _ h => absurd h List.not_mem_nil)) (EJ_iconst (n := -1) (v := (-1)) (pc := 5) D_M_readsMeta_5 (by decide +kernel)) D_M_readsMeta_6 rfl) (SJ_post (SJ_void (p0 := 9) (p1 := 15) (EJ_callV (t := 13) (c := 12) (r := (RX12, TX12, 52)) (p0 := 9) (p1 := 10) (p2 := 12) (EJ_aload_n (j := 0) (i := 0) (pc := 9) D_M_readsMeta_9 rfl) (AJ_I (p0 := 10) (p1 := 11) (p2 := 12) (EJ_iconst (n := 4) (v := (nI 4)) (pc := 10) D_M_readsMeta_10 (by decide +kernel)) (AJ_I (p0 := 11) (p1 := 12) (p2 := 12) (EJ_iload_n (j := 2) (i := 2) (pc := 11) D_M_readsMeta_11 rfl) AJ_nil)) m_M_fails E1_U D_M_readsMeta_12 rfl rfl rfl q_1077 q_1078 q_42 q_97 ⟨by decide +kernel, by decide +kernel, by decide +kernel⟩ (by decide) (show 2 + 1 ≤ 5 from by decide) (show ∀ x_ ∈ ([13] : List Nat), x_ ∈ ([13, 71, 76] : List Nat) from by decide))) (Lead.goto (K := K_M_readsMeta) (pc := 15) (tgt := 35) D_M_readsMeta_15 rfl)) (SJ_if (p0 := 18) (pT := 29) (pF := 35) (nN := 35) (nB := 0) (nC := 0) (CJ_eq' (off := 9) (tgt := 35) (p0 := 18) (p1 := 24) (p2 := 26) (EJ_iald (p0 := 18) (p1 := 22) (p2 := 23) (EJ_getR (t := 13) (c := 12) (kf := 1) (r := (RX12, TX12, 52)) (p0 := 18) (p1 := 19) (EJ_aload_n (j := 0) (i := 0) (pc := 18) D_M_readsMeta_18 rfl) D_M_readsMeta_19 ⟨rfl, rfl, by decide, q_933⟩ (fun _ _ => rfl)) (EJ_iconst (n := 0) (v := (nI 0)) (pc := 22) D_M_readsMeta_22 (by decide +kernel)) D_M_readsMeta_23) (EJ_bipush (n := 6) (v := (nI 6)) (pc := 24) D_M_readsMeta_24 (by decide +kernel)) D_M_readsMeta_26 rfl) (SJ_void (p0 := 29) (p1 := 35) (EJ_callV (t := 13) (c := 12) (r := (RX12, TX12, 52)) (p0 := 29) (p1 := 30) (p2 := 32) (EJ_aload_n (j := 0) (i := 0) (pc := 29) D_M_readsMeta_29 rfl) (AJ_I (p0 := 30) (p1 := 31) (p2 := 32) (EJ_iconst (n := 3) (v := (nI 3)) (pc := 30) D_M_readsMeta_30 (by decide +kernel)) (AJ_I (p0 := 31) (p1 := 32) (p2 := 32) (EJ_iload_n (j := 2) (i := 2) (pc := 31) D_M_readsMeta_31 rfl) AJ_nil)) m_M_fails E1_U D_M_readsMeta_32 rfl rfl rfl q_1077 q_1078 q_42 q_97 ⟨by decide +kernel, by decide +kernel, by decide +kernel⟩ (by decide) (show 2 + 1 ≤ 5 from by decide) (show ∀ x_ ∈ ([13] : List Nat), x_ ∈ ([13, 71, 76] : List Nat) from by decide))) SJ_sk))
 (SJ_sq (p0 := 35) (p1 := 43) (nN := 0) (nB := 0) (nC := 0) (SJ_if (p0 := 35) (pT := 42) (pF := 43) (nN := 43) (nB := 0) (nC := 0) (CJ_not (p0 := 35) (pT := 42) (pF := 43) (CZ_ne (off := 4) (tgt := 43) (p0 := 35) (p1 := 39) (EJ_callV (t := 13) (c := 12) (r := (RX12, TX12, 52)) (p0 := 35) (p1 := 36) (p2 := 36) (EJ_aload_n (j := 0) (i := 0) (pc := 35) D_M_readsMeta_35 rfl) AJ_nil m_M_isRight E1_I D_M_readsMeta_36 rfl rfl rfl q_1062 q_1063 q_40 q_97 ⟨by decide +kernel, by decide +kernel, by decide +kernel⟩ (by decide) (show 1 + 1 ≤ 5 from by decide) (fun _ h => absurd h List.not_mem_nil)) D_M_readsMeta_39 rfl)) (SJ_retU (pc := 42) D_M_readsMeta_42) SJ_sk)
 (SJ_sq (p0 := 43) (p1 := 55) (nN := 0) (nB := 0) (nC := 0) (SJ_istore_n (i := 3) (j := 3) (p0 := 43) (p1 := 54) (EJ_iadd (p0 := 43) (p1 := 44) (p2 := 53) (EJ_iconst (n := 4) (v := (nI 4)) (pc := 43) D_M_readsMeta_43 (by decide +kernel)) (EJ_imul (p0 := 44) (p1 := 46) (p2 := 52) (EJ_bipush (n := 30) (v := (nI 30)) (pc := 44) D_M_readsMeta_44 (by decide +kernel)) (EJ_iald (p0 := 46) (p1 := 50) (p2 := 51) (EJ_getR (t := 13) (c := 12) (kf := 1) (r := (RX12, TX12, 52)) (p0 := 46) (p1 := 47) (EJ_aload_n (j := 0) (i := 0) (pc := 46) D_M_readsMeta_46 rfl) D_M_readsMeta_47 ⟨rfl, rfl, by decide, q_933⟩ (fun _ _ => rfl)) (EJ_iconst (n := 0) (v := (nI 0)) (pc := 50) D_M_readsMeta_50 (by decide +kernel)) D_M_readsMeta_51) D_M_readsMeta_52) D_M_readsMeta_53) D_M_readsMeta_54 rfl)
 (SJ_sq (p0 := 55) (p1 := 62) (nN := 0) (nB := 0) (nC := 0) (SJ_iast (ws := [71]) (p0 := 55) (p1 := 59) (p2 := 60) (p3 := 61) (EJ_getR (t := 13) (c := 12) (kf := 1) (r := (RX12, TX12, 52)) (p0 := 55) (p1 := 56) (EJ_aload_n (j := 0) (i := 0) (pc := 55) D_M_readsMeta_55 rfl) D_M_readsMeta_56 ⟨rfl, rfl, by decide, q_933⟩ (fun _ _ => rfl)) (EJ_iload_n (j := 3) (i := 3) (pc := 59) D_M_readsMeta_59 rfl) (EJ_iload_n (j := 1) (i := 1) (pc := 60) D_M_readsMeta_60 rfl) D_M_readsMeta_61 (show ∀ x_ ∈ ([71] : List Nat), x_ ∈ ([13, 71, 76] : List Nat) from by decide))
 (SJ_sq (p0 := 62) (p1 := 71) (nN := 0) (nB := 0) (nC := 0) (SJ_iast (ws := [71]) (p0 := 62) (p1 := 66) (p2 := 69) (p3 := 70) (EJ_getR (t := 13) (c := 12) (kf := 1) (r := (RX12, TX12, 52)) (p0 := 62) (p1 := 63) (EJ_aload_n (j := 0) (i := 0) (pc := 62) D_M_readsMeta_62 rfl) D_M_readsMeta_63 ⟨rfl, rfl, by decide, q_933⟩ (fun _ _ => rfl)) (EJ_iadd (p0 := 66) (p1 := 67) (p2 := 68) (EJ_iload_n (j := 3) (i := 3) (pc := 66) D_M_readsMeta_66 rfl) (EJ_iconst (n := 1) (v := (nI 1)) (pc := 67) D_M_readsMeta_67 (by decide +kernel)) D_M_readsMeta_68) (EJ_iconst (n := 0) (v := (nI 0)) (pc := 69) D_M_readsMeta_69 (by decide +kernel)) D_M_readsMeta_70 (show ∀ x_ ∈ ([71] : List Nat), x_ ∈ ([13, 71, 76] : List Nat) from by decide))
 (SJ_sq (p0 := 71) (p1 := 81) (nN := 0) (nB := 0) (nC := 0) (SJ_upA (ws := [71]) (f := (fun x y => x + y)) (p0 := 71) (p1 := 75) (p2 := 76) (p4 := 79) (EJ_getR (t := 13) (c := 12) (kf := 1) (r := (RX12, TX12, 52)) (p0 := 71) (p1 := 72) (EJ_aload_n (j := 0) (i := 0) (pc := 71) D_M_readsMeta_71 rfl) D_M_readsMeta_72 ⟨rfl, rfl, by decide, q_933⟩ (fun _ _ => rfl)) (EJ_iconst (n := 0) (v := (nI 0)) (pc := 75) D_M_readsMeta_75 (by decide +kernel)) D_M_readsMeta_76 D_M_readsMeta_77 (EJ_iconst (n := 1) (v := (nI 1)) (pc := 78) D_M_readsMeta_78 (by decide +kernel)) (Op2_iadd D_M_readsMeta_79) D_M_readsMeta_80 (show ∀ x_ ∈ ([71] : List Nat), x_ ∈ ([13, 71, 76] : List Nat) from by decide))
 (SJ_sq (p0 := 81) (p1 := 84) (nN := 0) (nB := 0) (nC := 0) (SJ_istore (i := 4) (p0 := 81) (p1 := 82) (EJ_iconst (n := 1) (v := (nI 1)) (pc := 81) D_M_readsMeta_81 (by decide +kernel)) D_M_readsMeta_82)
 (SJ_sq (p0 := 84) (p1 := 186) (nN := 0) (nB := 0) (nC := 0) (SJ_loop (p0 := 84) (pB := 89) (pS := 84) (pE := 186) (CZ_ne' (off := 100) (tgt := 186) (p0 := 84) (p1 := 86) (EJ_iload (i := 4) (pc := 84) D_M_readsMeta_84) D_M_readsMeta_86 rfl)
 (SJ_sq (p0 := 89) (p1 := 99) (nN := 84) (nB := 186) (nC := 84) (SJ_upF (z := false) (t := 13) (c := 12) (kf := 8) (r := (RX12, TX12, 52)) (f := (fun x y => x + y)) (p0 := 89) (p1 := 90) (p3 := 95) (EJ_aload_n (j := 0) (i := 0) (pc := 89) D_M_readsMeta_89 rfl) D_M_readsMeta_90 D_M_readsMeta_91 (EJ_iconst (n := 1) (v := (nI 1)) (pc := 94) D_M_readsMeta_94 (by decide +kernel)) (Op2_iadd D_M_readsMeta_95) D_M_readsMeta_96 ⟨rfl, rfl, by decide, q_940⟩ ⟨rfl, rfl, by decide, q_940⟩ (Or.inl rfl) (fun _ _ => ⟨rfl, rfl⟩) (fun _ _ => rfl) (show (13 : Nat) ∈ ([13, 71, 76] : List Nat) from by decide))
 (SJ_sq (p0 := 99) (p1 := 119) (nN := 84) (nB := 186) (nC := 84) (SJ_void (p0 := 99) (p1 := 119) (EJ_callV (t := 13) (c := 12) (r := (RX12, TX12, 52)) (p0 := 99) (p1 := 100) (p2 := 116) (EJ_aload_n (j := 0) (i := 0) (pc := 99) D_M_readsMeta_99 rfl) (AJ_I (p0 := 100) (p1 := 115) (p2 := 116) (EJ_iadd (p0 := 100) (p1 := 103) (p2 := 114) (EJ_iadd (p0 := 100) (p1 := 101) (p2 := 102) (EJ_iload_n (j := 3) (i := 3) (pc := 100) D_M_readsMeta_100 rfl) (EJ_iconst (n := 2) (v := (nI 2)) (pc := 101) D_M_readsMeta_101 (by decide +kernel)) D_M_readsMeta_102) (EJ_imul (p0 := 103) (p1 := 105) (p2 := 113) (EJ_bipush (n := 7) (v := (nI 7)) (pc := 103) D_M_readsMeta_103 (by decide +kernel)) (EJ_iald (p0 := 105) (p1 := 109) (p2 := 112) (EJ_getR (t := 13) (c := 12) (kf := 1) (r := (RX12, TX12, 52)) (p0 := 105) (p1 := 106) (EJ_aload_n (j := 0) (i := 0) (pc := 105) D_M_readsMeta_105 rfl) D_M_readsMeta_106 ⟨rfl, rfl, by decide, q_933⟩ (fun _ _ => rfl)) (EJ_iadd (p0 := 109) (p1 := 110) (p2 := 111) (EJ_iload_n (j := 3) (i := 3) (pc := 109) D_M_readsMeta_109 rfl) (EJ_iconst (n := 1) (v := (nI 1)) (pc := 110) D_M_readsMeta_110 (by decide +kernel)) D_M_readsMeta_111) D_M_readsMeta_112) D_M_readsMeta_113) D_M_readsMeta_114) (AJ_I (p0 := 115) (p1 := 116) (p2 := 116) (EJ_iconst (n := 0) (v := (nI 0)) (pc := 115) D_M_readsMeta_115 (by decide +kernel)) AJ_nil)) m_M_readsSigns E1_U D_M_readsMeta_116 rfl rfl rfl q_1086 q_1087 q_45 q_97 ⟨by decide +kernel, by decide +kernel, by decide +kernel⟩ (by decide) (show 4 + 1 ≤ 5 from by decide) (show ∀ x_ ∈ ([13, 71, 76] : List Nat), x_ ∈ ([13, 71, 76] : List Nat) from by decide)))
 (SJ_sq (p0 := 119) (p1 := 131) (nN := 84) (nB := 186) (nC := 84) (SJ_upA (ws := [71]) (f := (fun x y => x + y)) (p0 := 119) (p1 := 123) (p2 := 126) (p4 := 129) (EJ_getR (t := 13) (c := 12) (kf := 1) (r := (RX12, TX12, 52)) (p0 := 119) (p1 := 120) (EJ_aload_n (j := 0) (i := 0) (pc := 119) D_M_readsMeta_119 rfl) D_M_readsMeta_120 ⟨rfl, rfl, by decide, q_933⟩ (fun _ _ => rfl)) (EJ_iadd (p0 := 123) (p1 := 124) (p2 := 125) (EJ_iload_n (j := 3) (i := 3) (pc := 123) D_M_readsMeta_123 rfl) (EJ_iconst (n := 1) (v := (nI 1)) (pc := 124) D_M_readsMeta_124 (by decide +kernel)) D_M_readsMeta_125) D_M_readsMeta_126 D_M_readsMeta_127 (EJ_iconst (n := 1) (v := (nI 1)) (pc := 128) D_M_readsMeta_128 (by decide +kernel)) (Op2_iadd D_M_readsMeta_129) D_M_readsMeta_130 (show ∀ x_ ∈ ([71] : List Nat), x_ ∈ ([13, 71, 76] : List Nat) from by decide))
 (SJ_sq (p0 := 131) (p1 := 154) (nN := 84) (nB := 186) (nC := 84) (SJ_istore (i := 4) (p0 := 131) (p1 := 152) (EJ_if (p0 := 131) (pT := 147) (pF := 151) (pE := 148) (p1 := 152) (CJ_and (p0 := 131) (pM := 138) (pT := 147) (pF := 151) (CZ_ne' (off := 16) (tgt := 151) (p0 := 131) (p1 := 135) (EJ_callV (t := 13) (c := 12) (r := (RX12, TX12, 52)) (p0 := 131) (p1 := 132) (p2 := 132) (EJ_aload_n (j := 0) (i := 0) (pc := 131) D_M_readsMeta_131 rfl) AJ_nil m_M_isRight E1_I D_M_readsMeta_132 rfl rfl rfl q_1062 q_1063 q_40 q_97 ⟨by decide +kernel, by decide +kernel, by decide +kernel⟩ (by decide) (show 1 + 1 ≤ 5 from by decide) (fun _ h => absurd h List.not_mem_nil)) D_M_readsMeta_135 rfl) (CJ_eq' (off := 7) (tgt := 151) (p0 := 138) (p1 := 142) (p2 := 144) (EJ_callV (t := 13) (c := 12) (r := (RX12, TX12, 52)) (p0 := 138) (p1 := 139) (p2 := 139) (EJ_aload_n (j := 0) (i := 0) (pc := 138) D_M_readsMeta_138 rfl) AJ_nil m_M_next E1_I D_M_readsMeta_139 rfl rfl rfl q_1053 q_1054 q_37 q_97 ⟨by decide +kernel, by decide +kernel, by decide +kernel⟩ (by decide) (show 2 + 1 ≤ 5 from by decide) (show ∀ x_ ∈ ([13] : List Nat), x_ ∈ ([13, 71, 76] : List Nat) from by decide)) (EJ_bipush (n := 124) (v := (nI 124)) (pc := 142) D_M_readsMeta_142 (by decide +kernel)) D_M_readsMeta_144 rfl)) (EJ_iconst (n := 1) (v := (nI 1)) (pc := 147) D_M_readsMeta_147 (by decide +kernel)) (Lead.goto (K := K_M_readsMeta) (pc := 148) (tgt := 152) D_M_readsMeta_148 rfl) (EJ_iconst (n := 0) (v := (nI 0)) (pc := 151) D_M_readsMeta_151 (by decide +kernel))) D_M_readsMeta_152)
 (SJ_if (p0 := 154) (pT := 171) (pF := 84) (nN := 84) (nB := 186) (nC := 84) (CJ_and (p0 := 154) (pM := 159) (pT := 171) (pF := 84) (CZ_ne' (off := -72) (tgt := 84) (p0 := 154) (p1 := 156) (EJ_iload (i := 4) (pc := 154) D_M_readsMeta_154) D_M_readsMeta_156 rfl) (CJ_eq' (off := -84) (tgt := 84) (p0 := 159) (p1 := 167) (p2 := 168) (EJ_iald (p0 := 159) (p1 := 163) (p2 := 166) (EJ_getR (t := 13) (c := 12) (kf := 1) (r := (RX12, TX12, 52)) (p0 := 159) (p1 := 160) (EJ_aload_n (j := 0) (i := 0) (pc := 159) D_M_readsMeta_159 rfl) D_M_readsMeta_160 ⟨rfl, rfl, by decide, q_933⟩ (fun _ _ => rfl)) (EJ_iadd (p0 := 163) (p1 := 164) (p2 := 165) (EJ_iload_n (j := 3) (i := 3) (pc := 163) D_M_readsMeta_163 rfl) (EJ_iconst (n := 1) (v := (nI 1)) (pc := 164) D_M_readsMeta_164 (by decide +kernel)) D_M_readsMeta_165) D_M_readsMeta_166) (EJ_iconst (n := 4) (v := (nI 4)) (pc := 167) D_M_readsMeta_167 (by decide +kernel)) D_M_readsMeta_168 rfl)) (SJ_sq (p0 := 171) (p1 := 180) (nN := 84) (nB := 186) (nC := 84) (SJ_void (p0 := 171) (p1 := 180) (EJ_callV (t := 13) (c := 12) (r := (RX12, TX12, 52)) (p0 := 171) (p1 := 172) (p2 := 177) (EJ_aload_n (j := 0) (i := 0) (pc := 171) D_M_readsMeta_171 rfl) (AJ_I (p0 := 172) (p1 := 173) (p2 := 177) (EJ_iconst (n := 3) (v := (nI 3)) (pc := 172) D_M_readsMeta_172 (by decide +kernel)) (AJ_I (p0 := 173) (p1 := 177) (p2 := 177) (EJ_getI (t := 13) (c := 12) (kf := 8) (r := (RX12, TX12, 52)) (p0 := 173) (p1 := 174) (EJ_aload_n (j := 0) (i := 0) (pc := 173) D_M_readsMeta_173 rfl) D_M_readsMeta_174 ⟨rfl, rfl, by decide, q_940⟩ (fun _ _ => rfl)) AJ_nil)) m_M_fails E1_U D_M_readsMeta_177 rfl rfl rfl q_1077 q_1078 q_42 q_97 ⟨by decide +kernel, by decide +kernel, by decide +kernel⟩ (by decide) (show 2 + 1 ≤ 5 from by decide) (show ∀ x_ ∈ ([13] : List Nat), x_ ∈ ([13, 71, 76] : List Nat) from by decide)))
 (SJ_post (SJ_istore (i := 4) (p0 := 180) (p1 := 181) (EJ_iconst (n := 0) (v := (nI 0)) (pc := 180) D_M_readsMeta_180 (by decide +kernel)) D_M_readsMeta_181) (Lead.goto (K := K_M_readsMeta) (pc := 183) (tgt := 84) D_M_readsMeta_183 rfl))) SJ_sk)))))
 SJ_sk)
 (SJ_retU (pc := 186) D_M_readsMeta_186)))))))))
 RTm_void q_1082 (by decide +kernel) rfl (fun h => by cases h) (show 5 ≤ 40 from by decide) (fun _ => trivial)
theorem D_M_readsMember_0 : decode cX12_readsMember 0 = .ok (.aload_n 0, 1) := by decide +kernel
theorem D_M_readsMember_1 : decode cX12_readsMember 1 = .ok (.getfield 13, 3) := by decide +kernel
theorem D_M_readsMember_4 : decode cX12_readsMember 4 = .ok (.iload_n 1, 1) := by decide +kernel
theorem D_M_readsMember_5 : decode cX12_readsMember 5 = .ok (.aload_n 0, 1) := by decide +kernel
theorem D_M_readsMember_6 : decode cX12_readsMember 6 = .ok (.invokevirtual 134, 3) := by decide +kernel
theorem D_M_readsMember_9 : decode cX12_readsMember 9 = .ok (.bipush (34), 2) := by decide +kernel
theorem D_M_readsMember_11 : decode cX12_readsMember 11 = .ok (.if_icmp .ne (7), 3) := by decide +kernel
theorem D_M_readsMember_14 : decode cX12_readsMember 14 = .ok (.iconst (1), 1) := by decide +kernel
theorem D_M_readsMember_15 : decode cX12_readsMember 15 = .ok (.goto (4), 3) := by decide +kernel
theorem D_M_readsMember_18 : decode cX12_readsMember 18 = .ok (.iconst (0), 1) := by decide +kernel
theorem D_M_readsMember_19 : decode cX12_readsMember 19 = .ok (.invokestatic 172, 3) := by decide +kernel
theorem D_M_readsMember_22 : decode cX12_readsMember 22 = .ok (.iastore, 1) := by decide +kernel
theorem D_M_readsMember_23 : decode cX12_readsMember 23 = .ok (.aload_n 0, 1) := by decide +kernel
theorem D_M_readsMember_24 : decode cX12_readsMember 24 = .ok (.dup, 1) := by decide +kernel
theorem D_M_readsMember_25 : decode cX12_readsMember 25 = .ok (.getfield 120, 3) := by decide +kernel
theorem D_M_readsMember_28 : decode cX12_readsMember 28 = .ok (.aload_n 0, 1) := by decide +kernel
theorem D_M_readsMember_29 : decode cX12_readsMember 29 = .ok (.getfield 13, 3) := by decide +kernel
theorem D_M_readsMember_32 : decode cX12_readsMember 32 = .ok (.iload_n 1, 1) := by decide +kernel
theorem D_M_readsMember_33 : decode cX12_readsMember 33 = .ok (.iaload, 1) := by decide +kernel
theorem D_M_readsMember_34 : decode cX12_readsMember 34 = .ok (.iadd, 1) := by decide +kernel
theorem D_M_readsMember_35 : decode cX12_readsMember 35 = .ok (.putfield 120, 3) := by decide +kernel
theorem D_M_readsMember_38 : decode cX12_readsMember 38 = .ok (.aload_n 0, 1) := by decide +kernel
theorem D_M_readsMember_39 : decode cX12_readsMember 39 = .ok (.iload_n 1, 1) := by decide +kernel
theorem D_M_readsMember_40 : decode cX12_readsMember 40 = .ok (.iconst (1), 1) := by decide +kernel
theorem D_M_readsMember_41 : decode cX12_readsMember 41 = .ok (.iadd, 1) := by decide +kernel
theorem D_M_readsMember_42 : decode cX12_readsMember 42 = .ok (.iconst (1), 1) := by decide +kernel
theorem D_M_readsMember_43 : decode cX12_readsMember 43 = .ok (.invokevirtual 168, 3) := by decide +kernel
theorem D_M_readsMember_46 : decode cX12_readsMember 46 = .ok (.aload_n 0, 1) := by decide +kernel
theorem D_M_readsMember_47 : decode cX12_readsMember 47 = .ok (.getfield 13, 3) := by decide +kernel
theorem D_M_readsMember_50 : decode cX12_readsMember 50 = .ok (.iload_n 1, 1) := by decide +kernel
theorem D_M_readsMember_51 : decode cX12_readsMember 51 = .ok (.iconst (1), 1) := by decide +kernel
theorem D_M_readsMember_52 : decode cX12_readsMember 52 = .ok (.iadd, 1) := by decide +kernel
theorem D_M_readsMember_53 : decode cX12_readsMember 53 = .ok (.iaload, 1) := by decide +kernel
theorem D_M_readsMember_54 : decode cX12_readsMember 54 = .ok (.ifCond .ne (12), 3) := by decide +kernel
theorem D_M_readsMember_57 : decode cX12_readsMember 57 = .ok (.aload_n 0, 1) := by decide +kernel
theorem D_M_readsMember_58 : decode cX12_readsMember 58 = .ok (.iconst (1), 1) := by decide +kernel
theorem D_M_readsMember_59 : decode cX12_readsMember 59 = .ok (.aload_n 0, 1) := by decide +kernel
theorem D_M_readsMember_60 : decode cX12_readsMember 60 = .ok (.getfield 120, 3) := by decide +kernel
theorem D_M_readsMember_63 : decode cX12_readsMember 63 = .ok (.invokevirtual 154, 3) := by decide +kernel
theorem D_M_readsMember_66 : decode cX12_readsMember 66 = .ok (.return_, 1) := by decide +kernel
def K_M_readsMember : SC := (cX12_readsMember, "TwoLevelsModel", 2, 5, false, [13, 71, 76], NoQ)
def d_M_readsMember : MD Unit := mth tt 2 (sq (sh3 (stI [71]) (eh1 (gR 13 1) (lR 0)) (lI 1) (kS d_M_truth [vI (eIf (eh2 c_eq (kV 13 d_M_next (lR 0) []) (eC (nI 34))) (eC (nI 1)) (eC (nI 0)))]))
 (sq (su2 (gI 13 8) (uF false 13 8 (fun x y => x + y)) (lR 0) (eh2 (aI .int) (eh1 (gR 13 1) (lR 0)) (lI 1)))
 (sq (sE (kV 13 d_M_readsSigns (lR 0) [vI (eh2 iaddF (lI 1) (eC (nI 1))), vI (eC (nI 1))]))
 (sq (sIf (eh1 z_eq (eh2 (aI .int) (eh1 (gR 13 1) (lR 0)) (eh2 iaddF (lI 1) (eC (nI 1))))) (sE (kV 13 d_M_fails (lR 0) [vI (eC (nI 1)), vI (eh1 (gI 13 8) (lR 0))])) sk)
 rtnU))))
theorem m_M_readsMember : MJ 5 [13, 71, 76] yX12_readsMember none eU (d_M_readsMember) := MJ_of (K := K_M_readsMember) (ri := .return_) (n1 := 0) (n2 := 0) (n3 := 0)
 (SJ_sq (p0 := 0) (p1 := 23) (nN := 0) (nB := 0) (nC := 0) (SJ_iast (ws := [71]) (p0 := 0) (p1 := 4) (p2 := 5) (p3 := 22) (EJ_getR (t := 13) (c := 12) (kf := 1) (r := (RX12, TX12, 52)) (p0 := 0) (p1 := 1) (EJ_aload_n (j := 0) (i := 0) (pc := 0) D_M_readsMember_0 rfl) D_M_readsMember_1 ⟨rfl, rfl, by decide, q_933⟩ (fun _ _ => rfl)) (EJ_iload_n (j := 1) (i := 1) (pc := 4) D_M_readsMember_4 rfl) (EJ_callS (p0 := 5) (p1 := 19) (AJ_I (p0 := 5) (p1 := 19) (p2 := 19) (EJ_if (p0 := 5) (pT := 14) (pF := 18) (pE := 15) (p1 := 19) (CJ_eq' (off := 7) (tgt := 18) (p0 := 5) (p1 := 9) (p2 := 11) (EJ_callV (t := 13) (c := 12) (r := (RX12, TX12, 52)) (p0 := 5) (p1 := 6) (p2 := 6) (EJ_aload_n (j := 0) (i := 0) (pc := 5) D_M_readsMember_5 rfl) AJ_nil m_M_next E1_I D_M_readsMember_6 rfl rfl rfl q_1053 q_1054 q_37 q_97 ⟨by decide +kernel, by decide +kernel, by decide +kernel⟩ (by decide) (show 2 + 1 ≤ 5 from by decide) (show ∀ x_ ∈ ([13] : List Nat), x_ ∈ ([13, 71, 76] : List Nat) from by decide)) (EJ_bipush (n := 34) (v := (nI 34)) (pc := 9) D_M_readsMember_9 (by decide +kernel)) D_M_readsMember_11 rfl) (EJ_iconst (n := 1) (v := (nI 1)) (pc := 14) D_M_readsMember_14 (by decide +kernel)) (Lead.goto (K := K_M_readsMember) (pc := 15) (tgt := 19) D_M_readsMember_15 rfl) (EJ_iconst (n := 0) (v := (nI 0)) (pc := 18) D_M_readsMember_18 (by decide +kernel))) AJ_nil) m_M_truth E1_I D_M_readsMember_19 q_1107 q_1108 q_97 ⟨by decide +kernel, by decide +kernel, by decide +kernel⟩ (by decide) (show 1 + 1 ≤ 5 from by decide) (fun _ h => absurd h List.not_mem_nil)) D_M_readsMember_22 (show ∀ x_ ∈ ([71] : List Nat), x_ ∈ ([13, 71, 76] : List Nat) from by decide))
 (SJ_sq (p0 := 23) (p1 := 38) (nN := 0) (nB := 0) (nC := 0) (SJ_upF (z := false) (t := 13) (c := 12) (kf := 8) (r := (RX12, TX12, 52)) (f := (fun x y => x + y)) (p0 := 23) (p1 := 24) (p3 := 34) (EJ_aload_n (j := 0) (i := 0) (pc := 23) D_M_readsMember_23 rfl) D_M_readsMember_24 D_M_readsMember_25 (EJ_iald (p0 := 28) (p1 := 32) (p2 := 33) (EJ_getR (t := 13) (c := 12) (kf := 1) (r := (RX12, TX12, 52)) (p0 := 28) (p1 := 29) (EJ_aload_n (j := 0) (i := 0) (pc := 28) D_M_readsMember_28 rfl) D_M_readsMember_29 ⟨rfl, rfl, by decide, q_933⟩ (fun _ _ => rfl)) (EJ_iload_n (j := 1) (i := 1) (pc := 32) D_M_readsMember_32 rfl) D_M_readsMember_33) (Op2_iadd D_M_readsMember_34) D_M_readsMember_35 ⟨rfl, rfl, by decide, q_940⟩ ⟨rfl, rfl, by decide, q_940⟩ (Or.inl rfl) (fun _ _ => ⟨rfl, rfl⟩) (fun _ _ => rfl) (show (13 : Nat) ∈ ([13, 71, 76] : List Nat) from by decide))
 (SJ_sq (p0 := 38) (p1 := 46) (nN := 0) (nB := 0) (nC := 0) (SJ_void (p0 := 38) (p1 := 46) (EJ_callV (t := 13) (c := 12) (r := (RX12, TX12, 52)) (p0 := 38) (p1 := 39) (p2 := 43) (EJ_aload_n (j := 0) (i := 0) (pc := 38) D_M_readsMember_38 rfl) (AJ_I (p0 := 39) (p1 := 42) (p2 := 43) (EJ_iadd (p0 := 39) (p1 := 40) (p2 := 41) (EJ_iload_n (j := 1) (i := 1) (pc := 39) D_M_readsMember_39 rfl) (EJ_iconst (n := 1) (v := (nI 1)) (pc := 40) D_M_readsMember_40 (by decide +kernel)) D_M_readsMember_41) (AJ_I (p0 := 42) (p1 := 43) (p2 := 43) (EJ_iconst (n := 1) (v := (nI 1)) (pc := 42) D_M_readsMember_42 (by decide +kernel)) AJ_nil)) m_M_readsSigns E1_U D_M_readsMember_43 rfl rfl rfl q_1086 q_1087 q_45 q_97 ⟨by decide +kernel, by decide +kernel, by decide +kernel⟩ (by decide) (show 4 + 1 ≤ 5 from by decide) (show ∀ x_ ∈ ([13, 71, 76] : List Nat), x_ ∈ ([13, 71, 76] : List Nat) from by decide)))
 (SJ_sq (p0 := 46) (p1 := 66) (nN := 0) (nB := 0) (nC := 0) (SJ_if (p0 := 46) (pT := 57) (pF := 66) (nN := 66) (nB := 0) (nC := 0) (CZ_eq' (off := 12) (tgt := 66) (p0 := 46) (p1 := 54) (EJ_iald (p0 := 46) (p1 := 50) (p2 := 53) (EJ_getR (t := 13) (c := 12) (kf := 1) (r := (RX12, TX12, 52)) (p0 := 46) (p1 := 47) (EJ_aload_n (j := 0) (i := 0) (pc := 46) D_M_readsMember_46 rfl) D_M_readsMember_47 ⟨rfl, rfl, by decide, q_933⟩ (fun _ _ => rfl)) (EJ_iadd (p0 := 50) (p1 := 51) (p2 := 52) (EJ_iload_n (j := 1) (i := 1) (pc := 50) D_M_readsMember_50 rfl) (EJ_iconst (n := 1) (v := (nI 1)) (pc := 51) D_M_readsMember_51 (by decide +kernel)) D_M_readsMember_52) D_M_readsMember_53) D_M_readsMember_54 rfl) (SJ_void (p0 := 57) (p1 := 66) (EJ_callV (t := 13) (c := 12) (r := (RX12, TX12, 52)) (p0 := 57) (p1 := 58) (p2 := 63) (EJ_aload_n (j := 0) (i := 0) (pc := 57) D_M_readsMember_57 rfl) (AJ_I (p0 := 58) (p1 := 59) (p2 := 63) (EJ_iconst (n := 1) (v := (nI 1)) (pc := 58) D_M_readsMember_58 (by decide +kernel)) (AJ_I (p0 := 59) (p1 := 63) (p2 := 63) (EJ_getI (t := 13) (c := 12) (kf := 8) (r := (RX12, TX12, 52)) (p0 := 59) (p1 := 60) (EJ_aload_n (j := 0) (i := 0) (pc := 59) D_M_readsMember_59 rfl) D_M_readsMember_60 ⟨rfl, rfl, by decide, q_940⟩ (fun _ _ => rfl)) AJ_nil)) m_M_fails E1_U D_M_readsMember_63 rfl rfl rfl q_1077 q_1078 q_42 q_97 ⟨by decide +kernel, by decide +kernel, by decide +kernel⟩ (by decide) (show 2 + 1 ≤ 5 from by decide) (show ∀ x_ ∈ ([13] : List Nat), x_ ∈ ([13, 71, 76] : List Nat) from by decide))) SJ_sk)
 (SJ_retU (pc := 66) D_M_readsMember_66)))))
 RTm_void q_1106 (by decide +kernel) rfl (fun h => by cases h) (show 2 ≤ 40 from by decide) (fun _ => trivial)
