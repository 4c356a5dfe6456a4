/-! the program: part 6 -/
theorem D_TL_free_0 : decode cX11_free 0 = .ok (.aload_n 0, 1) := by decide +kernel
theorem D_TL_free_1 : decode cX11_free 1 = .ok (.invokevirtual 271, 3) := by decide +kernel
theorem D_TL_free_4 : decode cX11_free 4 = .ok (.iconst (1), 1) := by decide +kernel
theorem D_TL_free_5 : decode cX11_free 5 = .ok (.if_icmp .ne (14), 3) := by decide +kernel
theorem D_TL_free_8 : decode cX11_free 8 = .ok (.aload_n 0, 1) := by decide +kernel
theorem D_TL_free_9 : decode cX11_free 9 = .ok (.getfield 79, 3) := by decide +kernel
theorem D_TL_free_12 : decode cX11_free 12 = .ok (.iload_n 1, 1) := by decide +kernel
theorem D_TL_free_13 : decode cX11_free 13 = .ok (.invokevirtual 290, 3) := by decide +kernel
theorem D_TL_free_16 : decode cX11_free 16 = .ok (.goto (4), 3) := by decide +kernel
theorem D_TL_free_19 : decode cX11_free 19 = .ok (.aconst_null, 1) := by decide +kernel
theorem D_TL_free_20 : decode cX11_free 20 = .ok (.astore 4, 2) := by decide +kernel
theorem D_TL_free_22 : decode cX11_free 22 = .ok (.aload 4, 2) := by decide +kernel
theorem D_TL_free_24 : decode cX11_free 24 = .ok (.ifnull (11), 3) := by decide +kernel
theorem D_TL_free_27 : decode cX11_free 27 = .ok (.aload 4, 2) := by decide +kernel
theorem D_TL_free_29 : decode cX11_free 29 = .ok (.getfield 318, 3) := by decide +kernel
theorem D_TL_free_32 : decode cX11_free 32 = .ok (.ifnonnull (5), 3) := by decide +kernel
theorem D_TL_free_35 : decode cX11_free 35 = .ok (.iconst (-1), 1) := by decide +kernel
theorem D_TL_free_36 : decode cX11_free 36 = .ok (.ireturn, 1) := by decide +kernel
theorem D_TL_free_37 : decode cX11_free 37 = .ok (.aload 4, 2) := by decide +kernel
theorem D_TL_free_39 : decode cX11_free 39 = .ok (.getfield 318, 3) := by decide +kernel
theorem D_TL_free_42 : decode cX11_free 42 = .ok (.aload_n 0, 1) := by decide +kernel
theorem D_TL_free_43 : decode cX11_free 43 = .ok (.getfield 30, 3) := by decide +kernel
theorem D_TL_free_46 : decode cX11_free 46 = .ok (.getfield 53, 3) := by decide +kernel
theorem D_TL_free_49 : decode cX11_free 49 = .ok (.iload_n 2, 1) := by decide +kernel
theorem D_TL_free_50 : decode cX11_free 50 = .ok (.invokevirtual 182, 3) := by decide +kernel
theorem D_TL_free_53 : decode cX11_free 53 = .ok (.invokevirtual 322, 3) := by decide +kernel
theorem D_TL_free_56 : decode cX11_free 56 = .ok (.istore 5, 2) := by decide +kernel
theorem D_TL_free_58 : decode cX11_free 58 = .ok (.iload 5, 2) := by decide +kernel
theorem D_TL_free_60 : decode cX11_free 60 = .ok (.iconst (-1), 1) := by decide +kernel
theorem D_TL_free_61 : decode cX11_free 61 = .ok (.if_icmp .ne (7), 3) := by decide +kernel
theorem D_TL_free_64 : decode cX11_free 64 = .ok (.iconst (-1), 1) := by decide +kernel
theorem D_TL_free_65 : decode cX11_free 65 = .ok (.goto (16), 3) := by decide +kernel
theorem D_TL_free_68 : decode cX11_free 68 = .ok (.aload 4, 2) := by decide +kernel
theorem D_TL_free_70 : decode cX11_free 70 = .ok (.getfield 325, 3) := by decide +kernel
theorem D_TL_free_73 : decode cX11_free 73 = .ok (.iload 5, 2) := by decide +kernel
theorem D_TL_free_75 : decode cX11_free 75 = .ok (.laload, 1) := by decide +kernel
theorem D_TL_free_76 : decode cX11_free 76 = .ok (.iload_n 3, 1) := by decide +kernel
theorem D_TL_free_77 : decode cX11_free 77 = .ok (.iconst (-1), 1) := by decide +kernel
theorem D_TL_free_78 : decode cX11_free 78 = .ok (.invokestatic 202, 3) := by decide +kernel
theorem D_TL_free_81 : decode cX11_free 81 = .ok (.ireturn, 1) := by decide +kernel
def K_TL_free : SC := (cX11_free, "TwoLevels", 6, 207, false, [3, 4, 8, 12, 43, 44, 45, 46, 47, 48, 49, 51], NoQ)
def d_TL_free : MD Int32 := mth tt 6 (sq (sR1 4 (eIf (eh2 c_eq (kV 12 d_TL_derives (lR 0) []) (eC (nI 1))) (kV 8 d_Search_nodeOrNull (eh1 (gR 12 11) (lR 0)) [vI (lI 1)]) (eC none)))
 (sq (sIf (cOr (eh1 n_nul (lR 4)) (eh1 n_nul (eh1 (gR 4 9) (lR 4)))) (rtn (eC (-1))) sk)
 (sq (sI1 5 (kV 1 d_Choice_freeAt (eh1 (gR 4 9) (lR 4)) [vI (kV 11 d_Upper_slotOf (eh1 (gR 10 0) (eh1 (gR 12 3) (lR 0))) [vI (lI 2)])]))
 (rtn (eIf (eh2 c_eq (lI 5) (eC (-1))) (eC (-1)) (kS d_TL_letterOrSize [vJ (eh2 aJ (eh1 (gR 4 10) (lR 4)) (lI 5)), vI (lI 3), vI (eC (-1))]))))))
theorem m_TL_free : MJ 207 [3, 4, 8, 12, 43, 44, 45, 46, 47, 48, 49, 51] yX11_free (some .int) eI (d_TL_free) := MJ_of (K := K_TL_free) (ri := .ireturn) (n1 := 0) (n2 := 0) (n3 := 0)
 (SJ_sq (p0 := 0) (p1 := 22) (nN := 0) (nB := 0) (nC := 0) (SJ_astore (i := 4) (p0 := 0) (p1 := 20) (EJ_if (p0 := 0) (pT := 8) (pF := 19) (pE := 16) (p1 := 20) (CJ_eq' (off := 14) (tgt := 19) (p0 := 0) (p1 := 4) (p2 := 5) (EJ_callV (t := 12) (c := 11) (r := (RX11, TX11, 16)) (p0 := 0) (p1 := 1) (p2 := 1) (EJ_aload_n (j := 0) (i := 0) (pc := 0) D_TL_free_0 rfl) AJ_nil m_TL_derives E1_I D_TL_free_1 rfl rfl rfl q_872 q_865 q_866 q_91 ⟨by decide +kernel, by decide +kernel, by decide +kernel⟩ (by decide) (show 206 + 1 ≤ 207 from by decide) (show ∀ x_ ∈ ([3, 4, 8, 12, 43, 44, 45, 46, 47, 48, 49, 51] : List Nat), x_ ∈ ([3, 4, 8, 12, 43, 44, 45, 46, 47, 48, 49, 51] : List Nat) from by decide)) (EJ_iconst (n := 1) (v := (nI 1)) (pc := 4) D_TL_free_4 (by decide +kernel)) D_TL_free_5 rfl) (EJ_callV (t := 8) (c := 7) (r := (RX7, TX7, 11)) (p0 := 8) (p1 := 12) (p2 := 13) (EJ_getR (t := 12) (c := 11) (kf := 11) (r := (RX11, TX11, 16)) (p0 := 8) (p1 := 9) (EJ_aload_n (j := 0) (i := 0) (pc := 8) D_TL_free_8 rfl) D_TL_free_9 ⟨rfl, rfl, by decide, q_266⟩ (fun _ _ => rfl)) (AJ_I (p0 := 12) (p1 := 13) (p2 := 13) (EJ_iload_n (j := 1) (i := 1) (pc := 12) D_TL_free_12 rfl) AJ_nil) m_Search_nodeOrNull E1_R D_TL_free_13 rfl rfl rfl q_884 q_885 q_886 q_96 ⟨by decide +kernel, by decide +kernel, by decide +kernel⟩ (by decide) (show 1 + 1 ≤ 207 from by decide) (fun _ h => absurd h List.not_mem_nil)) (Lead.goto (K := K_TL_free) (pc := 16) (tgt := 20) D_TL_free_16 rfl) (EJ_null (pc := 19) D_TL_free_19)) D_TL_free_20)
 (SJ_sq (p0 := 22) (p1 := 37) (nN := 0) (nB := 0) (nC := 0) (SJ_if (p0 := 22) (pT := 35) (pF := 37) (nN := 37) (nB := 0) (nC := 0) (CJ_or (p0 := 22) (pM := 27) (pT := 35) (pF := 37) (CN_nul (off := 11) (tgt := 35) (p0 := 22) (p1 := 24) (EJ_aload (i := 4) (pc := 22) D_TL_free_22) D_TL_free_24 rfl) (CN_nul' (off := 5) (tgt := 37) (p0 := 27) (p1 := 32) (EJ_getR (t := 4) (c := 3) (kf := 9) (r := (RX3, TX3, 11)) (p0 := 27) (p1 := 29) (EJ_aload (i := 4) (pc := 27) D_TL_free_27) D_TL_free_29 ⟨rfl, rfl, by decide, q_814⟩ (fun _ _ => rfl)) D_TL_free_32 rfl)) (SJ_ret (p0 := 35) (p1 := 36) (EJ_iconst (n := -1) (v := (-1)) (pc := 35) D_TL_free_35 (by decide +kernel)) D_TL_free_36) SJ_sk)
 (SJ_sq (p0 := 37) (p1 := 58) (nN := 0) (nB := 0) (nC := 0) (SJ_istore (i := 5) (p0 := 37) (p1 := 56) (EJ_callV (t := 1) (c := 0) (r := (RX0, TX0, 11)) (p0 := 37) (p1 := 42) (p2 := 53) (EJ_getR (t := 4) (c := 3) (kf := 9) (r := (RX3, TX3, 11)) (p0 := 37) (p1 := 39) (EJ_aload (i := 4) (pc := 37) D_TL_free_37) D_TL_free_39 ⟨rfl, rfl, by decide, q_814⟩ (fun _ _ => rfl)) (AJ_I (p0 := 42) (p1 := 53) (p2 := 53) (EJ_callV (t := 11) (c := 10) (r := (RX10, TX10, 7)) (p0 := 42) (p1 := 49) (p2 := 50) (EJ_getR (t := 10) (c := 9) (kf := 0) (r := (RX9, TX9, 4)) (p0 := 42) (p1 := 46) (EJ_getR (t := 12) (c := 11) (kf := 3) (r := (RX11, TX11, 16)) (p0 := 42) (p1 := 43) (EJ_aload_n (j := 0) (i := 0) (pc := 42) D_TL_free_42 rfl) D_TL_free_43 ⟨rfl, rfl, by decide, q_258⟩ (fun _ _ => rfl)) D_TL_free_46 ⟨rfl, rfl, by decide, q_174⟩ (fun _ _ => rfl)) (AJ_I (p0 := 49) (p1 := 50) (p2 := 50) (EJ_iload_n (j := 2) (i := 2) (pc := 49) D_TL_free_49 rfl) AJ_nil) m_Upper_slotOf E1_I D_TL_free_50 rfl rfl rfl q_624 q_625 q_626 q_93 ⟨by decide +kernel, by decide +kernel, by decide +kernel⟩ (by decide) (show 1 + 1 ≤ 207 from by decide) (fun _ h => absurd h List.not_mem_nil)) AJ_nil) m_Choice_freeAt E1_I D_TL_free_53 rfl rfl rfl q_896 q_897 q_898 q_103 ⟨by decide +kernel, by decide +kernel, by decide +kernel⟩ (by decide) (show 1 + 1 ≤ 207 from by decide) (fun _ h => absurd h List.not_mem_nil)) D_TL_free_56)
 (SJ_ret (p0 := 58) (p1 := 81) (EJ_if (p0 := 58) (pT := 64) (pF := 68) (pE := 65) (p1 := 81) (CJ_eq' (off := 7) (tgt := 68) (p0 := 58) (p1 := 60) (p2 := 61) (EJ_iload (i := 5) (pc := 58) D_TL_free_58) (EJ_iconst (n := -1) (v := (-1)) (pc := 60) D_TL_free_60 (by decide +kernel)) D_TL_free_61 rfl) (EJ_iconst (n := -1) (v := (-1)) (pc := 64) D_TL_free_64 (by decide +kernel)) (Lead.goto (K := K_TL_free) (pc := 65) (tgt := 81) D_TL_free_65 rfl) (EJ_callS (p0 := 68) (p1 := 78) (AJ_J (p0 := 68) (p1 := 76) (p2 := 78) (EJ_lald (p0 := 68) (p1 := 73) (p2 := 75) (EJ_getR (t := 4) (c := 3) (kf := 10) (r := (RX3, TX3, 11)) (p0 := 68) (p1 := 70) (EJ_aload (i := 4) (pc := 68) D_TL_free_68) D_TL_free_70 ⟨rfl, rfl, by decide, q_817⟩ (fun _ _ => rfl)) (EJ_iload (i := 5) (pc := 73) D_TL_free_73) D_TL_free_75) (AJ_I (p0 := 76) (p1 := 77) (p2 := 78) (EJ_iload_n (j := 3) (i := 3) (pc := 76) D_TL_free_76 rfl) (AJ_I (p0 := 77) (p1 := 78) (p2 := 78) (EJ_iconst (n := -1) (v := (-1)) (pc := 77) D_TL_free_77 (by decide +kernel)) AJ_nil))) m_TL_letterOrSize E1_I D_TL_free_78 q_657 q_658 q_91 ⟨by decide +kernel, by decide +kernel, by decide +kernel⟩ (by decide) (show 4 + 1 ≤ 207 from by decide) (fun _ h => absurd h List.not_mem_nil))) D_TL_free_81))))
 RTm_int q_895 (by decide +kernel) rfl (fun h => by cases h) (show 6 ≤ 40 from by decide) (fun _ => trivial)
theorem D_Upper_byteOf_0 : decode cX10_byteOf 0 = .ok (.iload_n 1, 1) := by decide +kernel
theorem D_Upper_byteOf_1 : decode cX10_byteOf 1 = .ok (.bipush (32), 2) := by decide +kernel
theorem D_Upper_byteOf_3 : decode cX10_byteOf 3 = .ok (.if_icmp .ge (12), 3) := by decide +kernel
theorem D_Upper_byteOf_6 : decode cX10_byteOf 6 = .ok (.iload_n 1, 1) := by decide +kernel
theorem D_Upper_byteOf_7 : decode cX10_byteOf 7 = .ok (.bipush (97), 2) := by decide +kernel
theorem D_Upper_byteOf_9 : decode cX10_byteOf 9 = .ok (.iadd, 1) := by decide +kernel
theorem D_Upper_byteOf_10 : decode cX10_byteOf 10 = .ok (.iconst (1), 1) := by decide +kernel
theorem D_Upper_byteOf_11 : decode cX10_byteOf 11 = .ok (.isub, 1) := by decide +kernel
theorem D_Upper_byteOf_12 : decode cX10_byteOf 12 = .ok (.goto (12), 3) := by decide +kernel
theorem D_Upper_byteOf_15 : decode cX10_byteOf 15 = .ok (.aload_n 0, 1) := by decide +kernel
theorem D_Upper_byteOf_16 : decode cX10_byteOf 16 = .ok (.getfield 15, 3) := by decide +kernel
theorem D_Upper_byteOf_19 : decode cX10_byteOf 19 = .ok (.iload_n 1, 1) := by decide +kernel
theorem D_Upper_byteOf_20 : decode cX10_byteOf 20 = .ok (.bipush (32), 2) := by decide +kernel
theorem D_Upper_byteOf_22 : decode cX10_byteOf 22 = .ok (.isub, 1) := by decide +kernel
theorem D_Upper_byteOf_23 : decode cX10_byteOf 23 = .ok (.iaload, 1) := by decide +kernel
theorem D_Upper_byteOf_24 : decode cX10_byteOf 24 = .ok (.ireturn, 1) := by decide +kernel
def K_Upper_byteOf : SC := (cX10_byteOf, "TwoLevels$Upper", 2, 1, false, [], NoQ)
def d_Upper_byteOf : MD Int32 := mth tt 2 (rtn (eIf (eh2 c_lt (lI 1) (eC (nI 32))) (eh2 isubF (eh2 iaddF (lI 1) (eC (nI 97))) (eC (nI 1))) (eh2 (aI .int) (eh1 (gR 11 1) (lR 0)) (eh2 isubF (lI 1) (eC (nI 32))))))
theorem m_Upper_byteOf : MJ 1 [] yX10_byteOf (some .int) eI (d_Upper_byteOf) := MJ_of (K := K_Upper_byteOf) (ri := .ireturn) (n1 := 0) (n2 := 0) (n3 := 0)
 (SJ_ret (p0 := 0) (p1 := 24) (EJ_if (p0 := 0) (pT := 6) (pF := 15) (pE := 12) (p1 := 24) (CJ_lt' (off := 12) (tgt := 15) (p0 := 0) (p1 := 1) (p2 := 3) (EJ_iload_n (j := 1) (i := 1) (pc := 0) D_Upper_byteOf_0 rfl) (EJ_bipush (n := 32) (v := (nI 32)) (pc := 1) D_Upper_byteOf_1 (by decide +kernel)) D_Upper_byteOf_3 rfl) (EJ_isub (p0 := 6) (p1 := 10) (p2 := 11) (EJ_iadd (p0 := 6) (p1 := 7) (p2 := 9) (EJ_iload_n (j := 1) (i := 1) (pc := 6) D_Upper_byteOf_6 rfl) (EJ_bipush (n := 97) (v := (nI 97)) (pc := 7) D_Upper_byteOf_7 (by decide +kernel)) D_Upper_byteOf_9) (EJ_iconst (n := 1) (v := (nI 1)) (pc := 10) D_Upper_byteOf_10 (by decide +kernel)) D_Upper_byteOf_11) (Lead.goto (K := K_Upper_byteOf) (pc := 12) (tgt := 24) D_Upper_byteOf_12 rfl) (EJ_iald (p0 := 15) (p1 := 19) (p2 := 23) (EJ_getR (t := 11) (c := 10) (kf := 1) (r := (RX10, TX10, 7)) (p0 := 15) (p1 := 16) (EJ_aload_n (j := 0) (i := 0) (pc := 15) D_Upper_byteOf_15 rfl) D_Upper_byteOf_16 ⟨rfl, rfl, by decide, q_130⟩ (fun _ _ => rfl)) (EJ_isub (p0 := 19) (p1 := 20) (p2 := 22) (EJ_iload_n (j := 1) (i := 1) (pc := 19) D_Upper_byteOf_19 rfl) (EJ_bipush (n := 32) (v := (nI 32)) (pc := 20) D_Upper_byteOf_20 (by decide +kernel)) D_Upper_byteOf_22) D_Upper_byteOf_23)) D_Upper_byteOf_24)
 RTm_int q_711 (by decide +kernel) rfl (fun h => by cases h) (show 2 ≤ 40 from by decide) (fun _ => trivial)
theorem D_TL_head_0 : decode cX11_head 0 = .ok (.aload_n 0, 1) := by decide +kernel
theorem D_TL_head_1 : decode cX11_head 1 = .ok (.getfield 30, 3) := by decide +kernel
theorem D_TL_head_4 : decode cX11_head 4 = .ok (.iload_n 1, 1) := by decide +kernel
theorem D_TL_head_5 : decode cX11_head 5 = .ok (.invokevirtual 150, 3) := by decide +kernel
theorem D_TL_head_8 : decode cX11_head 8 = .ok (.ifCond .eq (7), 3) := by decide +kernel
theorem D_TL_head_11 : decode cX11_head 11 = .ok (.iload_n 2, 1) := by decide +kernel
theorem D_TL_head_12 : decode cX11_head 12 = .ok (.ifCond .ge (5), 3) := by decide +kernel
theorem D_TL_head_15 : decode cX11_head 15 = .ok (.iconst (-1), 1) := by decide +kernel
theorem D_TL_head_16 : decode cX11_head 16 = .ok (.ireturn, 1) := by decide +kernel
theorem D_TL_head_17 : decode cX11_head 17 = .ok (.aload_n 0, 1) := by decide +kernel
theorem D_TL_head_18 : decode cX11_head 18 = .ok (.getfield 30, 3) := by decide +kernel
theorem D_TL_head_21 : decode cX11_head 21 = .ok (.getfield 118, 3) := by decide +kernel
theorem D_TL_head_24 : decode cX11_head 24 = .ok (.iload_n 1, 1) := by decide +kernel
theorem D_TL_head_25 : decode cX11_head 25 = .ok (.aaload, 1) := by decide +kernel
theorem D_TL_head_26 : decode cX11_head 26 = .ok (.getfield 216, 3) := by decide +kernel
theorem D_TL_head_29 : decode cX11_head 29 = .ok (.astore_n 3, 1) := by decide +kernel
theorem D_TL_head_30 : decode cX11_head 30 = .ok (.iload_n 2, 1) := by decide +kernel
theorem D_TL_head_31 : decode cX11_head 31 = .ok (.aload_n 3, 1) := by decide +kernel
theorem D_TL_head_32 : decode cX11_head 32 = .ok (.arraylength, 1) := by decide +kernel
theorem D_TL_head_33 : decode cX11_head 33 = .ok (.if_icmp .ge (19), 3) := by decide +kernel
theorem D_TL_head_36 : decode cX11_head 36 = .ok (.aload_n 0, 1) := by decide +kernel
theorem D_TL_head_37 : decode cX11_head 37 = .ok (.getfield 30, 3) := by decide +kernel
theorem D_TL_head_40 : decode cX11_head 40 = .ok (.getfield 53, 3) := by decide +kernel
theorem D_TL_head_43 : decode cX11_head 43 = .ok (.aload_n 3, 1) := by decide +kernel
theorem D_TL_head_44 : decode cX11_head 44 = .ok (.iload_n 2, 1) := by decide +kernel
theorem D_TL_head_45 : decode cX11_head 45 = .ok (.iaload, 1) := by decide +kernel
theorem D_TL_head_46 : decode cX11_head 46 = .ok (.invokevirtual 227, 3) := by decide +kernel
theorem D_TL_head_49 : decode cX11_head 49 = .ok (.goto (5), 3) := by decide +kernel
theorem D_TL_head_52 : decode cX11_head 52 = .ok (.bipush (-2), 2) := by decide +kernel
theorem D_TL_head_54 : decode cX11_head 54 = .ok (.ireturn, 1) := by decide +kernel
def K_TL_head : SC := (cX11_head, "TwoLevels", 4, 2, false, [], NoQ)
def d_TL_head : MD Int32 := mth tt 4 (sq (sIf (cOr (cNot (eh1 z_ne (kV 10 d_State_hasRule (eh1 (gR 12 3) (lR 0)) [vI (lI 1)]))) (eh1 z_lt (lI 2))) (rtn (eC (-1))) sk)
 (sq (sR1 3 (eh1 (gR 7 0) (eh2 (aR (.object "TwoLevels$Rule")) (eh1 (gR 10 1) (eh1 (gR 12 3) (lR 0))) (lI 1))))
 (rtn (eIf (eh2 c_lt (lI 2) (eh1 aL (lR 3))) (kV 11 d_Upper_byteOf (eh1 (gR 10 0) (eh1 (gR 12 3) (lR 0))) [vI (eh2 (aI .int) (lR 3) (lI 2))]) (eC (-2))))))
theorem m_TL_head : MJ 2 [] yX11_head (some .int) eI (d_TL_head) := MJ_of (K := K_TL_head) (ri := .ireturn) (n1 := 0) (n2 := 0) (n3 := 0)
 (SJ_sq (p0 := 0) (p1 := 17) (nN := 0) (nB := 0) (nC := 0) (SJ_if (p0 := 0) (pT := 15) (pF := 17) (nN := 17) (nB := 0) (nC := 0) (CJ_or (p0 := 0) (pM := 11) (pT := 15) (pF := 17) (CJ_not (p0 := 0) (pT := 15) (pF := 11) (CZ_ne' (off := 7) (tgt := 15) (p0 := 0) (p1 := 8) (EJ_callV (t := 10) (c := 9) (r := (RX9, TX9, 4)) (p0 := 0) (p1 := 4) (p2 := 5) (EJ_getR (t := 12) (c := 11) (kf := 3) (r := (RX11, TX11, 16)) (p0 := 0) (p1 := 1) (EJ_aload_n (j := 0) (i := 0) (pc := 0) D_TL_head_0 rfl) D_TL_head_1 ⟨rfl, rfl, by decide, q_258⟩ (fun _ _ => rfl)) (AJ_I (p0 := 4) (p1 := 5) (p2 := 5) (EJ_iload_n (j := 1) (i := 1) (pc := 4) D_TL_head_4 rfl) AJ_nil) m_State_hasRule E1_I D_TL_head_5 rfl rfl rfl q_556 q_557 q_558 q_94 ⟨by decide +kernel, by decide +kernel, by decide +kernel⟩ (by decide) (show 1 + 1 ≤ 2 from by decide) (fun _ h => absurd h List.not_mem_nil)) D_TL_head_8 rfl)) (CZ_lt' (off := 5) (tgt := 17) (p0 := 11) (p1 := 12) (EJ_iload_n (j := 2) (i := 2) (pc := 11) D_TL_head_11 rfl) D_TL_head_12 rfl)) (SJ_ret (p0 := 15) (p1 := 16) (EJ_iconst (n := -1) (v := (-1)) (pc := 15) D_TL_head_15 (by decide +kernel)) D_TL_head_16) SJ_sk)
 (SJ_sq (p0 := 17) (p1 := 30) (nN := 0) (nB := 0) (nC := 0) (SJ_astore_n (i := 3) (j := 3) (p0 := 17) (p1 := 29) (EJ_getR (t := 7) (c := 6) (kf := 0) (r := (RX6, TX6, 5)) (p0 := 17) (p1 := 26) (EJ_aald (p0 := 17) (p1 := 24) (p2 := 25) (EJ_getR (t := 10) (c := 9) (kf := 1) (r := (RX9, TX9, 4)) (p0 := 17) (p1 := 21) (EJ_getR (t := 12) (c := 11) (kf := 3) (r := (RX11, TX11, 16)) (p0 := 17) (p1 := 18) (EJ_aload_n (j := 0) (i := 0) (pc := 17) D_TL_head_17 rfl) D_TL_head_18 ⟨rfl, rfl, by decide, q_258⟩ (fun _ _ => rfl)) D_TL_head_21 ⟨rfl, rfl, by decide, q_177⟩ (fun _ _ => rfl)) (EJ_iload_n (j := 1) (i := 1) (pc := 24) D_TL_head_24 rfl) D_TL_head_25 (Or.inl ⟨_, rfl⟩)) D_TL_head_26 ⟨rfl, rfl, by decide, q_390⟩ (fun _ _ => rfl)) D_TL_head_29 rfl)
 (SJ_ret (p0 := 30) (p1 := 54) (EJ_if (p0 := 30) (pT := 36) (pF := 52) (pE := 49) (p1 := 54) (CJ_lt' (off := 19) (tgt := 52) (p0 := 30) (p1 := 31) (p2 := 33) (EJ_iload_n (j := 2) (i := 2) (pc := 30) D_TL_head_30 rfl) (EJ_alen (p0 := 31) (p1 := 32) (EJ_aload_n (j := 3) (i := 3) (pc := 31) D_TL_head_31 rfl) D_TL_head_32) D_TL_head_33 rfl) (EJ_callV (t := 11) (c := 10) (r := (RX10, TX10, 7)) (p0 := 36) (p1 := 43) (p2 := 46) (EJ_getR (t := 10) (c := 9) (kf := 0) (r := (RX9, TX9, 4)) (p0 := 36) (p1 := 40) (EJ_getR (t := 12) (c := 11) (kf := 3) (r := (RX11, TX11, 16)) (p0 := 36) (p1 := 37) (EJ_aload_n (j := 0) (i := 0) (pc := 36) D_TL_head_36 rfl) D_TL_head_37 ⟨rfl, rfl, by decide, q_258⟩ (fun _ _ => rfl)) D_TL_head_40 ⟨rfl, rfl, by decide, q_174⟩ (fun _ _ => rfl)) (AJ_I (p0 := 43) (p1 := 46) (p2 := 46) (EJ_iald (p0 := 43) (p1 := 44) (p2 := 45) (EJ_aload_n (j := 3) (i := 3) (pc := 43) D_TL_head_43 rfl) (EJ_iload_n (j := 2) (i := 2) (pc := 44) D_TL_head_44 rfl) D_TL_head_45) AJ_nil) m_Upper_byteOf E1_I D_TL_head_46 rfl rfl rfl q_708 q_709 q_710 q_93 ⟨by decide +kernel, by decide +kernel, by decide +kernel⟩ (by decide) (show 1 + 1 ≤ 2 from by decide) (fun _ h => absurd h List.not_mem_nil)) (Lead.goto (K := K_TL_head) (pc := 49) (tgt := 54) D_TL_head_49 rfl) (EJ_bipush (n := -2) (v := (-2)) (pc := 52) D_TL_head_52 (by decide +kernel))) D_TL_head_54)))
 RTm_int q_707 (by decide +kernel) rfl (fun h => by cases h) (show 4 ≤ 40 from by decide) (fun _ => trivial)
theorem D_TL_heads_0 : decode cX11_heads 0 = .ok (.aload_n 0, 1) := by decide +kernel
theorem D_TL_heads_1 : decode cX11_heads 1 = .ok (.getfield 30, 3) := by decide +kernel
theorem D_TL_heads_4 : decode cX11_heads 4 = .ok (.iload_n 1, 1) := by decide +kernel
theorem D_TL_heads_5 : decode cX11_heads 5 = .ok (.invokevirtual 150, 3) := by decide +kernel
theorem D_TL_heads_8 : decode cX11_heads 8 = .ok (.ifCond .ne (5), 3) := by decide +kernel
theorem D_TL_heads_11 : decode cX11_heads 11 = .ok (.iconst (-1), 1) := by decide +kernel
theorem D_TL_heads_12 : decode cX11_heads 12 = .ok (.ireturn, 1) := by decide +kernel
theorem D_TL_heads_13 : decode cX11_heads 13 = .ok (.aload_n 0, 1) := by decide +kernel
theorem D_TL_heads_14 : decode cX11_heads 14 = .ok (.getfield 60, 3) := by decide +kernel
theorem D_TL_heads_17 : decode cX11_heads 17 = .ok (.aload_n 0, 1) := by decide +kernel
theorem D_TL_heads_18 : decode cX11_heads 18 = .ok (.getfield 30, 3) := by decide +kernel
theorem D_TL_heads_21 : decode cX11_heads 21 = .ok (.getfield 53, 3) := by decide +kernel
theorem D_TL_heads_24 : decode cX11_heads 24 = .ok (.aload_n 0, 1) := by decide +kernel
theorem D_TL_heads_25 : decode cX11_heads 25 = .ok (.getfield 108, 3) := by decide +kernel
theorem D_TL_heads_28 : decode cX11_heads 28 = .ok (.invokevirtual 208, 3) := by decide +kernel
theorem D_TL_heads_31 : decode cX11_heads 31 = .ok (.aload_n 0, 1) := by decide +kernel
theorem D_TL_heads_32 : decode cX11_heads 32 = .ok (.getfield 60, 3) := by decide +kernel
theorem D_TL_heads_35 : decode cX11_heads 35 = .ok (.aload_n 0, 1) := by decide +kernel
theorem D_TL_heads_36 : decode cX11_heads 36 = .ok (.getfield 30, 3) := by decide +kernel
theorem D_TL_heads_39 : decode cX11_heads 39 = .ok (.getfield 118, 3) := by decide +kernel
theorem D_TL_heads_42 : decode cX11_heads 42 = .ok (.iload_n 1, 1) := by decide +kernel
theorem D_TL_heads_43 : decode cX11_heads 43 = .ok (.aaload, 1) := by decide +kernel
theorem D_TL_heads_44 : decode cX11_heads 44 = .ok (.invokevirtual 251, 3) := by decide +kernel
theorem D_TL_heads_47 : decode cX11_heads 47 = .ok (.iconst (0), 1) := by decide +kernel
theorem D_TL_heads_48 : decode cX11_heads 48 = .ok (.istore_n 2, 1) := by decide +kernel
theorem D_TL_heads_49 : decode cX11_heads 49 = .ok (.iload_n 2, 1) := by decide +kernel
theorem D_TL_heads_50 : decode cX11_heads 50 = .ok (.ldc 255, 2) := by decide +kernel
theorem D_TL_heads_52 : decode cX11_heads 52 = .ok (.if_icmp .ge (19), 3) := by decide +kernel
theorem D_TL_heads_55 : decode cX11_heads 55 = .ok (.aload_n 0, 1) := by decide +kernel
theorem D_TL_heads_56 : decode cX11_heads 56 = .ok (.getfield 60, 3) := by decide +kernel
theorem D_TL_heads_59 : decode cX11_heads 59 = .ok (.invokevirtual 256, 3) := by decide +kernel
theorem D_TL_heads_62 : decode cX11_heads 62 = .ok (.ifCond .eq (9), 3) := by decide +kernel
theorem D_TL_heads_65 : decode cX11_heads 65 = .ok (.iinc 2 (1), 3) := by decide +kernel
theorem D_TL_heads_68 : decode cX11_heads 68 = .ok (.goto (-19), 3) := by decide +kernel
theorem D_TL_heads_71 : decode cX11_heads 71 = .ok (.iload_n 2, 1) := by decide +kernel
theorem D_TL_heads_72 : decode cX11_heads 72 = .ok (.ireturn, 1) := by decide +kernel
def K_TL_heads : SC := (cX11_heads, "TwoLevels", 3, 5, false, [3, 43, 44, 45, 46, 47, 48], NoQ)
def d_TL_heads : MD Int32 := mth tt 3 (sq (sIf (cNot (eh1 z_ne (kV 10 d_State_hasRule (eh1 (gR 12 3) (lR 0)) [vI (lI 1)]))) (rtn (eC (-1))) sk)
 (sq (sE (kV 3 d_Fit_load (eh1 (gR 12 10) (lR 0)) [vR (eh1 (gR 10 0) (eh1 (gR 12 3) (lR 0))), vJ (eh1 (gJ 12 4) (lR 0))]))
 (sq (sE (kV 3 d_Fit_begin (eh1 (gR 12 10) (lR 0)) [vR (eh2 (aR (.object "TwoLevels$Rule")) (eh1 (gR 10 1) (eh1 (gR 12 3) (lR 0))) (lI 1))]))
 (sq (sI1 2 (eC (nI 0)))
 (sq (loop (cAnd (eh2 c_lt (lI 2) (eC (nI 1000000))) (eh1 z_ne (kV 3 d_Fit_next (eh1 (gR 12 10) (lR 0)) [])))
 (sInc 2 (nI 1))
 sk)
 (rtn (lI 2)))))))
theorem m_TL_heads : MJ 5 [3, 43, 44, 45, 46, 47, 48] yX11_heads (some .int) eI (d_TL_heads) := MJ_of (K := K_TL_heads) (ri := .ireturn) (n1 := 0) (n2 := 0) (n3 := 0)
 (SJ_sq (p0 := 0) (p1 := 13) (nN := 0) (nB := 0) (nC := 0) (SJ_if (p0 := 0) (pT := 11) (pF := 13) (nN := 13) (nB := 0) (nC := 0) (CJ_not (p0 := 0) (pT := 11) (pF := 13) (CZ_ne (off := 5) (tgt := 13) (p0 := 0) (p1 := 8) (EJ_callV (t := 10) (c := 9) (r := (RX9, TX9, 4)) (p0 := 0) (p1 := 4) (p2 := 5) (EJ_getR (t := 12) (c := 11) (kf := 3) (r := (RX11, TX11, 16)) (p0 := 0) (p1 := 1) (EJ_aload_n (j := 0) (i := 0) (pc := 0) D_TL_heads_0 rfl) D_TL_heads_1 ⟨rfl, rfl, by decide, q_258⟩ (fun _ _ => rfl)) (AJ_I (p0 := 4) (p1 := 5) (p2 := 5) (EJ_iload_n (j := 1) (i := 1) (pc := 4) D_TL_heads_4 rfl) AJ_nil) m_State_hasRule E1_I D_TL_heads_5 rfl rfl rfl q_556 q_557 q_558 q_94 ⟨by decide +kernel, by decide +kernel, by decide +kernel⟩ (by decide) (show 1 + 1 ≤ 5 from by decide) (fun _ h => absurd h List.not_mem_nil)) D_TL_heads_8 rfl)) (SJ_ret (p0 := 11) (p1 := 12) (EJ_iconst (n := -1) (v := (-1)) (pc := 11) D_TL_heads_11 (by decide +kernel)) D_TL_heads_12) SJ_sk)
 (SJ_sq (p0 := 13) (p1 := 31) (nN := 0) (nB := 0) (nC := 0) (SJ_void (p0 := 13) (p1 := 31) (EJ_callV (t := 3) (c := 2) (r := (RX2, TX2, 12)) (p0 := 13) (p1 := 17) (p2 := 28) (EJ_getR (t := 12) (c := 11) (kf := 10) (r := (RX11, TX11, 16)) (p0 := 13) (p1 := 14) (EJ_aload_n (j := 0) (i := 0) (pc := 13) D_TL_heads_13 rfl) D_TL_heads_14 ⟨rfl, rfl, by decide, q_265⟩ (fun _ _ => rfl)) (AJ_R (p0 := 17) (p1 := 24) (p2 := 28) (EJ_getR (t := 10) (c := 9) (kf := 0) (r := (RX9, TX9, 4)) (p0 := 17) (p1 := 21) (EJ_getR (t := 12) (c := 11) (kf := 3) (r := (RX11, TX11, 16)) (p0 := 17) (p1 := 18) (EJ_aload_n (j := 0) (i := 0) (pc := 17) D_TL_heads_17 rfl) D_TL_heads_18 ⟨rfl, rfl, by decide, q_258⟩ (fun _ _ => rfl)) D_TL_heads_21 ⟨rfl, rfl, by decide, q_174⟩ (fun _ _ => rfl)) (AJ_J (p0 := 24) (p1 := 28) (p2 := 28) (EJ_getJ (t := 12) (c := 11) (kf := 4) (r := (RX11, TX11, 16)) (p0 := 24) (p1 := 25) (EJ_aload_n (j := 0) (i := 0) (pc := 24) D_TL_heads_24 rfl) D_TL_heads_25 ⟨rfl, rfl, by decide, q_259⟩ (fun _ _ => rfl)) AJ_nil)) m_Fit_load E1_U D_TL_heads_28 rfl rfl rfl q_667 q_668 q_669 q_95 ⟨by decide +kernel, by decide +kernel, by decide +kernel⟩ (by decide) (show 2 + 1 ≤ 5 from by decide) (show ∀ x_ ∈ ([3, 43, 44, 46] : List Nat), x_ ∈ ([3, 43, 44, 45, 46, 47, 48] : List Nat) from by decide)))
 (SJ_sq (p0 := 31) (p1 := 47) (nN := 0) (nB := 0) (nC := 0) (SJ_void (p0 := 31) (p1 := 47) (EJ_callV (t := 3) (c := 2) (r := (RX2, TX2, 12)) (p0 := 31) (p1 := 35) (p2 := 44) (EJ_getR (t := 12) (c := 11) (kf := 10) (r := (RX11, TX11, 16)) (p0 := 31) (p1 := 32) (EJ_aload_n (j := 0) (i := 0) (pc := 31) D_TL_heads_31 rfl) D_TL_heads_32 ⟨rfl, rfl, by decide, q_265⟩ (fun _ _ => rfl)) (AJ_R (p0 := 35) (p1 := 44) (p2 := 44) (EJ_aald (p0 := 35) (p1 := 42) (p2 := 43) (EJ_getR (t := 10) (c := 9) (kf := 1) (r := (RX9, TX9, 4)) (p0 := 35) (p1 := 39) (EJ_getR (t := 12) (c := 11) (kf := 3) (r := (RX11, TX11, 16)) (p0 := 35) (p1 := 36) (EJ_aload_n (j := 0) (i := 0) (pc := 35) D_TL_heads_35 rfl) D_TL_heads_36 ⟨rfl, rfl, by decide, q_258⟩ (fun _ _ => rfl)) D_TL_heads_39 ⟨rfl, rfl, by decide, q_177⟩ (fun _ _ => rfl)) (EJ_iload_n (j := 1) (i := 1) (pc := 42) D_TL_heads_42 rfl) D_TL_heads_43 (Or.inl ⟨_, rfl⟩)) AJ_nil) m_Fit_begin E1_U D_TL_heads_44 rfl rfl rfl q_729 q_730 q_731 q_95 ⟨by decide +kernel, by decide +kernel, by decide +kernel⟩ (by decide) (show 4 + 1 ≤ 5 from by decide) (show ∀ x_ ∈ ([3, 43, 44, 46] : List Nat), x_ ∈ ([3, 43, 44, 45, 46, 47, 48] : List Nat) from by decide)))
 (SJ_sq (p0 := 47) (p1 := 49) (nN := 0) (nB := 0) (nC := 0) (SJ_istore_n (i := 2) (j := 2) (p0 := 47) (p1 := 48) (EJ_iconst (n := 0) (v := (nI 0)) (pc := 47) D_TL_heads_47 (by decide +kernel)) D_TL_heads_48 rfl)
 (SJ_sq (p0 := 49) (p1 := 71) (nN := 0) (nB := 0) (nC := 0) (SJ_loop (p0 := 49) (pB := 65) (pS := 49) (pE := 71) (CJ_and (p0 := 49) (pM := 55) (pT := 65) (pF := 71) (CJ_lt' (off := 19) (tgt := 71) (p0 := 49) (p1 := 50) (p2 := 52) (EJ_iload_n (j := 2) (i := 2) (pc := 49) D_TL_heads_49 rfl) (EJ_ldc (i := 255) (v := (nI 1000000)) (pc := 50) D_TL_heads_50 q_733) D_TL_heads_52 rfl) (CZ_ne' (off := 9) (tgt := 71) (p0 := 55) (p1 := 62) (EJ_callV (t := 3) (c := 2) (r := (RX2, TX2, 12)) (p0 := 55) (p1 := 59) (p2 := 59) (EJ_getR (t := 12) (c := 11) (kf := 10) (r := (RX11, TX11, 16)) (p0 := 55) (p1 := 56) (EJ_aload_n (j := 0) (i := 0) (pc := 55) D_TL_heads_55 rfl) D_TL_heads_56 ⟨rfl, rfl, by decide, q_265⟩ (fun _ _ => rfl)) AJ_nil m_Fit_next E1_I D_TL_heads_59 rfl rfl rfl q_734 q_735 q_736 q_95 ⟨by decide +kernel, by decide +kernel, by decide +kernel⟩ (by decide) (show 4 + 1 ≤ 5 from by decide) (show ∀ x_ ∈ ([3, 45, 46, 47, 48] : List Nat), x_ ∈ ([3, 43, 44, 45, 46, 47, 48] : List Nat) from by decide)) D_TL_heads_62 rfl))
 (SJ_post (SJ_iinc (i := 2) (n := 1) (v := (nI 1)) (pc := 65) D_TL_heads_65 (by decide +kernel)) (Lead.goto (K := K_TL_heads) (pc := 68) (tgt := 49) D_TL_heads_68 rfl))
 SJ_sk)
 (SJ_ret (p0 := 71) (p1 := 72) (EJ_iload_n (j := 2) (i := 2) (pc := 71) D_TL_heads_71 rfl) D_TL_heads_72))))))
 RTm_int q_728 (by decide +kernel) rfl (fun h => by cases h) (show 3 ≤ 40 from by decide) (fun _ => trivial)
theorem D_TL_holds_0 : decode cX11_holds 0 = .ok (.aload_n 0, 1) := by decide +kernel
theorem D_TL_holds_1 : decode cX11_holds 1 = .ok (.getfield 68, 3) := by decide +kernel
theorem D_TL_holds_4 : decode cX11_holds 4 = .ok (.bipush (-4), 2) := by decide +kernel
theorem D_TL_holds_6 : decode cX11_holds 6 = .ok (.if_icmp .ne (34), 3) := by decide +kernel
theorem D_TL_holds_9 : decode cX11_holds 9 = .ok (.aload_n 0, 1) := by decide +kernel
theorem D_TL_holds_10 : decode cX11_holds 10 = .ok (.aload_n 0, 1) := by decide +kernel
theorem D_TL_holds_11 : decode cX11_holds 11 = .ok (.getfield 83, 3) := by decide +kernel
theorem D_TL_holds_14 : decode cX11_holds 14 = .ok (.aload_n 0, 1) := by decide +kernel
theorem D_TL_holds_15 : decode cX11_holds 15 = .ok (.getfield 30, 3) := by decide +kernel
theorem D_TL_holds_18 : decode cX11_holds 18 = .ok (.aload_n 0, 1) := by decide +kernel
theorem D_TL_holds_19 : decode cX11_holds 19 = .ok (.getfield 30, 3) := by decide +kernel
theorem D_TL_holds_22 : decode cX11_holds 22 = .ok (.getfield 102, 3) := by decide +kernel
theorem D_TL_holds_25 : decode cX11_holds 25 = .ok (.aload_n 0, 1) := by decide +kernel
theorem D_TL_holds_26 : decode cX11_holds 26 = .ok (.getfield 108, 3) := by decide +kernel
theorem D_TL_holds_29 : decode cX11_holds 29 = .ok (.aload_n 0, 1) := by decide +kernel
theorem D_TL_holds_30 : decode cX11_holds 30 = .ok (.getfield 34, 3) := by decide +kernel
theorem D_TL_holds_33 : decode cX11_holds 33 = .ok (.iconst (0), 1) := by decide +kernel
theorem D_TL_holds_34 : decode cX11_holds 34 = .ok (.invokevirtual 267, 3) := by decide +kernel
theorem D_TL_holds_37 : decode cX11_holds 37 = .ok (.putfield 68, 3) := by decide +kernel
theorem D_TL_holds_40 : decode cX11_holds 40 = .ok (.aload_n 0, 1) := by decide +kernel
theorem D_TL_holds_41 : decode cX11_holds 41 = .ok (.getfield 68, 3) := by decide +kernel
theorem D_TL_holds_44 : decode cX11_holds 44 = .ok (.ireturn, 1) := by decide +kernel
def K_TL_holds : SC := (cX11_holds, "TwoLevels", 1, 206, false, [3, 4, 8, 12, 43, 44, 45, 46, 47, 48, 49, 51], NoQ)
def d_TL_holds : MD Int32 := mth tt 1 (sq (sIf (eh2 c_eq (eh1 (gI 12 14) (lR 0)) (eC (-4))) (sh2 (pI false 12 14) (lR 0) (kV 8 d_Search_run (eh1 (gR 12 12) (lR 0)) [vR (eh1 (gR 12 3) (lR 0)), vI (eh1 (gI 10 2) (eh1 (gR 12 3) (lR 0))), vJ (eh1 (gJ 12 4) (lR 0)), vR (eh1 (gR 12 5) (lR 0)), vI (eC (nI 0))])) sk)
 (rtn (eh1 (gI 12 14) (lR 0))))
theorem m_TL_holds : MJ 206 [3, 4, 8, 12, 43, 44, 45, 46, 47, 48, 49, 51] yX11_holds (some .int) eI (d_TL_holds) := MJ_of (K := K_TL_holds) (ri := .ireturn) (n1 := 0) (n2 := 0) (n3 := 0)
 (SJ_sq (p0 := 0) (p1 := 40) (nN := 0) (nB := 0) (nC := 0) (SJ_if (p0 := 0) (pT := 9) (pF := 40) (nN := 40) (nB := 0) (nC := 0) (CJ_eq' (off := 34) (tgt := 40) (p0 := 0) (p1 := 4) (p2 := 6) (EJ_getI (t := 12) (c := 11) (kf := 14) (r := (RX11, TX11, 16)) (p0 := 0) (p1 := 1) (EJ_aload_n (j := 0) (i := 0) (pc := 0) D_TL_holds_0 rfl) D_TL_holds_1 ⟨rfl, rfl, by decide, q_269⟩ (fun _ _ => rfl)) (EJ_bipush (n := -4) (v := (-4)) (pc := 4) D_TL_holds_4 (by decide +kernel)) D_TL_holds_6 rfl) (SJ_putI (z := false) (t := 12) (c := 11) (kf := 14) (r := (RX11, TX11, 16)) (p0 := 9) (p1 := 10) (p2 := 37) (EJ_aload_n (j := 0) (i := 0) (pc := 9) D_TL_holds_9 rfl) (EJ_callV (t := 8) (c := 7) (r := (RX7, TX7, 11)) (p0 := 10) (p1 := 14) (p2 := 34) (EJ_getR (t := 12) (c := 11) (kf := 12) (r := (RX11, TX11, 16)) (p0 := 10) (p1 := 11) (EJ_aload_n (j := 0) (i := 0) (pc := 10) D_TL_holds_10 rfl) D_TL_holds_11 ⟨rfl, rfl, by decide, q_267⟩ (fun _ _ => rfl)) (AJ_R (p0 := 14) (p1 := 18) (p2 := 34) (EJ_getR (t := 12) (c := 11) (kf := 3) (r := (RX11, TX11, 16)) (p0 := 14) (p1 := 15) (EJ_aload_n (j := 0) (i := 0) (pc := 14) D_TL_holds_14 rfl) D_TL_holds_15 ⟨rfl, rfl, by decide, q_258⟩ (fun _ _ => rfl)) (AJ_I (p0 := 18) (p1 := 25) (p2 := 34) (EJ_getI (t := 10) (c := 9) (kf := 2) (r := (RX9, TX9, 4)) (p0 := 18) (p1 := 22) (EJ_getR (t := 12) (c := 11) (kf := 3) (r := (RX11, TX11, 16)) (p0 := 18) (p1 := 19) (EJ_aload_n (j := 0) (i := 0) (pc := 18) D_TL_holds_18 rfl) D_TL_holds_19 ⟨rfl, rfl, by decide, q_258⟩ (fun _ _ => rfl)) D_TL_holds_22 ⟨rfl, rfl, by decide, q_180⟩ (fun _ _ => rfl)) (AJ_J (p0 := 25) (p1 := 29) (p2 := 34) (EJ_getJ (t := 12) (c := 11) (kf := 4) (r := (RX11, TX11, 16)) (p0 := 25) (p1 := 26) (EJ_aload_n (j := 0) (i := 0) (pc := 25) D_TL_holds_25 rfl) D_TL_holds_26 ⟨rfl, rfl, by decide, q_259⟩ (fun _ _ => rfl)) (AJ_R (p0 := 29) (p1 := 33) (p2 := 34) (EJ_getR (t := 12) (c := 11) (kf := 5) (r := (RX11, TX11, 16)) (p0 := 29) (p1 := 30) (EJ_aload_n (j := 0) (i := 0) (pc := 29) D_TL_holds_29 rfl) D_TL_holds_30 ⟨rfl, rfl, by decide, q_260⟩ (fun _ _ => rfl)) (AJ_I (p0 := 33) (p1 := 34) (p2 := 34) (EJ_iconst (n := 0) (v := (nI 0)) (pc := 33) D_TL_holds_33 (by decide +kernel)) AJ_nil))))) m_Search_run E1_I D_TL_holds_34 rfl rfl rfl q_776 q_777 q_778 q_96 ⟨by decide +kernel, by decide +kernel, by decide +kernel⟩ (by decide) (show 205 + 1 ≤ 206 from by decide) (show ∀ x_ ∈ ([3, 4, 8, 43, 44, 45, 46, 47, 48, 49, 51] : List Nat), x_ ∈ ([3, 4, 8, 12, 43, 44, 45, 46, 47, 48, 49, 51] : List Nat) from by decide)) D_TL_holds_37 ⟨rfl, rfl, by decide, q_269⟩ (Or.inl rfl) (fun _ _ => ⟨rfl, rfl⟩) (fun _ _ => rfl) (show (12 : Nat) ∈ ([3, 4, 8, 12, 43, 44, 45, 46, 47, 48, 49, 51] : List Nat) from by decide)) SJ_sk)
 (SJ_ret (p0 := 40) (p1 := 44) (EJ_getI (t := 12) (c := 11) (kf := 14) (r := (RX11, TX11, 16)) (p0 := 40) (p1 := 41) (EJ_aload_n (j := 0) (i := 0) (pc := 40) D_TL_holds_40 rfl) D_TL_holds_41 ⟨rfl, rfl, by decide, q_269⟩ (fun _ _ => rfl)) D_TL_holds_44))
 RTm_int q_775 (by decide +kernel) rfl (fun h => by cases h) (show 1 ≤ 40 from by decide) (fun _ => trivial)
theorem D_Upper_init_0 : decode cX10_init 0 = .ok (.aload_n 0, 1) := by decide +kernel
theorem D_Upper_init_1 : decode cX10_init 1 = .ok (.invokespecial 3, 3) := by decide +kernel
theorem D_Upper_init_4 : decode cX10_init 4 = .ok (.aload_n 0, 1) := by decide +kernel
theorem D_Upper_init_5 : decode cX10_init 5 = .ok (.bipush (26), 2) := by decide +kernel
theorem D_Upper_init_7 : decode cX10_init 7 = .ok (.newarray .int, 2) := by decide +kernel
theorem D_Upper_init_9 : decode cX10_init 9 = .ok (.putfield 11, 3) := by decide +kernel
theorem D_Upper_init_12 : decode cX10_init 12 = .ok (.aload_n 0, 1) := by decide +kernel
theorem D_Upper_init_13 : decode cX10_init 13 = .ok (.bipush (26), 2) := by decide +kernel
theorem D_Upper_init_15 : decode cX10_init 15 = .ok (.newarray .int, 2) := by decide +kernel
theorem D_Upper_init_17 : decode cX10_init 17 = .ok (.putfield 15, 3) := by decide +kernel
theorem D_Upper_init_20 : decode cX10_init 20 = .ok (.aload_n 0, 1) := by decide +kernel
theorem D_Upper_init_21 : decode cX10_init 21 = .ok (.bipush (24), 2) := by decide +kernel
theorem D_Upper_init_23 : decode cX10_init 23 = .ok (.anewarray 18, 3) := by decide +kernel
theorem D_Upper_init_26 : decode cX10_init 26 = .ok (.putfield 19, 3) := by decide +kernel
theorem D_Upper_init_29 : decode cX10_init 29 = .ok (.aload_n 0, 1) := by decide +kernel
theorem D_Upper_init_30 : decode cX10_init 30 = .ok (.bipush (6), 2) := by decide +kernel
theorem D_Upper_init_32 : decode cX10_init 32 = .ok (.newarray .int, 2) := by decide +kernel
theorem D_Upper_init_34 : decode cX10_init 34 = .ok (.putfield 23, 3) := by decide +kernel
theorem D_Upper_init_37 : decode cX10_init 37 = .ok (.aload_n 0, 1) := by decide +kernel
theorem D_Upper_init_38 : decode cX10_init 38 = .ok (.iconst (0), 1) := by decide +kernel
theorem D_Upper_init_39 : decode cX10_init 39 = .ok (.anewarray 26, 3) := by decide +kernel
theorem D_Upper_init_42 : decode cX10_init 42 = .ok (.putfield 28, 3) := by decide +kernel
theorem D_Upper_init_45 : decode cX10_init 45 = .ok (.return_, 1) := by decide +kernel
def K_Upper_init : SC := (cX10_init, "TwoLevels$Upper", 1, 1, true, [11], NoQ)
def d_Upper_init : MD Unit := mth tt 1 (sq sObj
 (sq (sh2 (pR 11 0) (lR 0) (nA 29 (eC (nI 26))))
 (sq (sh2 (pR 11 1) (lR 0) (nA 30 (eC (nI 26))))
 (sq (sh2 (pR 11 2) (lR 0) (nA 31 (eC (nI 24))))
 (sq (sh2 (pR 11 3) (lR 0) (nA 32 (eC (nI 6))))
 (sq (sh2 (pR 11 4) (lR 0) (nA 33 (eC (nI 0))))
 rtnU))))))
theorem m_Upper_init : MJ 1 [11] yX10_init none eU (d_Upper_init) := MJ_of (K := K_Upper_init) (ri := .return_) (n1 := 0) (n2 := 0) (n3 := 0)
 (SJ_sq (p0 := 0) (p1 := 4) (nN := 0) (nB := 0) (nC := 0) (SJ_obj (pc := 0) (idx := 3) D_Upper_init_0 D_Upper_init_1 q_126 q_114 q_115 (show 1 ≤ 1 from by decide))
 (SJ_sq (p0 := 4) (p1 := 12) (nN := 0) (nB := 0) (nC := 0) (SJ_putR (t := 11) (c := 10) (kf := 0) (r := (RX10, TX10, 7)) (p0 := 4) (p1 := 5) (p2 := 9) (EJ_aload_n (j := 0) (i := 0) (pc := 4) D_Upper_init_4 rfl) (EJ_newarr (atype := .int) (ty := .int) (t := 29) (p0 := 5) (p1 := 7) (EJ_bipush (n := 26) (v := (nI 26)) (pc := 5) D_Upper_init_5 (by decide +kernel)) D_Upper_init_7 rfl (by decide) q_145 rfl) D_Upper_init_9 ⟨rfl, rfl, by decide, q_129⟩ (Or.inr ⟨rfl, rfl⟩) (Or.inr ⟨_, rfl⟩) (fun _ _ => rfl) (show (11 : Nat) ∈ ([11] : List Nat) from by decide))
 (SJ_sq (p0 := 12) (p1 := 20) (nN := 0) (nB := 0) (nC := 0) (SJ_putR (t := 11) (c := 10) (kf := 1) (r := (RX10, TX10, 7)) (p0 := 12) (p1 := 13) (p2 := 17) (EJ_aload_n (j := 0) (i := 0) (pc := 12) D_Upper_init_12 rfl) (EJ_newarr (atype := .int) (ty := .int) (t := 30) (p0 := 13) (p1 := 15) (EJ_bipush (n := 26) (v := (nI 26)) (pc := 13) D_Upper_init_13 (by decide +kernel)) D_Upper_init_15 rfl (by decide) q_145 rfl) D_Upper_init_17 ⟨rfl, rfl, by decide, q_130⟩ (Or.inr ⟨rfl, rfl⟩) (Or.inr ⟨_, rfl⟩) (fun _ _ => rfl) (show (11 : Nat) ∈ ([11] : List Nat) from by decide))
 (SJ_sq (p0 := 20) (p1 := 29) (nN := 0) (nB := 0) (nC := 0) (SJ_putR (t := 11) (c := 10) (kf := 2) (r := (RX10, TX10, 7)) (p0 := 20) (p1 := 21) (p2 := 26) (EJ_aload_n (j := 0) (i := 0) (pc := 20) D_Upper_init_20 rfl) (EJ_anewA (t := 31) (p0 := 21) (p1 := 23) (EJ_bipush (n := 24) (v := (nI 24)) (pc := 21) D_Upper_init_21 (by decide +kernel)) D_Upper_init_23 q_127 rfl) D_Upper_init_26 ⟨rfl, rfl, by decide, q_131⟩ (Or.inr ⟨rfl, rfl⟩) (Or.inr ⟨_, rfl⟩) (fun _ _ => rfl) (show (11 : Nat) ∈ ([11] : List Nat) from by decide))
 (SJ_sq (p0 := 29) (p1 := 37) (nN := 0) (nB := 0) (nC := 0) (SJ_putR (t := 11) (c := 10) (kf := 3) (r := (RX10, TX10, 7)) (p0 := 29) (p1 := 30) (p2 := 34) (EJ_aload_n (j := 0) (i := 0) (pc := 29) D_Upper_init_29 rfl) (EJ_newarr (atype := .int) (ty := .int) (t := 32) (p0 := 30) (p1 := 32) (EJ_bipush (n := 6) (v := (nI 6)) (pc := 30) D_Upper_init_30 (by decide +kernel)) D_Upper_init_32 rfl (by decide) q_145 rfl) D_Upper_init_34 ⟨rfl, rfl, by decide, q_132⟩ (Or.inr ⟨rfl, rfl⟩) (Or.inr ⟨_, rfl⟩) (fun _ _ => rfl) (show (11 : Nat) ∈ ([11] : List Nat) from by decide))
 (SJ_sq (p0 := 37) (p1 := 45) (nN := 0) (nB := 0) (nC := 0) (SJ_putR (t := 11) (c := 10) (kf := 4) (r := (RX10, TX10, 7)) (p0 := 37) (p1 := 38) (p2 := 42) (EJ_aload_n (j := 0) (i := 0) (pc := 37) D_Upper_init_37 rfl) (EJ_anew (C := "TwoLevels$Firsts") (t := 33) (p0 := 38) (p1 := 39) (EJ_iconst (n := 0) (v := (nI 0)) (pc := 38) D_Upper_init_38 (by decide +kernel)) D_Upper_init_39 q_128 (by decide) rfl) D_Upper_init_42 ⟨rfl, rfl, by decide, q_133⟩ (Or.inl rfl) (Or.inr ⟨_, rfl⟩) (fun _ _ => rfl) (show (11 : Nat) ∈ ([11] : List Nat) from by decide))
 (SJ_retU (pc := 45) D_Upper_init_45)))))))
 RTm_void q_125 (by decide +kernel) rfl (fun _ => rfl) (show 1 ≤ 40 from by decide) (fun _ => trivial)
theorem D_Reader_init_0 : decode cX4_init 0 = .ok (.aload_n 0, 1) := by decide +kernel
theorem D_Reader_init_1 : decode cX4_init 1 = .ok (.invokespecial 3, 3) := by decide +kernel
theorem D_Reader_init_4 : decode cX4_init 4 = .ok (.aload_n 0, 1) := by decide +kernel
theorem D_Reader_init_5 : decode cX4_init 5 = .ok (.iconst (0), 1) := by decide +kernel
theorem D_Reader_init_6 : decode cX4_init 6 = .ok (.newarray .int, 2) := by decide +kernel
theorem D_Reader_init_8 : decode cX4_init 8 = .ok (.putfield 9, 3) := by decide +kernel
theorem D_Reader_init_11 : decode cX4_init 11 = .ok (.aload_n 0, 1) := by decide +kernel
theorem D_Reader_init_12 : decode cX4_init 12 = .ok (.bipush (6), 2) := by decide +kernel
theorem D_Reader_init_14 : decode cX4_init 14 = .ok (.newarray .int, 2) := by decide +kernel
theorem D_Reader_init_16 : decode cX4_init 16 = .ok (.putfield 17, 3) := by decide +kernel
theorem D_Reader_init_19 : decode cX4_init 19 = .ok (.aload_n 0, 1) := by decide +kernel
theorem D_Reader_init_20 : decode cX4_init 20 = .ok (.bipush (10), 2) := by decide +kernel
theorem D_Reader_init_22 : decode cX4_init 22 = .ok (.anewarray 15, 3) := by decide +kernel
theorem D_Reader_init_25 : decode cX4_init 25 = .ok (.putfield 20, 3) := by decide +kernel
theorem D_Reader_init_28 : decode cX4_init 28 = .ok (.aload_n 0, 1) := by decide +kernel
theorem D_Reader_init_29 : decode cX4_init 29 = .ok (.new 24, 3) := by decide +kernel
theorem D_Reader_init_32 : decode cX4_init 32 = .ok (.dup, 1) := by decide +kernel
theorem D_Reader_init_33 : decode cX4_init 33 = .ok (.invokespecial 26, 3) := by decide +kernel
theorem D_Reader_init_36 : decode cX4_init 36 = .ok (.putfield 27, 3) := by decide +kernel
theorem D_Reader_init_39 : decode cX4_init 39 = .ok (.return_, 1) := by decide +kernel
def K_Reader_init : SC := (cX4_init, "TwoLevels$Reader", 1, 2, true, [5, 11], NoQ)
def d_Reader_init : MD Unit := mth tt 1 (sq sObj
 (sq (sh2 (pR 5 0) (lR 0) (nA 25 (eC (nI 0))))
 (sq (sh2 (pR 5 4) (lR 0) (nA 26 (eC (nI 6))))
 (sq (sh2 (pR 5 5) (lR 0) (nA 27 (eC (nI 10))))
 (sq (sh2 (pR 5 8) (lR 0) (kN 11 7 d_Upper_init []))
 rtnU)))))
theorem m_Reader_init : MJ 2 [5, 11] yX4_init none eU (d_Reader_init) := MJ_of (K := K_Reader_init) (ri := .return_) (n1 := 0) (n2 := 0) (n3 := 0)
 (SJ_sq (p0 := 0) (p1 := 4) (nN := 0) (nB := 0) (nC := 0) (SJ_obj (pc := 0) (idx := 3) D_Reader_init_0 D_Reader_init_1 q_120 q_114 q_115 (show 1 ≤ 2 from by decide))
 (SJ_sq (p0 := 4) (p1 := 11) (nN := 0) (nB := 0) (nC := 0) (SJ_putR (t := 5) (c := 4) (kf := 0) (r := (RX4, TX4, 9)) (p0 := 4) (p1 := 5) (p2 := 8) (EJ_aload_n (j := 0) (i := 0) (pc := 4) D_Reader_init_4 rfl) (EJ_newarr (atype := .int) (ty := .int) (t := 25) (p0 := 5) (p1 := 6) (EJ_iconst (n := 0) (v := (nI 0)) (pc := 5) D_Reader_init_5 (by decide +kernel)) D_Reader_init_6 rfl (by decide) q_145 rfl) D_Reader_init_8 ⟨rfl, rfl, by decide, q_146⟩ (Or.inl rfl) (Or.inr ⟨_, rfl⟩) (fun _ _ => rfl) (show (5 : Nat) ∈ ([5, 11] : List Nat) from by decide))
 (SJ_sq (p0 := 11) (p1 := 19) (nN := 0) (nB := 0) (nC := 0) (SJ_putR (t := 5) (c := 4) (kf := 4) (r := (RX4, TX4, 9)) (p0 := 11) (p1 := 12) (p2 := 16) (EJ_aload_n (j := 0) (i := 0) (pc := 11) D_Reader_init_11 rfl) (EJ_newarr (atype := .int) (ty := .int) (t := 26) (p0 := 12) (p1 := 14) (EJ_bipush (n := 6) (v := (nI 6)) (pc := 12) D_Reader_init_12 (by decide +kernel)) D_Reader_init_14 rfl (by decide) q_145 rfl) D_Reader_init_16 ⟨rfl, rfl, by decide, q_150⟩ (Or.inr ⟨rfl, rfl⟩) (Or.inr ⟨_, rfl⟩) (fun _ _ => rfl) (show (5 : Nat) ∈ ([5, 11] : List Nat) from by decide))
 (SJ_sq (p0 := 19) (p1 := 28) (nN := 0) (nB := 0) (nC := 0) (SJ_putR (t := 5) (c := 4) (kf := 5) (r := (RX4, TX4, 9)) (p0 := 19) (p1 := 20) (p2 := 25) (EJ_aload_n (j := 0) (i := 0) (pc := 19) D_Reader_init_19 rfl) (EJ_anew (C := "TwoLevels$Rule") (t := 27) (p0 := 20) (p1 := 22) (EJ_bipush (n := 10) (v := (nI 10)) (pc := 20) D_Reader_init_20 (by decide +kernel)) D_Reader_init_22 q_121 (by decide) rfl) D_Reader_init_25 ⟨rfl, rfl, by decide, q_151⟩ (Or.inr ⟨rfl, rfl⟩) (Or.inr ⟨_, rfl⟩) (fun _ _ => rfl) (show (5 : Nat) ∈ ([5, 11] : List Nat) from by decide))
 (SJ_sq (p0 := 28) (p1 := 39) (nN := 0) (nB := 0) (nC := 0) (SJ_putR (t := 5) (c := 4) (kf := 8) (r := (RX4, TX4, 9)) (p0 := 28) (p1 := 29) (p2 := 36) (EJ_aload_n (j := 0) (i := 0) (pc := 28) D_Reader_init_28 rfl) (EJ_new (t := 11) (c := 10) (r := (RX10, TX10, 7)) (p0 := 29) (p1 := 33) D_Reader_init_29 D_Reader_init_32 AJ_nil m_Upper_init D_Reader_init_33 rfl rfl q_122 q_123 q_93 rfl rfl (Or.inr ⟨("TwoLevels$Reader", 26, yX10_init, "TwoLevels"), by simp [NWs], rfl, rfl, rfl⟩) q_124 ⟨by decide +kernel, by decide +kernel, by decide +kernel⟩ (by decide) (show 1 + 1 ≤ 2 from by decide) (show ∀ x_ ∈ ([11] : List Nat), x_ ∈ ([5, 11] : List Nat) from by decide)) D_Reader_init_36 ⟨rfl, rfl, by decide, q_154⟩ (Or.inl rfl) (Or.inl ⟨_, rfl⟩) (fun _ _ => rfl) (show (5 : Nat) ∈ ([5, 11] : List Nat) from by decide))
 (SJ_retU (pc := 39) D_Reader_init_39))))))
 RTm_void q_119 (by decide +kernel) rfl (fun _ => rfl) (show 1 ≤ 40 from by decide) (fun _ => trivial)
theorem D_Search_init_0 : decode cX7_init 0 = .ok (.aload_n 0, 1) := by decide +kernel
theorem D_Search_init_1 : decode cX7_init 1 = .ok (.invokespecial 3, 3) := by decide +kernel
theorem D_Search_init_4 : decode cX7_init 4 = .ok (.aload_n 0, 1) := by decide +kernel
theorem D_Search_init_5 : decode cX7_init 5 = .ok (.iconst (0), 1) := by decide +kernel
theorem D_Search_init_6 : decode cX7_init 6 = .ok (.newarray .long, 2) := by decide +kernel
theorem D_Search_init_8 : decode cX7_init 8 = .ok (.putfield 9, 3) := by decide +kernel
theorem D_Search_init_11 : decode cX7_init 11 = .ok (.aload_n 0, 1) := by decide +kernel
theorem D_Search_init_12 : decode cX7_init 12 = .ok (.sipush (500), 3) := by decide +kernel
theorem D_Search_init_15 : decode cX7_init 15 = .ok (.anewarray 15, 3) := by decide +kernel
theorem D_Search_init_18 : decode cX7_init 18 = .ok (.putfield 17, 3) := by decide +kernel
theorem D_Search_init_21 : decode cX7_init 21 = .ok (.aload_n 0, 1) := by decide +kernel
theorem D_Search_init_22 : decode cX7_init 22 = .ok (.aload_n 1, 1) := by decide +kernel
theorem D_Search_init_23 : decode cX7_init 23 = .ok (.putfield 21, 3) := by decide +kernel
theorem D_Search_init_26 : decode cX7_init 26 = .ok (.aload_n 0, 1) := by decide +kernel
theorem D_Search_init_27 : decode cX7_init 27 = .ok (.aload_n 2, 1) := by decide +kernel
theorem D_Search_init_28 : decode cX7_init 28 = .ok (.putfield 25, 3) := by decide +kernel
theorem D_Search_init_31 : decode cX7_init 31 = .ok (.return_, 1) := by decide +kernel
def K_Search_init : SC := (cX7_init, "TwoLevels$Search", 3, 1, true, [8], NoQ)
def d_Search_init : MD Unit := mth tt 3 (sq sObj
 (sq (sh2 (pR 8 2) (lR 0) (nA 50 (eC (nI 0))))
 (sq (sh2 (pR 8 9) (lR 0) (nA 51 (eC (nI 500))))
 (sq (sh2 (pR 8 0) (lR 0) (lR 1))
 (sq (sh2 (pR 8 3) (lR 0) (lR 2))
 rtnU)))))
theorem m_Search_init : MJ 1 [8] yX7_init none eU (d_Search_init) := MJ_of (K := K_Search_init) (ri := .return_) (n1 := 0) (n2 := 0) (n3 := 0)
 (SJ_sq (p0 := 0) (p1 := 4) (nN := 0) (nB := 0) (nC := 0) (SJ_obj (pc := 0) (idx := 3) D_Search_init_0 D_Search_init_1 q_226 q_114 q_115 (show 1 ≤ 1 from by decide))
 (SJ_sq (p0 := 4) (p1 := 11) (nN := 0) (nB := 0) (nC := 0) (SJ_putR (t := 8) (c := 7) (kf := 2) (r := (RX7, TX7, 11)) (p0 := 4) (p1 := 5) (p2 := 8) (EJ_aload_n (j := 0) (i := 0) (pc := 4) D_Search_init_4 rfl) (EJ_newarr (atype := .long) (ty := .long) (t := 50) (p0 := 5) (p1 := 6) (EJ_iconst (n := 0) (v := (nI 0)) (pc := 5) D_Search_init_5 (by decide +kernel)) D_Search_init_6 rfl (by decide) q_220 rfl) D_Search_init_8 ⟨rfl, rfl, by decide, q_230⟩ (Or.inl rfl) (Or.inr ⟨_, rfl⟩) (fun _ _ => rfl) (show (8 : Nat) ∈ ([8] : List Nat) from by decide))
 (SJ_sq (p0 := 11) (p1 := 21) (nN := 0) (nB := 0) (nC := 0) (SJ_putR (t := 8) (c := 7) (kf := 9) (r := (RX7, TX7, 11)) (p0 := 11) (p1 := 12) (p2 := 18) (EJ_aload_n (j := 0) (i := 0) (pc := 11) D_Search_init_11 rfl) (EJ_anew (C := "TwoLevels$Node") (t := 51) (p0 := 12) (p1 := 15) (EJ_sipush (n := 500) (v := (nI 500)) (pc := 12) D_Search_init_12 (by decide +kernel)) D_Search_init_15 q_227 (by decide) rfl) D_Search_init_18 ⟨rfl, rfl, by decide, q_241⟩ (Or.inr ⟨rfl, rfl⟩) (Or.inr ⟨_, rfl⟩) (fun _ _ => rfl) (show (8 : Nat) ∈ ([8] : List Nat) from by decide))
 (SJ_sq (p0 := 21) (p1 := 26) (nN := 0) (nB := 0) (nC := 0) (SJ_putR (t := 8) (c := 7) (kf := 0) (r := (RX7, TX7, 11)) (p0 := 21) (p1 := 22) (p2 := 23) (EJ_aload_n (j := 0) (i := 0) (pc := 21) D_Search_init_21 rfl) (EJ_aload_n (j := 1) (i := 1) (pc := 22) D_Search_init_22 rfl) D_Search_init_23 ⟨rfl, rfl, by decide, q_228⟩ (Or.inl rfl) (Or.inl ⟨_, rfl⟩) (fun _ _ => rfl) (show (8 : Nat) ∈ ([8] : List Nat) from by decide))
 (SJ_sq (p0 := 26) (p1 := 31) (nN := 0) (nB := 0) (nC := 0) (SJ_putR (t := 8) (c := 7) (kf := 3) (r := (RX7, TX7, 11)) (p0 := 26) (p1 := 27) (p2 := 28) (EJ_aload_n (j := 0) (i := 0) (pc := 26) D_Search_init_26 rfl) (EJ_aload_n (j := 2) (i := 2) (pc := 27) D_Search_init_27 rfl) D_Search_init_28 ⟨rfl, rfl, by decide, q_231⟩ (Or.inr ⟨rfl, rfl⟩) (Or.inr ⟨_, rfl⟩) (fun _ _ => rfl) (show (8 : Nat) ∈ ([8] : List Nat) from by decide))
 (SJ_retU (pc := 31) D_Search_init_31))))))
 RTm_void q_225 (by decide +kernel) rfl (fun _ => rfl) (show 3 ≤ 40 from by decide) (fun _ => trivial)
theorem D_TL_init_0 : decode cX11_init 0 = .ok (.aload_n 0, 1) := by decide +kernel
theorem D_TL_init_1 : decode cX11_init 1 = .ok (.invokespecial 1, 3) := by decide +kernel
theorem D_TL_init_4 : decode cX11_init 4 = .ok (.aload_n 0, 1) := by decide +kernel
theorem D_TL_init_5 : decode cX11_init 5 = .ok (.sipush (500), 3) := by decide +kernel
theorem D_TL_init_8 : decode cX11_init 8 = .ok (.newarray .int, 2) := by decide +kernel
theorem D_TL_init_10 : decode cX11_init 10 = .ok (.putfield 9, 3) := by decide +kernel
theorem D_TL_init_13 : decode cX11_init 13 = .ok (.aload_n 0, 1) := by decide +kernel
theorem D_TL_init_14 : decode cX11_init 14 = .ok (.new 13, 3) := by decide +kernel
theorem D_TL_init_17 : decode cX11_init 17 = .ok (.dup, 1) := by decide +kernel
theorem D_TL_init_18 : decode cX11_init 18 = .ok (.invokespecial 15, 3) := by decide +kernel
theorem D_TL_init_21 : decode cX11_init 21 = .ok (.putfield 16, 3) := by decide +kernel
theorem D_TL_init_24 : decode cX11_init 24 = .ok (.aload_n 0, 1) := by decide +kernel
theorem D_TL_init_25 : decode cX11_init 25 = .ok (.new 20, 3) := by decide +kernel
theorem D_TL_init_28 : decode cX11_init 28 = .ok (.dup, 1) := by decide +kernel
theorem D_TL_init_29 : decode cX11_init 29 = .ok (.new 22, 3) := by decide +kernel
theorem D_TL_init_32 : decode cX11_init 32 = .ok (.dup, 1) := by decide +kernel
theorem D_TL_init_33 : decode cX11_init 33 = .ok (.invokespecial 24, 3) := by decide +kernel
theorem D_TL_init_36 : decode cX11_init 36 = .ok (.iconst (0), 1) := by decide +kernel
theorem D_TL_init_37 : decode cX11_init 37 = .ok (.anewarray 25, 3) := by decide +kernel
theorem D_TL_init_40 : decode cX11_init 40 = .ok (.bipush (6), 2) := by decide +kernel
theorem D_TL_init_42 : decode cX11_init 42 = .ok (.iconst (2), 1) := by decide +kernel
theorem D_TL_init_43 : decode cX11_init 43 = .ok (.invokespecial 27, 3) := by decide +kernel
theorem D_TL_init_46 : decode cX11_init 46 = .ok (.putfield 30, 3) := by decide +kernel
theorem D_TL_init_49 : decode cX11_init 49 = .ok (.aload_n 0, 1) := by decide +kernel
theorem D_TL_init_50 : decode cX11_init 50 = .ok (.iconst (0), 1) := by decide +kernel
theorem D_TL_init_51 : decode cX11_init 51 = .ok (.newarray .long, 2) := by decide +kernel
theorem D_TL_init_53 : decode cX11_init 53 = .ok (.putfield 34, 3) := by decide +kernel
theorem D_TL_init_56 : decode cX11_init 56 = .ok (.aload_n 0, 1) := by decide +kernel
theorem D_TL_init_57 : decode cX11_init 57 = .ok (.bipush (8), 2) := by decide +kernel
theorem D_TL_init_59 : decode cX11_init 59 = .ok (.newarray .long, 2) := by decide +kernel
theorem D_TL_init_61 : decode cX11_init 61 = .ok (.putfield 38, 3) := by decide +kernel
theorem D_TL_init_64 : decode cX11_init 64 = .ok (.aload_n 0, 1) := by decide +kernel
theorem D_TL_init_65 : decode cX11_init 65 = .ok (.bipush (10), 2) := by decide +kernel
theorem D_TL_init_67 : decode cX11_init 67 = .ok (.anewarray 20, 3) := by decide +kernel
theorem D_TL_init_70 : decode cX11_init 70 = .ok (.putfield 41, 3) := by decide +kernel
theorem D_TL_init_73 : decode cX11_init 73 = .ok (.aload_n 0, 1) := by decide +kernel
theorem D_TL_init_74 : decode cX11_init 74 = .ok (.iconst (2), 1) := by decide +kernel
theorem D_TL_init_75 : decode cX11_init 75 = .ok (.anewarray 45, 3) := by decide +kernel
theorem D_TL_init_78 : decode cX11_init 78 = .ok (.putfield 47, 3) := by decide +kernel
theorem D_TL_init_81 : decode cX11_init 81 = .ok (.aload_n 0, 1) := by decide +kernel
theorem D_TL_init_82 : decode cX11_init 82 = .ok (.new 51, 3) := by decide +kernel
theorem D_TL_init_85 : decode cX11_init 85 = .ok (.dup, 1) := by decide +kernel
theorem D_TL_init_86 : decode cX11_init 86 = .ok (.aload_n 0, 1) := by decide +kernel
theorem D_TL_init_87 : decode cX11_init 87 = .ok (.getfield 30, 3) := by decide +kernel
theorem D_TL_init_90 : decode cX11_init 90 = .ok (.getfield 53, 3) := by decide +kernel
theorem D_TL_init_93 : decode cX11_init 93 = .ok (.invokespecial 57, 3) := by decide +kernel
theorem D_TL_init_96 : decode cX11_init 96 = .ok (.putfield 60, 3) := by decide +kernel
theorem D_TL_init_99 : decode cX11_init 99 = .ok (.aload_n 0, 1) := by decide +kernel
theorem D_TL_init_100 : decode cX11_init 100 = .ok (.bipush (-4), 2) := by decide +kernel
theorem D_TL_init_102 : decode cX11_init 102 = .ok (.putfield 64, 3) := by decide +kernel
theorem D_TL_init_105 : decode cX11_init 105 = .ok (.aload_n 0, 1) := by decide +kernel
theorem D_TL_init_106 : decode cX11_init 106 = .ok (.bipush (-4), 2) := by decide +kernel
theorem D_TL_init_108 : decode cX11_init 108 = .ok (.putfield 68, 3) := by decide +kernel
theorem D_TL_init_111 : decode cX11_init 111 = .ok (.aload_n 0, 1) := by decide +kernel
theorem D_TL_init_112 : decode cX11_init 112 = .ok (.bipush (-4), 2) := by decide +kernel
theorem D_TL_init_114 : decode cX11_init 114 = .ok (.putfield 71, 3) := by decide +kernel
theorem D_TL_init_117 : decode cX11_init 117 = .ok (.bipush (12), 2) := by decide +kernel
theorem D_TL_init_119 : decode cX11_init 119 = .ok (.anewarray 51, 3) := by decide +kernel
theorem D_TL_init_122 : decode cX11_init 122 = .ok (.astore_n 1, 1) := by decide +kernel
theorem D_TL_init_123 : decode cX11_init 123 = .ok (.iconst (0), 1) := by decide +kernel
theorem D_TL_init_124 : decode cX11_init 124 = .ok (.istore_n 2, 1) := by decide +kernel
theorem D_TL_init_125 : decode cX11_init 125 = .ok (.iload_n 2, 1) := by decide +kernel
theorem D_TL_init_126 : decode cX11_init 126 = .ok (.bipush (12), 2) := by decide +kernel
theorem D_TL_init_128 : decode cX11_init 128 = .ok (.if_icmp .ge (26), 3) := by decide +kernel
theorem D_TL_init_131 : decode cX11_init 131 = .ok (.aload_n 1, 1) := by decide +kernel
theorem D_TL_init_132 : decode cX11_init 132 = .ok (.iload_n 2, 1) := by decide +kernel
theorem D_TL_init_133 : decode cX11_init 133 = .ok (.new 51, 3) := by decide +kernel
theorem D_TL_init_136 : decode cX11_init 136 = .ok (.dup, 1) := by decide +kernel
theorem D_TL_init_137 : decode cX11_init 137 = .ok (.aload_n 0, 1) := by decide +kernel
theorem D_TL_init_138 : decode cX11_init 138 = .ok (.getfield 30, 3) := by decide +kernel
theorem D_TL_init_141 : decode cX11_init 141 = .ok (.getfield 53, 3) := by decide +kernel
theorem D_TL_init_144 : decode cX11_init 144 = .ok (.invokespecial 57, 3) := by decide +kernel
theorem D_TL_init_147 : decode cX11_init 147 = .ok (.aastore, 1) := by decide +kernel
theorem D_TL_init_148 : decode cX11_init 148 = .ok (.iinc 2 (1), 3) := by decide +kernel
theorem D_TL_init_151 : decode cX11_init 151 = .ok (.goto (-26), 3) := by decide +kernel
theorem D_TL_init_154 : decode cX11_init 154 = .ok (.aload_n 0, 1) := by decide +kernel
theorem D_TL_init_155 : decode cX11_init 155 = .ok (.new 74, 3) := by decide +kernel
theorem D_TL_init_158 : decode cX11_init 158 = .ok (.dup, 1) := by decide +kernel
theorem D_TL_init_159 : decode cX11_init 159 = .ok (.aload_n 0, 1) := by decide +kernel
theorem D_TL_init_160 : decode cX11_init 160 = .ok (.getfield 30, 3) := by decide +kernel
theorem D_TL_init_163 : decode cX11_init 163 = .ok (.aload_n 1, 1) := by decide +kernel
theorem D_TL_init_164 : decode cX11_init 164 = .ok (.invokespecial 76, 3) := by decide +kernel
theorem D_TL_init_167 : decode cX11_init 167 = .ok (.putfield 79, 3) := by decide +kernel
theorem D_TL_init_170 : decode cX11_init 170 = .ok (.aload_n 0, 1) := by decide +kernel
theorem D_TL_init_171 : decode cX11_init 171 = .ok (.new 74, 3) := by decide +kernel
theorem D_TL_init_174 : decode cX11_init 174 = .ok (.dup, 1) := by decide +kernel
theorem D_TL_init_175 : decode cX11_init 175 = .ok (.aload_n 0, 1) := by decide +kernel
theorem D_TL_init_176 : decode cX11_init 176 = .ok (.getfield 30, 3) := by decide +kernel
theorem D_TL_init_179 : decode cX11_init 179 = .ok (.aload_n 1, 1) := by decide +kernel
theorem D_TL_init_180 : decode cX11_init 180 = .ok (.invokespecial 76, 3) := by decide +kernel
theorem D_TL_init_183 : decode cX11_init 183 = .ok (.putfield 83, 3) := by decide +kernel
theorem D_TL_init_186 : decode cX11_init 186 = .ok (.return_, 1) := by decide +kernel
def K_TL_init : SC := (cX11_init, "TwoLevels", 3, 3, true, [3, 5, 8, 10, 11, 12, 52], NoQ)
def d_TL_init : MD Unit := mth tt 3 (sq sObj
 (sq (sh2 (pR 12 0) (lR 0) (nA 20 (eC (nI 500))))
 (sq (sh2 (pR 12 2) (lR 0) (kN 5 9 d_Reader_init []))
 (sq (sh2 (pR 12 3) (lR 0) (kN 10 4 d_State_init [vR (kN 11 7 d_Upper_init []), vR (nA 28 (eC (nI 0))), vI (eC (nI 6)), vI (eC (nI 2))]))
 (sq (sh2 (pR 12 5) (lR 0) (nA 21 (eC (nI 0))))
 (sq (sh2 (pR 12 6) (lR 0) (nA 22 (eC (nI 8))))
 (sq (sh2 (pR 12 7) (lR 0) (nA 23 (eC (nI 10))))
 (sq (sh2 (pR 12 9) (lR 0) (nA 24 (eC (nI 2))))
 (sq (sh2 (pR 12 10) (lR 0) (kN 3 12 d_Fit_init [vR (eh1 (gR 10 0) (eh1 (gR 12 3) (lR 0)))]))
 (sq (sh2 (pI false 12 13) (lR 0) (eC (-4)))
 (sq (sh2 (pI false 12 14) (lR 0) (eC (-4)))
 (sq (sh2 (pI false 12 15) (lR 0) (eC (-4)))
 (sq (sR1 1 (nA 52 (eC (nI 12))))
 (sq (sq (sI1 2 (eC (nI 0)))
 (loop (eh2 c_lt (lI 2) (eC (nI 12)))
 (sh3 (stO [52] "TwoLevels$Fit" 3) (lR 1) (lI 2) (kN 3 12 d_Fit_init [vR (eh1 (gR 10 0) (eh1 (gR 12 3) (lR 0)))]))
 (sInc 2 (nI 1))))
 (sq (sh2 (pR 12 11) (lR 0) (kN 8 11 d_Search_init [vR (eh1 (gR 12 3) (lR 0)), vR (lR 1)]))
 (sq (sh2 (pR 12 12) (lR 0) (kN 8 11 d_Search_init [vR (eh1 (gR 12 3) (lR 0)), vR (lR 1)]))
 rtnU))))))))))))))))
theorem m_TL_init : MJ 3 [3, 5, 8, 10, 11, 12, 52] yX11_init none eU (d_TL_init) := MJ_of (K := K_TL_init) (ri := .return_) (n1 := 0) (n2 := 0) (n3 := 0)
 (SJ_sq (p0 := 0) (p1 := 4) (nN := 0) (nB := 0) (nC := 0) (SJ_obj (pc := 0) (idx := 1) D_TL_init_0 D_TL_init_1 q_113 q_114 q_115 (show 1 ≤ 3 from by decide))
 (SJ_sq (p0 := 4) (p1 := 13) (nN := 0) (nB := 0) (nC := 0) (SJ_putR (t := 12) (c := 11) (kf := 0) (r := (RX11, TX11, 16)) (p0 := 4) (p1 := 5) (p2 := 10) (EJ_aload_n (j := 0) (i := 0) (pc := 4) D_TL_init_4 rfl) (EJ_newarr (atype := .int) (ty := .int) (t := 20) (p0 := 5) (p1 := 8) (EJ_sipush (n := 500) (v := (nI 500)) (pc := 5) D_TL_init_5 (by decide +kernel)) D_TL_init_8 rfl (by decide) q_145 rfl) D_TL_init_10 ⟨rfl, rfl, by decide, q_255⟩ (Or.inr ⟨rfl, rfl⟩) (Or.inr ⟨_, rfl⟩) (fun _ _ => rfl) (show (12 : Nat) ∈ ([3, 5, 8, 10, 11, 12, 52] : List Nat) from by decide))
 (SJ_sq (p0 := 13) (p1 := 24) (nN := 0) (nB := 0) (nC := 0) (SJ_putR (t := 12) (c := 11) (kf := 2) (r := (RX11, TX11, 16)) (p0 := 13) (p1 := 14) (p2 := 21) (EJ_aload_n (j := 0) (i := 0) (pc := 13) D_TL_init_13 rfl) (EJ_new (t := 5) (c := 4) (r := (RX4, TX4, 9)) (p0 := 14) (p1 := 18) D_TL_init_14 D_TL_init_17 AJ_nil m_Reader_init D_TL_init_18 rfl rfl q_116 q_117 q_92 rfl rfl (Or.inr ⟨("TwoLevels", 15, yX4_init, "TwoLevels"), by simp [NWs], rfl, rfl, rfl⟩) q_118 ⟨by decide +kernel, by decide +kernel, by decide +kernel⟩ (by decide) (show 2 + 1 ≤ 3 from by decide) (show ∀ x_ ∈ ([5, 11] : List Nat), x_ ∈ ([3, 5, 8, 10, 11, 12, 52] : List Nat) from by decide)) D_TL_init_21 ⟨rfl, rfl, by decide, q_257⟩ (Or.inr ⟨rfl, rfl⟩) (Or.inl ⟨_, rfl⟩) (fun _ _ => rfl) (show (12 : Nat) ∈ ([3, 5, 8, 10, 11, 12, 52] : List Nat) from by decide))
 (SJ_sq (p0 := 24) (p1 := 49) (nN := 0) (nB := 0) (nC := 0) (SJ_putR (t := 12) (c := 11) (kf := 3) (r := (RX11, TX11, 16)) (p0 := 24) (p1 := 25) (p2 := 46) (EJ_aload_n (j := 0) (i := 0) (pc := 24) D_TL_init_24 rfl) (EJ_new (t := 10) (c := 9) (r := (RX9, TX9, 4)) (p0 := 25) (p1 := 43) D_TL_init_25 D_TL_init_28 (AJ_R (p0 := 29) (p1 := 36) (p2 := 43) (EJ_new (t := 11) (c := 10) (r := (RX10, TX10, 7)) (p0 := 29) (p1 := 33) D_TL_init_29 D_TL_init_32 AJ_nil m_Upper_init D_TL_init_33 rfl rfl q_167 q_123 q_93 rfl rfl (Or.inr ⟨("TwoLevels", 24, yX10_init, "TwoLevels"), by simp [NWs], rfl, rfl, rfl⟩) q_124 ⟨by decide +kernel, by decide +kernel, by decide +kernel⟩ (by decide) (show 1 + 1 ≤ 3 from by decide) (show ∀ x_ ∈ ([11] : List Nat), x_ ∈ ([3, 5, 8, 10, 11, 12, 52] : List Nat) from by decide)) (AJ_R (p0 := 36) (p1 := 40) (p2 := 43) (EJ_anew (C := "TwoLevels$Rule") (t := 28) (p0 := 36) (p1 := 37) (EJ_iconst (n := 0) (v := (nI 0)) (pc := 36) D_TL_init_36 (by decide +kernel)) D_TL_init_37 q_168 (by decide) rfl) (AJ_I (p0 := 40) (p1 := 42) (p2 := 43) (EJ_bipush (n := 6) (v := (nI 6)) (pc := 40) D_TL_init_40 (by decide +kernel)) (AJ_I (p0 := 42) (p1 := 43) (p2 := 43) (EJ_iconst (n := 2) (v := (nI 2)) (pc := 42) D_TL_init_42 (by decide +kernel)) AJ_nil)))) m_State_init D_TL_init_43 rfl rfl q_165 q_166 q_94 rfl rfl (Or.inl q_169) q_170 ⟨by decide +kernel, by decide +kernel, by decide +kernel⟩ (by decide) (show 1 + 1 ≤ 3 from by decide) (show ∀ x_ ∈ ([10] : List Nat), x_ ∈ ([3, 5, 8, 10, 11, 12, 52] : List Nat) from by decide)) D_TL_init_46 ⟨rfl, rfl, by decide, q_258⟩ (Or.inl rfl) (Or.inl ⟨_, rfl⟩) (fun _ _ => rfl) (show (12 : Nat) ∈ ([3, 5, 8, 10, 11, 12, 52] : List Nat) from by decide))
 (SJ_sq (p0 := 49) (p1 := 56) (nN := 0) (nB := 0) (nC := 0) (SJ_putR (t := 12) (c := 11) (kf := 5) (r := (RX11, TX11, 16)) (p0 := 49) (p1 := 50) (p2 := 53) (EJ_aload_n (j := 0) (i := 0) (pc := 49) D_TL_init_49 rfl) (EJ_newarr (atype := .long) (ty := .long) (t := 21) (p0 := 50) (p1 := 51) (EJ_iconst (n := 0) (v := (nI 0)) (pc := 50) D_TL_init_50 (by decide +kernel)) D_TL_init_51 rfl (by decide) q_220 rfl) D_TL_init_53 ⟨rfl, rfl, by decide, q_260⟩ (Or.inl rfl) (Or.inr ⟨_, rfl⟩) (fun _ _ => rfl) (show (12 : Nat) ∈ ([3, 5, 8, 10, 11, 12, 52] : List Nat) from by decide))
 (SJ_sq (p0 := 56) (p1 := 64) (nN := 0) (nB := 0) (nC := 0) (SJ_putR (t := 12) (c := 11) (kf := 6) (r := (RX11, TX11, 16)) (p0 := 56) (p1 := 57) (p2 := 61) (EJ_aload_n (j := 0) (i := 0) (pc := 56) D_TL_init_56 rfl) (EJ_newarr (atype := .long) (ty := .long) (t := 22) (p0 := 57) (p1 := 59) (EJ_bipush (n := 8) (v := (nI 8)) (pc := 57) D_TL_init_57 (by decide +kernel)) D_TL_init_59 rfl (by decide) q_220 rfl) D_TL_init_61 ⟨rfl, rfl, by decide, q_261⟩ (Or.inr ⟨rfl, rfl⟩) (Or.inr ⟨_, rfl⟩) (fun _ _ => rfl) (show (12 : Nat) ∈ ([3, 5, 8, 10, 11, 12, 52] : List Nat) from by decide))
 (SJ_sq (p0 := 64) (p1 := 73) (nN := 0) (nB := 0) (nC := 0) (SJ_putR (t := 12) (c := 11) (kf := 7) (r := (RX11, TX11, 16)) (p0 := 64) (p1 := 65) (p2 := 70) (EJ_aload_n (j := 0) (i := 0) (pc := 64) D_TL_init_64 rfl) (EJ_anew (C := "TwoLevels$State") (t := 23) (p0 := 65) (p1 := 67) (EJ_bipush (n := 10) (v := (nI 10)) (pc := 65) D_TL_init_65 (by decide +kernel)) D_TL_init_67 q_165 (by decide) rfl) D_TL_init_70 ⟨rfl, rfl, by decide, q_262⟩ (Or.inr ⟨rfl, rfl⟩) (Or.inr ⟨_, rfl⟩) (fun _ _ => rfl) (show (12 : Nat) ∈ ([3, 5, 8, 10, 11, 12, 52] : List Nat) from by decide))
 (SJ_sq (p0 := 73) (p1 := 81) (nN := 0) (nB := 0) (nC := 0) (SJ_putR (t := 12) (c := 11) (kf := 9) (r := (RX11, TX11, 16)) (p0 := 73) (p1 := 74) (p2 := 78) (EJ_aload_n (j := 0) (i := 0) (pc := 73) D_TL_init_73 rfl) (EJ_anew (C := "TwoLevels$Shelf") (t := 24) (p0 := 74) (p1 := 75) (EJ_iconst (n := 2) (v := (nI 2)) (pc := 74) D_TL_init_74 (by decide +kernel)) D_TL_init_75 q_188 (by decide) rfl) D_TL_init_78 ⟨rfl, rfl, by decide, q_264⟩ (Or.inr ⟨rfl, rfl⟩) (Or.inr ⟨_, rfl⟩) (fun _ _ => rfl) (show (12 : Nat) ∈ ([3, 5, 8, 10, 11, 12, 52] : List Nat) from by decide))
 (SJ_sq (p0 := 81) (p1 := 99) (nN := 0) (nB := 0) (nC := 0) (SJ_putR (t := 12) (c := 11) (kf := 10) (r := (RX11, TX11, 16)) (p0 := 81) (p1 := 82) (p2 := 96) (EJ_aload_n (j := 0) (i := 0) (pc := 81) D_TL_init_81 rfl) (EJ_new (t := 3) (c := 2) (r := (RX2, TX2, 12)) (p0 := 82) (p1 := 93) D_TL_init_82 D_TL_init_85 (AJ_R (p0 := 86) (p1 := 93) (p2 := 93) (EJ_getR (t := 10) (c := 9) (kf := 0) (r := (RX9, TX9, 4)) (p0 := 86) (p1 := 90) (EJ_getR (t := 12) (c := 11) (kf := 3) (r := (RX11, TX11, 16)) (p0 := 86) (p1 := 87) (EJ_aload_n (j := 0) (i := 0) (pc := 86) D_TL_init_86 rfl) D_TL_init_87 ⟨rfl, rfl, by decide, q_258⟩ (fun _ _ => rfl)) D_TL_init_90 ⟨rfl, rfl, by decide, q_174⟩ (fun _ _ => rfl)) AJ_nil) m_Fit_init D_TL_init_93 rfl rfl q_189 q_190 q_95 rfl rfl (Or.inl q_191) q_192 ⟨by decide +kernel, by decide +kernel, by decide +kernel⟩ (by decide) (show 1 + 1 ≤ 3 from by decide) (show ∀ x_ ∈ ([3] : List Nat), x_ ∈ ([3, 5, 8, 10, 11, 12, 52] : List Nat) from by decide)) D_TL_init_96 ⟨rfl, rfl, by decide, q_265⟩ (Or.inr ⟨rfl, rfl⟩) (Or.inl ⟨_, rfl⟩) (fun _ _ => rfl) (show (12 : Nat) ∈ ([3, 5, 8, 10, 11, 12, 52] : List Nat) from by decide))
 (SJ_sq (p0 := 99) (p1 := 105) (nN := 0) (nB := 0) (nC := 0) (SJ_putI (z := false) (t := 12) (c := 11) (kf := 13) (r := (RX11, TX11, 16)) (p0 := 99) (p1 := 100) (p2 := 102) (EJ_aload_n (j := 0) (i := 0) (pc := 99) D_TL_init_99 rfl) (EJ_bipush (n := -4) (v := (-4)) (pc := 100) D_TL_init_100 (by decide +kernel)) D_TL_init_102 ⟨rfl, rfl, by decide, q_268⟩ (Or.inl rfl) (fun _ _ => ⟨rfl, rfl⟩) (fun _ _ => rfl) (show (12 : Nat) ∈ ([3, 5, 8, 10, 11, 12, 52] : List Nat) from by decide))
 (SJ_sq (p0 := 105) (p1 := 111) (nN := 0) (nB := 0) (nC := 0) (SJ_putI (z := false) (t := 12) (c := 11) (kf := 14) (r := (RX11, TX11, 16)) (p0 := 105) (p1 := 106) (p2 := 108) (EJ_aload_n (j := 0) (i := 0) (pc := 105) D_TL_init_105 rfl) (EJ_bipush (n := -4) (v := (-4)) (pc := 106) D_TL_init_106 (by decide +kernel)) D_TL_init_108 ⟨rfl, rfl, by decide, q_269⟩ (Or.inl rfl) (fun _ _ => ⟨rfl, rfl⟩) (fun _ _ => rfl) (show (12 : Nat) ∈ ([3, 5, 8, 10, 11, 12, 52] : List Nat) from by decide))
 (SJ_sq (p0 := 111) (p1 := 117) (nN := 0) (nB := 0) (nC := 0) (SJ_putI (z := false) (t := 12) (c := 11) (kf := 15) (r := (RX11, TX11, 16)) (p0 := 111) (p1 := 112) (p2 := 114) (EJ_aload_n (j := 0) (i := 0) (pc := 111) D_TL_init_111 rfl) (EJ_bipush (n := -4) (v := (-4)) (pc := 112) D_TL_init_112 (by decide +kernel)) D_TL_init_114 ⟨rfl, rfl, by decide, q_270⟩ (Or.inl rfl) (fun _ _ => ⟨rfl, rfl⟩) (fun _ _ => rfl) (show (12 : Nat) ∈ ([3, 5, 8, 10, 11, 12, 52] : List Nat) from by decide))
 (SJ_sq (p0 := 117) (p1 := 123) (nN := 0) (nB := 0) (nC := 0) (SJ_astore_n (i := 1) (j := 1) (p0 := 117) (p1 := 122) (EJ_anew (C := "TwoLevels$Fit") (t := 52) (p0 := 117) (p1 := 119) (EJ_bipush (n := 12) (v := (nI 12)) (pc := 117) D_TL_init_117 (by decide +kernel)) D_TL_init_119 q_189 (by decide) rfl) D_TL_init_122 rfl)
 (SJ_sq (p0 := 123) (p1 := 154) (nN := 0) (nB := 0) (nC := 0) (SJ_sq (p0 := 123) (p1 := 125) (nN := 154) (nB := 0) (nC := 0) (SJ_istore_n (i := 2) (j := 2) (p0 := 123) (p1 := 124) (EJ_iconst (n := 0) (v := (nI 0)) (pc := 123) D_TL_init_123 (by decide +kernel)) D_TL_init_124 rfl)
 (SJ_loop (p0 := 125) (pB := 131) (pS := 148) (pE := 154) (CJ_lt' (off := 26) (tgt := 154) (p0 := 125) (p1 := 126) (p2 := 128) (EJ_iload_n (j := 2) (i := 2) (pc := 125) D_TL_init_125 rfl) (EJ_bipush (n := 12) (v := (nI 12)) (pc := 126) D_TL_init_126 (by decide +kernel)) D_TL_init_128 rfl)
 (SJ_oast (tv := 3) (cv := 2) (r := (RX2, TX2, 12)) (ws := [52]) (p0 := 131) (p1 := 132) (p2 := 133) (p3 := 147) (EJ_aload_n (j := 1) (i := 1) (pc := 131) D_TL_init_131 rfl) (EJ_iload_n (j := 2) (i := 2) (pc := 132) D_TL_init_132 rfl) (EJ_new (t := 3) (c := 2) (r := (RX2, TX2, 12)) (p0 := 133) (p1 := 144) D_TL_init_133 D_TL_init_136 (AJ_R (p0 := 137) (p1 := 144) (p2 := 144) (EJ_getR (t := 10) (c := 9) (kf := 0) (r := (RX9, TX9, 4)) (p0 := 137) (p1 := 141) (EJ_getR (t := 12) (c := 11) (kf := 3) (r := (RX11, TX11, 16)) (p0 := 137) (p1 := 138) (EJ_aload_n (j := 0) (i := 0) (pc := 137) D_TL_init_137 rfl) D_TL_init_138 ⟨rfl, rfl, by decide, q_258⟩ (fun _ _ => rfl)) D_TL_init_141 ⟨rfl, rfl, by decide, q_174⟩ (fun _ _ => rfl)) AJ_nil) m_Fit_init D_TL_init_144 rfl rfl q_189 q_190 q_95 rfl rfl (Or.inl q_191) q_192 ⟨by decide +kernel, by decide +kernel, by decide +kernel⟩ (by decide) (show 1 + 1 ≤ 3 from by decide) (show ∀ x_ ∈ ([3] : List Nat), x_ ∈ ([3, 5, 8, 10, 11, 12, 52] : List Nat) from by decide)) D_TL_init_147 rfl rfl rfl (show ∀ x_ ∈ ([52] : List Nat), x_ ∈ ([3, 5, 8, 10, 11, 12, 52] : List Nat) from by decide))
 (SJ_post (SJ_iinc (i := 2) (n := 1) (v := (nI 1)) (pc := 148) D_TL_init_148 (by decide +kernel)) (Lead.goto (K := K_TL_init) (pc := 151) (tgt := 125) D_TL_init_151 rfl))))
 (SJ_sq (p0 := 154) (p1 := 170) (nN := 0) (nB := 0) (nC := 0) (SJ_putR (t := 12) (c := 11) (kf := 11) (r := (RX11, TX11, 16)) (p0 := 154) (p1 := 155) (p2 := 167) (EJ_aload_n (j := 0) (i := 0) (pc := 154) D_TL_init_154 rfl) (EJ_new (t := 8) (c := 7) (r := (RX7, TX7, 11)) (p0 := 155) (p1 := 164) D_TL_init_155 D_TL_init_158 (AJ_R (p0 := 159) (p1 := 163) (p2 := 164) (EJ_getR (t := 12) (c := 11) (kf := 3) (r := (RX11, TX11, 16)) (p0 := 159) (p1 := 160) (EJ_aload_n (j := 0) (i := 0) (pc := 159) D_TL_init_159 rfl) D_TL_init_160 ⟨rfl, rfl, by decide, q_258⟩ (fun _ _ => rfl)) (AJ_R (p0 := 163) (p1 := 164) (p2 := 164) (EJ_aload_n (j := 1) (i := 1) (pc := 163) D_TL_init_163 rfl) AJ_nil)) m_Search_init D_TL_init_164 rfl rfl q_221 q_222 q_96 rfl rfl (Or.inl q_223) q_224 ⟨by decide +kernel, by decide +kernel, by decide +kernel⟩ (by decide) (show 1 + 1 ≤ 3 from by decide) (show ∀ x_ ∈ ([8] : List Nat), x_ ∈ ([3, 5, 8, 10, 11, 12, 52] : List Nat) from by decide)) D_TL_init_167 ⟨rfl, rfl, by decide, q_266⟩ (Or.inr ⟨rfl, rfl⟩) (Or.inl ⟨_, rfl⟩) (fun _ _ => rfl) (show (12 : Nat) ∈ ([3, 5, 8, 10, 11, 12, 52] : List Nat) from by decide))
 (SJ_sq (p0 := 170) (p1 := 186) (nN := 0) (nB := 0) (nC := 0) (SJ_putR (t := 12) (c := 11) (kf := 12) (r := (RX11, TX11, 16)) (p0 := 170) (p1 := 171) (p2 := 183) (EJ_aload_n (j := 0) (i := 0) (pc := 170) D_TL_init_170 rfl) (EJ_new (t := 8) (c := 7) (r := (RX7, TX7, 11)) (p0 := 171) (p1 := 180) D_TL_init_171 D_TL_init_174 (AJ_R (p0 := 175) (p1 := 179) (p2 := 180) (EJ_getR (t := 12) (c := 11) (kf := 3) (r := (RX11, TX11, 16)) (p0 := 175) (p1 := 176) (EJ_aload_n (j := 0) (i := 0) (pc := 175) D_TL_init_175 rfl) D_TL_init_176 ⟨rfl, rfl, by decide, q_258⟩ (fun _ _ => rfl)) (AJ_R (p0 := 179) (p1 := 180) (p2 := 180) (EJ_aload_n (j := 1) (i := 1) (pc := 179) D_TL_init_179 rfl) AJ_nil)) m_Search_init D_TL_init_180 rfl rfl q_221 q_222 q_96 rfl rfl (Or.inl q_223) q_224 ⟨by decide +kernel, by decide +kernel, by decide +kernel⟩ (by decide) (show 1 + 1 ≤ 3 from by decide) (show ∀ x_ ∈ ([8] : List Nat), x_ ∈ ([3, 5, 8, 10, 11, 12, 52] : List Nat) from by decide)) D_TL_init_183 ⟨rfl, rfl, by decide, q_267⟩ (Or.inr ⟨rfl, rfl⟩) (Or.inl ⟨_, rfl⟩) (fun _ _ => rfl) (show (12 : Nat) ∈ ([3, 5, 8, 10, 11, 12, 52] : List Nat) from by decide))
 (SJ_retU (pc := 186) D_TL_init_186)))))))))))))))))
 RTm_void q_112 (by decide +kernel) rfl (fun _ => rfl) (show 3 ≤ 40 from by decide) (fun _ => trivial)
theorem D_TL_spans_0 : decode cX11_spans 0 = .ok (.aload_n 0, 1) := by decide +kernel
theorem D_TL_spans_1 : decode cX11_spans 1 = .ok (.getfield 30, 3) := by decide +kernel
theorem D_TL_spans_4 : decode cX11_spans 4 = .ok (.getfield 53, 3) := by decide +kernel
theorem D_TL_spans_7 : decode cX11_spans 7 = .ok (.iload_n 1, 1) := by decide +kernel
theorem D_TL_spans_8 : decode cX11_spans 8 = .ok (.invokevirtual 182, 3) := by decide +kernel
theorem D_TL_spans_11 : decode cX11_spans 11 = .ok (.istore 4, 2) := by decide +kernel
theorem D_TL_spans_13 : decode cX11_spans 13 = .ok (.iload 4, 2) := by decide +kernel
theorem D_TL_spans_15 : decode cX11_spans 15 = .ok (.iconst (-1), 1) := by decide +kernel
theorem D_TL_spans_16 : decode cX11_spans 16 = .ok (.if_icmp .ne (5), 3) := by decide +kernel
theorem D_TL_spans_19 : decode cX11_spans 19 = .ok (.iconst (-1), 1) := by decide +kernel
theorem D_TL_spans_20 : decode cX11_spans 20 = .ok (.ireturn, 1) := by decide +kernel
theorem D_TL_spans_21 : decode cX11_spans 21 = .ok (.aload_n 0, 1) := by decide +kernel
theorem D_TL_spans_22 : decode cX11_spans 22 = .ok (.getfield 60, 3) := by decide +kernel
theorem D_TL_spans_25 : decode cX11_spans 25 = .ok (.aload_n 0, 1) := by decide +kernel
theorem D_TL_spans_26 : decode cX11_spans 26 = .ok (.getfield 30, 3) := by decide +kernel
theorem D_TL_spans_29 : decode cX11_spans 29 = .ok (.getfield 53, 3) := by decide +kernel
theorem D_TL_spans_32 : decode cX11_spans 32 = .ok (.aload_n 0, 1) := by decide +kernel
theorem D_TL_spans_33 : decode cX11_spans 33 = .ok (.getfield 108, 3) := by decide +kernel
theorem D_TL_spans_36 : decode cX11_spans 36 = .ok (.invokevirtual 208, 3) := by decide +kernel
theorem D_TL_spans_39 : decode cX11_spans 39 = .ok (.aload_n 0, 1) := by decide +kernel
theorem D_TL_spans_40 : decode cX11_spans 40 = .ok (.getfield 60, 3) := by decide +kernel
theorem D_TL_spans_43 : decode cX11_spans 43 = .ok (.iload 4, 2) := by decide +kernel
theorem D_TL_spans_45 : decode cX11_spans 45 = .ok (.iload_n 2, 1) := by decide +kernel
theorem D_TL_spans_46 : decode cX11_spans 46 = .ok (.iload_n 2, 1) := by decide +kernel
theorem D_TL_spans_47 : decode cX11_spans 47 = .ok (.iload_n 3, 1) := by decide +kernel
theorem D_TL_spans_48 : decode cX11_spans 48 = .ok (.iadd, 1) := by decide +kernel
theorem D_TL_spans_49 : decode cX11_spans 49 = .ok (.invokevirtual 212, 3) := by decide +kernel
theorem D_TL_spans_52 : decode cX11_spans 52 = .ok (.ifCond .eq (7), 3) := by decide +kernel
theorem D_TL_spans_55 : decode cX11_spans 55 = .ok (.iconst (1), 1) := by decide +kernel
theorem D_TL_spans_56 : decode cX11_spans 56 = .ok (.goto (4), 3) := by decide +kernel
theorem D_TL_spans_59 : decode cX11_spans 59 = .ok (.iconst (0), 1) := by decide +kernel
theorem D_TL_spans_60 : decode cX11_spans 60 = .ok (.ireturn, 1) := by decide +kernel
def K_TL_spans : SC := (cX11_spans, "TwoLevels", 5, 5, false, [3, 43, 44, 46], NoQ)
def d_TL_spans : MD Int32 := mth tt 5 (sq (sI1 4 (kV 11 d_Upper_slotOf (eh1 (gR 10 0) (eh1 (gR 12 3) (lR 0))) [vI (lI 1)]))
 (sq (sIf (eh2 c_eq (lI 4) (eC (-1))) (rtn (eC (-1))) sk)
 (sq (sE (kV 3 d_Fit_load (eh1 (gR 12 10) (lR 0)) [vR (eh1 (gR 10 0) (eh1 (gR 12 3) (lR 0))), vJ (eh1 (gJ 12 4) (lR 0))]))
 (rtn (eIf (eh1 z_ne (kV 3 d_Fit_isWord (eh1 (gR 12 10) (lR 0)) [vI (lI 4), vI (lI 2), vI (eh2 iaddF (lI 2) (lI 3))])) (eC (nI 1)) (eC (nI 0)))))))
theorem m_TL_spans : MJ 5 [3, 43, 44, 46] yX11_spans (some .int) eI (d_TL_spans) := MJ_of (K := K_TL_spans) (ri := .ireturn) (n1 := 0) (n2 := 0) (n3 := 0)
 (SJ_sq (p0 := 0) (p1 := 13) (nN := 0) (nB := 0) (nC := 0) (SJ_istore (i := 4) (p0 := 0) (p1 := 11) (EJ_callV (t := 11) (c := 10) (r := (RX10, TX10, 7)) (p0 := 0) (p1 := 7) (p2 := 8) (EJ_getR (t := 10) (c := 9) (kf := 0) (r := (RX9, TX9, 4)) (p0 := 0) (p1 := 4) (EJ_getR (t := 12) (c := 11) (kf := 3) (r := (RX11, TX11, 16)) (p0 := 0) (p1 := 1) (EJ_aload_n (j := 0) (i := 0) (pc := 0) D_TL_spans_0 rfl) D_TL_spans_1 ⟨rfl, rfl, by decide, q_258⟩ (fun _ _ => rfl)) D_TL_spans_4 ⟨rfl, rfl, by decide, q_174⟩ (fun _ _ => rfl)) (AJ_I (p0 := 7) (p1 := 8) (p2 := 8) (EJ_iload_n (j := 1) (i := 1) (pc := 7) D_TL_spans_7 rfl) AJ_nil) m_Upper_slotOf E1_I D_TL_spans_8 rfl rfl rfl q_624 q_625 q_626 q_93 ⟨by decide +kernel, by decide +kernel, by decide +kernel⟩ (by decide) (show 1 + 1 ≤ 5 from by decide) (fun _ h => absurd h List.not_mem_nil)) D_TL_spans_11)
 (SJ_sq (p0 := 13) (p1 := 21) (nN := 0) (nB := 0) (nC := 0) (SJ_if (p0 := 13) (pT := 19) (pF := 21) (nN := 21) (nB := 0) (nC := 0) (CJ_eq' (off := 5) (tgt := 21) (p0 := 13) (p1 := 15) (p2 := 16) (EJ_iload (i := 4) (pc := 13) D_TL_spans_13) (EJ_iconst (n := -1) (v := (-1)) (pc := 15) D_TL_spans_15 (by decide +kernel)) D_TL_spans_16 rfl) (SJ_ret (p0 := 19) (p1 := 20) (EJ_iconst (n := -1) (v := (-1)) (pc := 19) D_TL_spans_19 (by decide +kernel)) D_TL_spans_20) SJ_sk)
 (SJ_sq (p0 := 21) (p1 := 39) (nN := 0) (nB := 0) (nC := 0) (SJ_void (p0 := 21) (p1 := 39) (EJ_callV (t := 3) (c := 2) (r := (RX2, TX2, 12)) (p0 := 21) (p1 := 25) (p2 := 36) (EJ_getR (t := 12) (c := 11) (kf := 10) (r := (RX11, TX11, 16)) (p0 := 21) (p1 := 22) (EJ_aload_n (j := 0) (i := 0) (pc := 21) D_TL_spans_21 rfl) D_TL_spans_22 ⟨rfl, rfl, by decide, q_265⟩ (fun _ _ => rfl)) (AJ_R (p0 := 25) (p1 := 32) (p2 := 36) (EJ_getR (t := 10) (c := 9) (kf := 0) (r := (RX9, TX9, 4)) (p0 := 25) (p1 := 29) (EJ_getR (t := 12) (c := 11) (kf := 3) (r := (RX11, TX11, 16)) (p0 := 25) (p1 := 26) (EJ_aload_n (j := 0) (i := 0) (pc := 25) D_TL_spans_25 rfl) D_TL_spans_26 ⟨rfl, rfl, by decide, q_258⟩ (fun _ _ => rfl)) D_TL_spans_29 ⟨rfl, rfl, by decide, q_174⟩ (fun _ _ => rfl)) (AJ_J (p0 := 32) (p1 := 36) (p2 := 36) (EJ_getJ (t := 12) (c := 11) (kf := 4) (r := (RX11, TX11, 16)) (p0 := 32) (p1 := 33) (EJ_aload_n (j := 0) (i := 0) (pc := 32) D_TL_spans_32 rfl) D_TL_spans_33 ⟨rfl, rfl, by decide, q_259⟩ (fun _ _ => rfl)) AJ_nil)) m_Fit_load E1_U D_TL_spans_36 rfl rfl rfl q_667 q_668 q_669 q_95 ⟨by decide +kernel, by decide +kernel, by decide +kernel⟩ (by decide) (show 2 + 1 ≤ 5 from by decide) (show ∀ x_ ∈ ([3, 43, 44, 46] : List Nat), x_ ∈ ([3, 43, 44, 46] : List Nat) from by decide)))
 (SJ_ret (p0 := 39) (p1 := 60) (EJ_if (p0 := 39) (pT := 55) (pF := 59) (pE := 56) (p1 := 60) (CZ_ne' (off := 7) (tgt := 59) (p0 := 39) (p1 := 52) (EJ_callV (t := 3) (c := 2) (r := (RX2, TX2, 12)) (p0 := 39) (p1 := 43) (p2 := 49) (EJ_getR (t := 12) (c := 11) (kf := 10) (r := (RX11, TX11, 16)) (p0 := 39) (p1 := 40) (EJ_aload_n (j := 0) (i := 0) (pc := 39) D_TL_spans_39 rfl) D_TL_spans_40 ⟨rfl, rfl, by decide, q_265⟩ (fun _ _ => rfl)) (AJ_I (p0 := 43) (p1 := 45) (p2 := 49) (EJ_iload (i := 4) (pc := 43) D_TL_spans_43) (AJ_I (p0 := 45) (p1 := 46) (p2 := 49) (EJ_iload_n (j := 2) (i := 2) (pc := 45) D_TL_spans_45 rfl) (AJ_I (p0 := 46) (p1 := 49) (p2 := 49) (EJ_iadd (p0 := 46) (p1 := 47) (p2 := 48) (EJ_iload_n (j := 2) (i := 2) (pc := 46) D_TL_spans_46 rfl) (EJ_iload_n (j := 3) (i := 3) (pc := 47) D_TL_spans_47 rfl) D_TL_spans_48) AJ_nil))) m_Fit_isWord E1_I D_TL_spans_49 rfl rfl rfl q_676 q_677 q_678 q_95 ⟨by decide +kernel, by decide +kernel, by decide +kernel⟩ (by decide) (show 4 + 1 ≤ 5 from by decide) (show ∀ x_ ∈ ([3, 43, 44, 46] : List Nat), x_ ∈ ([3, 43, 44, 46] : List Nat) from by decide)) D_TL_spans_52 rfl) (EJ_iconst (n := 1) (v := (nI 1)) (pc := 55) D_TL_spans_55 (by decide +kernel)) (Lead.goto (K := K_TL_spans) (pc := 56) (tgt := 60) D_TL_spans_56 rfl) (EJ_iconst (n := 0) (v := (nI 0)) (pc := 59) D_TL_spans_59 (by decide +kernel))) D_TL_spans_60))))
 RTm_int q_666 (by decide +kernel) rfl (fun h => by cases h) (show 5 ≤ 40 from by decide) (fun _ => trivial)
theorem D_TL_is_0 : decode cX11_is 0 = .ok (.aload_n 0, 1) := by decide +kernel
theorem D_TL_is_1 : decode cX11_is 1 = .ok (.iload_n 1, 1) := by decide +kernel
theorem D_TL_is_2 : decode cX11_is 2 = .ok (.iconst (0), 1) := by decide +kernel
theorem D_TL_is_3 : decode cX11_is 3 = .ok (.aload_n 0, 1) := by decide +kernel
theorem D_TL_is_4 : decode cX11_is 4 = .ok (.getfield 108, 3) := by decide +kernel
theorem D_TL_is_7 : decode cX11_is 7 = .ok (.invokestatic 175, 3) := by decide +kernel
theorem D_TL_is_10 : decode cX11_is 10 = .ok (.invokevirtual 205, 3) := by decide +kernel
theorem D_TL_is_13 : decode cX11_is 13 = .ok (.ireturn, 1) := by decide +kernel
def K_TL_is : SC := (cX11_is, "TwoLevels", 2, 6, false, [3, 43, 44, 46], NoQ)
def d_TL_is : MD Int32 := mth tt 2 (rtn (kV 12 d_TL_spans (lR 0) [vI (lI 1), vI (eC (nI 0)), vI (kS d_Rows_size [vJ (eh1 (gJ 12 4) (lR 0))])]))
theorem m_TL_is : MJ 6 [3, 43, 44, 46] yX11_is (some .int) eI (d_TL_is) := MJ_of (K := K_TL_is) (ri := .ireturn) (n1 := 0) (n2 := 0) (n3 := 0)
 (SJ_ret (p0 := 0) (p1 := 13) (EJ_callV (t := 12) (c := 11) (r := (RX11, TX11, 16)) (p0 := 0) (p1 := 1) (p2 := 10) (EJ_aload_n (j := 0) (i := 0) (pc := 0) D_TL_is_0 rfl) (AJ_I (p0 := 1) (p1 := 2) (p2 := 10) (EJ_iload_n (j := 1) (i := 1) (pc := 1) D_TL_is_1 rfl) (AJ_I (p0 := 2) (p1 := 3) (p2 := 10) (EJ_iconst (n := 0) (v := (nI 0)) (pc := 2) D_TL_is_2 (by decide +kernel)) (AJ_I (p0 := 3) (p1 := 10) (p2 := 10) (EJ_callS (p0 := 3) (p1 := 7) (AJ_J (p0 := 3) (p1 := 7) (p2 := 7) (EJ_getJ (t := 12) (c := 11) (kf := 4) (r := (RX11, TX11, 16)) (p0 := 3) (p1 := 4) (EJ_aload_n (j := 0) (i := 0) (pc := 3) D_TL_is_3 rfl) D_TL_is_4 ⟨rfl, rfl, by decide, q_259⟩ (fun _ _ => rfl)) AJ_nil) m_Rows_size E1_I D_TL_is_7 q_613 q_504 q_104 ⟨by decide +kernel, by decide +kernel, by decide +kernel⟩ (by decide) (show 1 + 1 ≤ 6 from by decide) (fun _ h => absurd h List.not_mem_nil)) AJ_nil))) m_TL_spans E1_I D_TL_is_10 rfl rfl rfl q_664 q_665 q_16 q_91 ⟨by decide +kernel, by decide +kernel, by decide +kernel⟩ (by decide) (show 5 + 1 ≤ 6 from by decide) (show ∀ x_ ∈ ([3, 43, 44, 46] : List Nat), x_ ∈ ([3, 43, 44, 46] : List Nat) from by decide)) D_TL_is_13)
 RTm_int q_663 (by decide +kernel) rfl (fun h => by cases h) (show 2 ≤ 40 from by decide) (fun _ => trivial)
theorem D_Shelf_init_0 : decode cX8_init 0 = .ok (.aload_n 0, 1) := by decide +kernel
theorem D_Shelf_init_1 : decode cX8_init 1 = .ok (.invokespecial 1, 3) := by decide +kernel
theorem D_Shelf_init_4 : decode cX8_init 4 = .ok (.aload_n 0, 1) := by decide +kernel
theorem D_Shelf_init_5 : decode cX8_init 5 = .ok (.aload_n 1, 1) := by decide +kernel
theorem D_Shelf_init_6 : decode cX8_init 6 = .ok (.putfield 7, 3) := by decide +kernel
theorem D_Shelf_init_9 : decode cX8_init 9 = .ok (.aload_n 0, 1) := by decide +kernel
theorem D_Shelf_init_10 : decode cX8_init 10 = .ok (.lload_n 2, 1) := by decide +kernel
theorem D_Shelf_init_11 : decode cX8_init 11 = .ok (.putfield 13, 3) := by decide +kernel
theorem D_Shelf_init_14 : decode cX8_init 14 = .ok (.aload_n 0, 1) := by decide +kernel
theorem D_Shelf_init_15 : decode cX8_init 15 = .ok (.aload 4, 2) := by decide +kernel
theorem D_Shelf_init_17 : decode cX8_init 17 = .ok (.putfield 17, 3) := by decide +kernel
theorem D_Shelf_init_20 : decode cX8_init 20 = .ok (.return_, 1) := by decide +kernel
def K_Shelf_init : SC := (cX8_init, "TwoLevels$Shelf", 5, 1, true, [9], NoQ)
def d_Shelf_init : MD Unit := mth tt 5 (sq sObj
 (sq (sh2 (pR 9 0) (lR 0) (lR 1))
 (sq (sh2 (pJ 9 1) (lR 0) (lJ 2))
 (sq (sh2 (pR 9 2) (lR 0) (lR 4))
 rtnU))))
theorem m_Shelf_init : MJ 1 [9] yX8_init none eU (d_Shelf_init) := MJ_of (K := K_Shelf_init) (ri := .return_) (n1 := 0) (n2 := 0) (n3 := 0)
 (SJ_sq (p0 := 0) (p1 := 4) (nN := 0) (nB := 0) (nC := 0) (SJ_obj (pc := 0) (idx := 1) D_Shelf_init_0 D_Shelf_init_1 q_592 q_114 q_115 (show 1 ≤ 1 from by decide))
 (SJ_sq (p0 := 4) (p1 := 9) (nN := 0) (nB := 0) (nC := 0) (SJ_putR (t := 9) (c := 8) (kf := 0) (r := (RX8, TX8, 3)) (p0 := 4) (p1 := 5) (p2 := 6) (EJ_aload_n (j := 0) (i := 0) (pc := 4) D_Shelf_init_4 rfl) (EJ_aload_n (j := 1) (i := 1) (pc := 5) D_Shelf_init_5 rfl) D_Shelf_init_6 ⟨rfl, rfl, by decide, q_593⟩ (Or.inr ⟨rfl, rfl⟩) (Or.inl ⟨_, rfl⟩) (fun _ _ => rfl) (show (9 : Nat) ∈ ([9] : List Nat) from by decide))
 (SJ_sq (p0 := 9) (p1 := 14) (nN := 0) (nB := 0) (nC := 0) (SJ_putJ (t := 9) (c := 8) (kf := 1) (r := (RX8, TX8, 3)) (p0 := 9) (p1 := 10) (p2 := 11) (EJ_aload_n (j := 0) (i := 0) (pc := 9) D_Shelf_init_9 rfl) (EJ_lload_n (j := 2) (i := 2) (pc := 10) D_Shelf_init_10 rfl) D_Shelf_init_11 ⟨rfl, rfl, by decide, q_595⟩ (Or.inr ⟨rfl, rfl⟩) rfl (fun _ _ => rfl) (show (9 : Nat) ∈ ([9] : List Nat) from by decide))
 (SJ_sq (p0 := 14) (p1 := 20) (nN := 0) (nB := 0) (nC := 0) (SJ_putR (t := 9) (c := 8) (kf := 2) (r := (RX8, TX8, 3)) (p0 := 14) (p1 := 15) (p2 := 17) (EJ_aload_n (j := 0) (i := 0) (pc := 14) D_Shelf_init_14 rfl) (EJ_aload (i := 4) (pc := 15) D_Shelf_init_15) D_Shelf_init_17 ⟨rfl, rfl, by decide, q_597⟩ (Or.inr ⟨rfl, rfl⟩) (Or.inr ⟨_, rfl⟩) (fun _ _ => rfl) (show (9 : Nat) ∈ ([9] : List Nat) from by decide))
 (SJ_retU (pc := 20) D_Shelf_init_20)))))
 RTm_void q_591 (by decide +kernel) rfl (fun _ => rfl) (show 5 ≤ 40 from by decide) (fun _ => trivial)
theorem D_TL_keep_0 : decode cX11_keep 0 = .ok (.iload_n 1, 1) := by decide +kernel
theorem D_TL_keep_1 : decode cX11_keep 1 = .ok (.ifCond .lt (8), 3) := by decide +kernel
theorem D_TL_keep_4 : decode cX11_keep 4 = .ok (.iload_n 1, 1) := by decide +kernel
theorem D_TL_keep_5 : decode cX11_keep 5 = .ok (.iconst (2), 1) := by decide +kernel
theorem D_TL_keep_6 : decode cX11_keep 6 = .ok (.if_icmp .lt (5), 3) := by decide +kernel
theorem D_TL_keep_9 : decode cX11_keep 9 = .ok (.iconst (-1), 1) := by decide +kernel
theorem D_TL_keep_10 : decode cX11_keep 10 = .ok (.ireturn, 1) := by decide +kernel
theorem D_TL_keep_11 : decode cX11_keep 11 = .ok (.aload_n 0, 1) := by decide +kernel
theorem D_TL_keep_12 : decode cX11_keep 12 = .ok (.getfield 47, 3) := by decide +kernel
theorem D_TL_keep_15 : decode cX11_keep 15 = .ok (.iload_n 1, 1) := by decide +kernel
theorem D_TL_keep_16 : decode cX11_keep 16 = .ok (.new 45, 3) := by decide +kernel
theorem D_TL_keep_19 : decode cX11_keep 19 = .ok (.dup, 1) := by decide +kernel
theorem D_TL_keep_20 : decode cX11_keep 20 = .ok (.aload_n 0, 1) := by decide +kernel
theorem D_TL_keep_21 : decode cX11_keep 21 = .ok (.getfield 30, 3) := by decide +kernel
theorem D_TL_keep_24 : decode cX11_keep 24 = .ok (.aload_n 0, 1) := by decide +kernel
theorem D_TL_keep_25 : decode cX11_keep 25 = .ok (.getfield 108, 3) := by decide +kernel
theorem D_TL_keep_28 : decode cX11_keep 28 = .ok (.aload_n 0, 1) := by decide +kernel
theorem D_TL_keep_29 : decode cX11_keep 29 = .ok (.getfield 34, 3) := by decide +kernel
theorem D_TL_keep_32 : decode cX11_keep 32 = .ok (.invokespecial 161, 3) := by decide +kernel
theorem D_TL_keep_35 : decode cX11_keep 35 = .ok (.aastore, 1) := by decide +kernel
theorem D_TL_keep_36 : decode cX11_keep 36 = .ok (.aload_n 0, 1) := by decide +kernel
theorem D_TL_keep_37 : decode cX11_keep 37 = .ok (.getfield 30, 3) := by decide +kernel
theorem D_TL_keep_40 : decode cX11_keep 40 = .ok (.getfield 118, 3) := by decide +kernel
theorem D_TL_keep_43 : decode cX11_keep 43 = .ok (.arraylength, 1) := by decide +kernel
theorem D_TL_keep_44 : decode cX11_keep 44 = .ok (.ireturn, 1) := by decide +kernel
def K_TL_keep : SC := (cX11_keep, "TwoLevels", 2, 2, false, [9, 24], NoQ)
def d_TL_keep : MD Int32 := mth tt 2 (sq (sIf (cOr (eh1 z_lt (lI 1)) (eh2 c_ge (lI 1) (eC (nI 2)))) (rtn (eC (-1))) sk)
 (sq (sh3 (stO [24] "TwoLevels$Shelf" 9) (eh1 (gR 12 9) (lR 0)) (lI 1) (kN 9 3 d_Shelf_init [vR (eh1 (gR 12 3) (lR 0)), vJ (eh1 (gJ 12 4) (lR 0)), vR (eh1 (gR 12 5) (lR 0))]))
 (rtn (eh1 aL (eh1 (gR 10 1) (eh1 (gR 12 3) (lR 0)))))))
theorem m_TL_keep : MJ 2 [9, 24] yX11_keep (some .int) eI (d_TL_keep) := MJ_of (K := K_TL_keep) (ri := .ireturn) (n1 := 0) (n2 := 0) (n3 := 0)
 (SJ_sq (p0 := 0) (p1 := 11) (nN := 0) (nB := 0) (nC := 0) (SJ_if (p0 := 0) (pT := 9) (pF := 11) (nN := 11) (nB := 0) (nC := 0) (CJ_or (p0 := 0) (pM := 4) (pT := 9) (pF := 11) (CZ_lt (off := 8) (tgt := 9) (p0 := 0) (p1 := 1) (EJ_iload_n (j := 1) (i := 1) (pc := 0) D_TL_keep_0 rfl) D_TL_keep_1 rfl) (CJ_ge' (off := 5) (tgt := 11) (p0 := 4) (p1 := 5) (p2 := 6) (EJ_iload_n (j := 1) (i := 1) (pc := 4) D_TL_keep_4 rfl) (EJ_iconst (n := 2) (v := (nI 2)) (pc := 5) D_TL_keep_5 (by decide +kernel)) D_TL_keep_6 rfl)) (SJ_ret (p0 := 9) (p1 := 10) (EJ_iconst (n := -1) (v := (-1)) (pc := 9) D_TL_keep_9 (by decide +kernel)) D_TL_keep_10) SJ_sk)
 (SJ_sq (p0 := 11) (p1 := 36) (nN := 0) (nB := 0) (nC := 0) (SJ_oast (tv := 9) (cv := 8) (r := (RX8, TX8, 3)) (ws := [24]) (p0 := 11) (p1 := 15) (p2 := 16) (p3 := 35) (EJ_getR (t := 12) (c := 11) (kf := 9) (r := (RX11, TX11, 16)) (p0 := 11) (p1 := 12) (EJ_aload_n (j := 0) (i := 0) (pc := 11) D_TL_keep_11 rfl) D_TL_keep_12 ⟨rfl, rfl, by decide, q_264⟩ (fun _ _ => rfl)) (EJ_iload_n (j := 1) (i := 1) (pc := 15) D_TL_keep_15 rfl) (EJ_new (t := 9) (c := 8) (r := (RX8, TX8, 3)) (p0 := 16) (p1 := 32) D_TL_keep_16 D_TL_keep_19 (AJ_R (p0 := 20) (p1 := 24) (p2 := 32) (EJ_getR (t := 12) (c := 11) (kf := 3) (r := (RX11, TX11, 16)) (p0 := 20) (p1 := 21) (EJ_aload_n (j := 0) (i := 0) (pc := 20) D_TL_keep_20 rfl) D_TL_keep_21 ⟨rfl, rfl, by decide, q_258⟩ (fun _ _ => rfl)) (AJ_J (p0 := 24) (p1 := 28) (p2 := 32) (EJ_getJ (t := 12) (c := 11) (kf := 4) (r := (RX11, TX11, 16)) (p0 := 24) (p1 := 25) (EJ_aload_n (j := 0) (i := 0) (pc := 24) D_TL_keep_24 rfl) D_TL_keep_25 ⟨rfl, rfl, by decide, q_259⟩ (fun _ _ => rfl)) (AJ_R (p0 := 28) (p1 := 32) (p2 := 32) (EJ_getR (t := 12) (c := 11) (kf := 5) (r := (RX11, TX11, 16)) (p0 := 28) (p1 := 29) (EJ_aload_n (j := 0) (i := 0) (pc := 28) D_TL_keep_28 rfl) D_TL_keep_29 ⟨rfl, rfl, by decide, q_260⟩ (fun _ _ => rfl)) AJ_nil))) m_Shelf_init D_TL_keep_32 rfl rfl q_188 q_588 q_106 rfl rfl (Or.inl q_589) q_590 ⟨by decide +kernel, by decide +kernel, by decide +kernel⟩ (by decide) (show 1 + 1 ≤ 2 from by decide) (show ∀ x_ ∈ ([9] : List Nat), x_ ∈ ([9, 24] : List Nat) from by decide)) D_TL_keep_35 rfl rfl rfl (show ∀ x_ ∈ ([24] : List Nat), x_ ∈ ([9, 24] : List Nat) from by decide))
 (SJ_ret (p0 := 36) (p1 := 44) (EJ_alen (p0 := 36) (p1 := 43) (EJ_getR (t := 10) (c := 9) (kf := 1) (r := (RX9, TX9, 4)) (p0 := 36) (p1 := 40) (EJ_getR (t := 12) (c := 11) (kf := 3) (r := (RX11, TX11, 16)) (p0 := 36) (p1 := 37) (EJ_aload_n (j := 0) (i := 0) (pc := 36) D_TL_keep_36 rfl) D_TL_keep_37 ⟨rfl, rfl, by decide, q_258⟩ (fun _ _ => rfl)) D_TL_keep_40 ⟨rfl, rfl, by decide, q_177⟩ (fun _ _ => rfl)) D_TL_keep_43) D_TL_keep_44)))
 RTm_int q_587 (by decide +kernel) rfl (fun h => by cases h) (show 2 ≤ 40 from by decide) (fun _ => trivial)
theorem D_TL_findLeast_0 : decode cX11_findLeast 0 = .ok (.iconst (1), 1) := by decide +kernel
theorem D_TL_findLeast_1 : decode cX11_findLeast 1 = .ok (.istore_n 1, 1) := by decide +kernel
theorem D_TL_findLeast_2 : decode cX11_findLeast 2 = .ok (.iload_n 1, 1) := by decide +kernel
theorem D_TL_findLeast_3 : decode cX11_findLeast 3 = .ok (.bipush (12), 2) := by decide +kernel
theorem D_TL_findLeast_5 : decode cX11_findLeast 5 = .ok (.if_icmp .gt (64), 3) := by decide +kernel
theorem D_TL_findLeast_8 : decode cX11_findLeast 8 = .ok (.aload_n 0, 1) := by decide +kernel
theorem D_TL_findLeast_9 : decode cX11_findLeast 9 = .ok (.getfield 83, 3) := by decide +kernel
theorem D_TL_findLeast_12 : decode cX11_findLeast 12 = .ok (.aload_n 0, 1) := by decide +kernel
theorem D_TL_findLeast_13 : decode cX11_findLeast 13 = .ok (.getfield 30, 3) := by decide +kernel
theorem D_TL_findLeast_16 : decode cX11_findLeast 16 = .ok (.iload_n 1, 1) := by decide +kernel
theorem D_TL_findLeast_17 : decode cX11_findLeast 17 = .ok (.aload_n 0, 1) := by decide +kernel
theorem D_TL_findLeast_18 : decode cX11_findLeast 18 = .ok (.getfield 108, 3) := by decide +kernel
theorem D_TL_findLeast_21 : decode cX11_findLeast 21 = .ok (.aload_n 0, 1) := by decide +kernel
theorem D_TL_findLeast_22 : decode cX11_findLeast 22 = .ok (.getfield 34, 3) := by decide +kernel
theorem D_TL_findLeast_25 : decode cX11_findLeast 25 = .ok (.aload_n 0, 1) := by decide +kernel
theorem D_TL_findLeast_26 : decode cX11_findLeast 26 = .ok (.getfield 34, 3) := by decide +kernel
theorem D_TL_findLeast_29 : decode cX11_findLeast 29 = .ok (.arraylength, 1) := by decide +kernel
theorem D_TL_findLeast_30 : decode cX11_findLeast 30 = .ok (.invokevirtual 267, 3) := by decide +kernel
theorem D_TL_findLeast_33 : decode cX11_findLeast 33 = .ok (.istore_n 2, 1) := by decide +kernel
theorem D_TL_findLeast_34 : decode cX11_findLeast 34 = .ok (.iload_n 2, 1) := by decide +kernel
theorem D_TL_findLeast_35 : decode cX11_findLeast 35 = .ok (.bipush (-3), 2) := by decide +kernel
theorem D_TL_findLeast_37 : decode cX11_findLeast 37 = .ok (.if_icmp .ne (6), 3) := by decide +kernel
theorem D_TL_findLeast_40 : decode cX11_findLeast 40 = .ok (.bipush (-3), 2) := by decide +kernel
theorem D_TL_findLeast_42 : decode cX11_findLeast 42 = .ok (.ireturn, 1) := by decide +kernel
theorem D_TL_findLeast_43 : decode cX11_findLeast 43 = .ok (.iload_n 2, 1) := by decide +kernel
theorem D_TL_findLeast_44 : decode cX11_findLeast 44 = .ok (.iconst (1), 1) := by decide +kernel
theorem D_TL_findLeast_45 : decode cX11_findLeast 45 = .ok (.if_icmp .ne (5), 3) := by decide +kernel
theorem D_TL_findLeast_48 : decode cX11_findLeast 48 = .ok (.iload_n 1, 1) := by decide +kernel
theorem D_TL_findLeast_49 : decode cX11_findLeast 49 = .ok (.ireturn, 1) := by decide +kernel
theorem D_TL_findLeast_50 : decode cX11_findLeast 50 = .ok (.aload_n 0, 1) := by decide +kernel
theorem D_TL_findLeast_51 : decode cX11_findLeast 51 = .ok (.getfield 83, 3) := by decide +kernel
theorem D_TL_findLeast_54 : decode cX11_findLeast 54 = .ok (.getfield 280, 3) := by decide +kernel
theorem D_TL_findLeast_57 : decode cX11_findLeast 57 = .ok (.ifCond .ne (6), 3) := by decide +kernel
theorem D_TL_findLeast_60 : decode cX11_findLeast 60 = .ok (.bipush (-2), 2) := by decide +kernel
theorem D_TL_findLeast_62 : decode cX11_findLeast 62 = .ok (.ireturn, 1) := by decide +kernel
theorem D_TL_findLeast_63 : decode cX11_findLeast 63 = .ok (.iinc 1 (1), 3) := by decide +kernel
theorem D_TL_findLeast_66 : decode cX11_findLeast 66 = .ok (.goto (-64), 3) := by decide +kernel
theorem D_TL_findLeast_69 : decode cX11_findLeast 69 = .ok (.bipush (-2), 2) := by decide +kernel
theorem D_TL_findLeast_71 : decode cX11_findLeast 71 = .ok (.ireturn, 1) := by decide +kernel
def K_TL_findLeast : SC := (cX11_findLeast, "TwoLevels", 3, 206, false, [3, 4, 8, 43, 44, 45, 46, 47, 48, 49, 51], NoQ)
def d_TL_findLeast : MD Int32 := mth tt 3 (sq (sq (sI1 1 (eC (nI 1)))
 (loop (eh2 c_le (lI 1) (eC (nI 12)))
 (sq (sI1 2 (kV 8 d_Search_run (eh1 (gR 12 12) (lR 0)) [vR (eh1 (gR 12 3) (lR 0)), vI (lI 1), vJ (eh1 (gJ 12 4) (lR 0)), vR (eh1 (gR 12 5) (lR 0)), vI (eh1 aL (eh1 (gR 12 5) (lR 0)))]))
 (sq (sIf (eh2 c_eq (lI 2) (eC (-3))) (rtn (eC (-3))) sk)
 (sq (sIf (eh2 c_eq (lI 2) (eC (nI 1))) (rtn (lI 1)) sk)
 (sIf (eh1 z_eq (eh1 (gI 8 7) (eh1 (gR 12 12) (lR 0)))) (rtn (eC (-2))) sk))))
 (sInc 1 (nI 1))))
 (rtn (eC (-2))))
theorem m_TL_findLeast : MJ 206 [3, 4, 8, 43, 44, 45, 46, 47, 48, 49, 51] yX11_findLeast (some .int) eI (d_TL_findLeast) := MJ_of (K := K_TL_findLeast) (ri := .ireturn) (n1 := 0) (n2 := 0) (n3 := 0)
 (SJ_sq (p0 := 0) (p1 := 69) (nN := 0) (nB := 0) (nC := 0) (SJ_sq (p0 := 0) (p1 := 2) (nN := 69) (nB := 0) (nC := 0) (SJ_istore_n (i := 1) (j := 1) (p0 := 0) (p1 := 1) (EJ_iconst (n := 1) (v := (nI 1)) (pc := 0) D_TL_findLeast_0 (by decide +kernel)) D_TL_findLeast_1 rfl)
 (SJ_loop (p0 := 2) (pB := 8) (pS := 63) (pE := 69) (CJ_le' (off := 64) (tgt := 69) (p0 := 2) (p1 := 3) (p2 := 5) (EJ_iload_n (j := 1) (i := 1) (pc := 2) D_TL_findLeast_2 rfl) (EJ_bipush (n := 12) (v := (nI 12)) (pc := 3) D_TL_findLeast_3 (by decide +kernel)) D_TL_findLeast_5 rfl)
 (SJ_sq (p0 := 8) (p1 := 34) (nN := 63) (nB := 69) (nC := 63) (SJ_istore_n (i := 2) (j := 2) (p0 := 8) (p1 := 33) (EJ_callV (t := 8) (c := 7) (r := (RX7, TX7, 11)) (p0 := 8) (p1 := 12) (p2 := 30) (EJ_getR (t := 12) (c := 11) (kf := 12) (r := (RX11, TX11, 16)) (p0 := 8) (p1 := 9) (EJ_aload_n (j := 0) (i := 0) (pc := 8) D_TL_findLeast_8 rfl) D_TL_findLeast_9 ⟨rfl, rfl, by decide, q_267⟩ (fun _ _ => rfl)) (AJ_R (p0 := 12) (p1 := 16) (p2 := 30) (EJ_getR (t := 12) (c := 11) (kf := 3) (r := (RX11, TX11, 16)) (p0 := 12) (p1 := 13) (EJ_aload_n (j := 0) (i := 0) (pc := 12) D_TL_findLeast_12 rfl) D_TL_findLeast_13 ⟨rfl, rfl, by decide, q_258⟩ (fun _ _ => rfl)) (AJ_I (p0 := 16) (p1 := 17) (p2 := 30) (EJ_iload_n (j := 1) (i := 1) (pc := 16) D_TL_findLeast_16 rfl) (AJ_J (p0 := 17) (p1 := 21) (p2 := 30) (EJ_getJ (t := 12) (c := 11) (kf := 4) (r := (RX11, TX11, 16)) (p0 := 17) (p1 := 18) (EJ_aload_n (j := 0) (i := 0) (pc := 17) D_TL_findLeast_17 rfl) D_TL_findLeast_18 ⟨rfl, rfl, by decide, q_259⟩ (fun _ _ => rfl)) (AJ_R (p0 := 21) (p1 := 25) (p2 := 30) (EJ_getR (t := 12) (c := 11) (kf := 5) (r := (RX11, TX11, 16)) (p0 := 21) (p1 := 22) (EJ_aload_n (j := 0) (i := 0) (pc := 21) D_TL_findLeast_21 rfl) D_TL_findLeast_22 ⟨rfl, rfl, by decide, q_260⟩ (fun _ _ => rfl)) (AJ_I (p0 := 25) (p1 := 30) (p2 := 30) (EJ_alen (p0 := 25) (p1 := 29) (EJ_getR (t := 12) (c := 11) (kf := 5) (r := (RX11, TX11, 16)) (p0 := 25) (p1 := 26) (EJ_aload_n (j := 0) (i := 0) (pc := 25) D_TL_findLeast_25 rfl) D_TL_findLeast_26 ⟨rfl, rfl, by decide, q_260⟩ (fun _ _ => rfl)) D_TL_findLeast_29) AJ_nil))))) m_Search_run E1_I D_TL_findLeast_30 rfl rfl rfl q_776 q_777 q_778 q_96 ⟨by decide +kernel, by decide +kernel, by decide +kernel⟩ (by decide) (show 205 + 1 ≤ 206 from by decide) (show ∀ x_ ∈ ([3, 4, 8, 43, 44, 45, 46, 47, 48, 49, 51] : List Nat), x_ ∈ ([3, 4, 8, 43, 44, 45, 46, 47, 48, 49, 51] : List Nat) from by decide)) D_TL_findLeast_33 rfl)
 (SJ_sq (p0 := 34) (p1 := 43) (nN := 63) (nB := 69) (nC := 63) (SJ_if (p0 := 34) (pT := 40) (pF := 43) (nN := 43) (nB := 69) (nC := 63) (CJ_eq' (off := 6) (tgt := 43) (p0 := 34) (p1 := 35) (p2 := 37) (EJ_iload_n (j := 2) (i := 2) (pc := 34) D_TL_findLeast_34 rfl) (EJ_bipush (n := -3) (v := (-3)) (pc := 35) D_TL_findLeast_35 (by decide +kernel)) D_TL_findLeast_37 rfl) (SJ_ret (p0 := 40) (p1 := 42) (EJ_bipush (n := -3) (v := (-3)) (pc := 40) D_TL_findLeast_40 (by decide +kernel)) D_TL_findLeast_42) SJ_sk)
 (SJ_sq (p0 := 43) (p1 := 50) (nN := 63) (nB := 69) (nC := 63) (SJ_if (p0 := 43) (pT := 48) (pF := 50) (nN := 50) (nB := 69) (nC := 63) (CJ_eq' (off := 5) (tgt := 50) (p0 := 43) (p1 := 44) (p2 := 45) (EJ_iload_n (j := 2) (i := 2) (pc := 43) D_TL_findLeast_43 rfl) (EJ_iconst (n := 1) (v := (nI 1)) (pc := 44) D_TL_findLeast_44 (by decide +kernel)) D_TL_findLeast_45 rfl) (SJ_ret (p0 := 48) (p1 := 49) (EJ_iload_n (j := 1) (i := 1) (pc := 48) D_TL_findLeast_48 rfl) D_TL_findLeast_49) SJ_sk)
 (SJ_if (p0 := 50) (pT := 60) (pF := 63) (nN := 63) (nB := 69) (nC := 63) (CZ_eq' (off := 6) (tgt := 63) (p0 := 50) (p1 := 57) (EJ_getI (t := 8) (c := 7) (kf := 7) (r := (RX7, TX7, 11)) (p0 := 50) (p1 := 54) (EJ_getR (t := 12) (c := 11) (kf := 12) (r := (RX11, TX11, 16)) (p0 := 50) (p1 := 51) (EJ_aload_n (j := 0) (i := 0) (pc := 50) D_TL_findLeast_50 rfl) D_TL_findLeast_51 ⟨rfl, rfl, by decide, q_267⟩ (fun _ _ => rfl)) D_TL_findLeast_54 ⟨rfl, rfl, by decide, q_238⟩ (fun _ _ => rfl)) D_TL_findLeast_57 rfl) (SJ_ret (p0 := 60) (p1 := 62) (EJ_bipush (n := -2) (v := (-2)) (pc := 60) D_TL_findLeast_60 (by decide +kernel)) D_TL_findLeast_62) SJ_sk))))
 (SJ_post (SJ_iinc (i := 1) (n := 1) (v := (nI 1)) (pc := 63) D_TL_findLeast_63 (by decide +kernel)) (Lead.goto (K := K_TL_findLeast) (pc := 66) (tgt := 2) D_TL_findLeast_66 rfl))))
 (SJ_ret (p0 := 69) (p1 := 71) (EJ_bipush (n := -2) (v := (-2)) (pc := 69) D_TL_findLeast_69 (by decide +kernel)) D_TL_findLeast_71))
 RTm_int q_879 (by decide +kernel) rfl (fun h => by cases h) (show 3 ≤ 40 from by decide) (fun _ => trivial)
theorem D_TL_least_0 : decode cX11_least 0 = .ok (.aload_n 0, 1) := by decide +kernel
theorem D_TL_least_1 : decode cX11_least 1 = .ok (.getfield 71, 3) := by decide +kernel
theorem D_TL_least_4 : decode cX11_least 4 = .ok (.bipush (-4), 2) := by decide +kernel
theorem D_TL_least_6 : decode cX11_least 6 = .ok (.if_icmp .ne (11), 3) := by decide +kernel
theorem D_TL_least_9 : decode cX11_least 9 = .ok (.aload_n 0, 1) := by decide +kernel
theorem D_TL_least_10 : decode cX11_least 10 = .ok (.aload_n 0, 1) := by decide +kernel
theorem D_TL_least_11 : decode cX11_least 11 = .ok (.invokevirtual 286, 3) := by decide +kernel
theorem D_TL_least_14 : decode cX11_least 14 = .ok (.putfield 71, 3) := by decide +kernel
theorem D_TL_least_17 : decode cX11_least 17 = .ok (.aload_n 0, 1) := by decide +kernel
theorem D_TL_least_18 : decode cX11_least 18 = .ok (.getfield 71, 3) := by decide +kernel
theorem D_TL_least_21 : decode cX11_least 21 = .ok (.ireturn, 1) := by decide +kernel
def K_TL_least : SC := (cX11_least, "TwoLevels", 1, 207, false, [3, 4, 8, 12, 43, 44, 45, 46, 47, 48, 49, 51], NoQ)
def d_TL_least : MD Int32 := mth tt 1 (sq (sIf (eh2 c_eq (eh1 (gI 12 15) (lR 0)) (eC (-4))) (sh2 (pI false 12 15) (lR 0) (kV 12 d_TL_findLeast (lR 0) [])) sk)
 (rtn (eh1 (gI 12 15) (lR 0))))
theorem m_TL_least : MJ 207 [3, 4, 8, 12, 43, 44, 45, 46, 47, 48, 49, 51] yX11_least (some .int) eI (d_TL_least) := MJ_of (K := K_TL_least) (ri := .ireturn) (n1 := 0) (n2 := 0) (n3 := 0)
 (SJ_sq (p0 := 0) (p1 := 17) (nN := 0) (nB := 0) (nC := 0) (SJ_if (p0 := 0) (pT := 9) (pF := 17) (nN := 17) (nB := 0) (nC := 0) (CJ_eq' (off := 11) (tgt := 17) (p0 := 0) (p1 := 4) (p2 := 6) (EJ_getI (t := 12) (c := 11) (kf := 15) (r := (RX11, TX11, 16)) (p0 := 0) (p1 := 1) (EJ_aload_n (j := 0) (i := 0) (pc := 0) D_TL_least_0 rfl) D_TL_least_1 ⟨rfl, rfl, by decide, q_270⟩ (fun _ _ => rfl)) (EJ_bipush (n := -4) (v := (-4)) (pc := 4) D_TL_least_4 (by decide +kernel)) D_TL_least_6 rfl) (SJ_putI (z := false) (t := 12) (c := 11) (kf := 15) (r := (RX11, TX11, 16)) (p0 := 9) (p1 := 10) (p2 := 14) (EJ_aload_n (j := 0) (i := 0) (pc := 9) D_TL_least_9 rfl) (EJ_callV (t := 12) (c := 11) (r := (RX11, TX11, 16)) (p0 := 10) (p1 := 11) (p2 := 11) (EJ_aload_n (j := 0) (i := 0) (pc := 10) D_TL_least_10 rfl) AJ_nil m_TL_findLeast E1_I D_TL_least_11 rfl rfl rfl q_877 q_878 q_30 q_91 ⟨by decide +kernel, by decide +kernel, by decide +kernel⟩ (by decide) (show 206 + 1 ≤ 207 from by decide) (show ∀ x_ ∈ ([3, 4, 8, 43, 44, 45, 46, 47, 48, 49, 51] : List Nat), x_ ∈ ([3, 4, 8, 12, 43, 44, 45, 46, 47, 48, 49, 51] : List Nat) from by decide)) D_TL_least_14 ⟨rfl, rfl, by decide, q_270⟩ (Or.inl rfl) (fun _ _ => ⟨rfl, rfl⟩) (fun _ _ => rfl) (show (12 : Nat) ∈ ([3, 4, 8, 12, 43, 44, 45, 46, 47, 48, 49, 51] : List Nat) from by decide)) SJ_sk)
 (SJ_ret (p0 := 17) (p1 := 21) (EJ_getI (t := 12) (c := 11) (kf := 15) (r := (RX11, TX11, 16)) (p0 := 17) (p1 := 18) (EJ_aload_n (j := 0) (i := 0) (pc := 17) D_TL_least_17 rfl) D_TL_least_18 ⟨rfl, rfl, by decide, q_270⟩ (fun _ _ => rfl)) D_TL_least_21))
 RTm_int q_876 (by decide +kernel) rfl (fun h => by cases h) (show 1 ≤ 40 from by decide) (fun _ => trivial)
theorem D_TL_letter_0 : decode cX11_letter 0 = .ok (.iload_n 1, 1) := by decide +kernel
theorem D_TL_letter_1 : decode cX11_letter 1 = .ok (.iconst (-1), 1) := by decide +kernel
theorem D_TL_letter_2 : decode cX11_letter 2 = .ok (.if_icmp .lt (16), 3) := by decide +kernel
theorem D_TL_letter_5 : decode cX11_letter 5 = .ok (.iload_n 1, 1) := by decide +kernel
theorem D_TL_letter_6 : decode cX11_letter 6 = .ok (.aload_n 0, 1) := by decide +kernel
theorem D_TL_letter_7 : decode cX11_letter 7 = .ok (.getfield 34, 3) := by decide +kernel
theorem D_TL_letter_10 : decode cX11_letter 10 = .ok (.arraylength, 1) := by decide +kernel
theorem D_TL_letter_11 : decode cX11_letter 11 = .ok (.if_icmp .ge (7), 3) := by decide +kernel
theorem D_TL_letter_14 : decode cX11_letter 14 = .ok (.iload_n 2, 1) := by decide +kernel
theorem D_TL_letter_15 : decode cX11_letter 15 = .ok (.ifCond .ge (5), 3) := by decide +kernel
theorem D_TL_letter_18 : decode cX11_letter 18 = .ok (.iconst (-1), 1) := by decide +kernel
theorem D_TL_letter_19 : decode cX11_letter 19 = .ok (.ireturn, 1) := by decide +kernel
theorem D_TL_letter_20 : decode cX11_letter 20 = .ok (.iload_n 1, 1) := by decide +kernel
theorem D_TL_letter_21 : decode cX11_letter 21 = .ok (.iconst (-1), 1) := by decide +kernel
theorem D_TL_letter_22 : decode cX11_letter 22 = .ok (.if_icmp .ne (10), 3) := by decide +kernel
theorem D_TL_letter_25 : decode cX11_letter 25 = .ok (.aload_n 0, 1) := by decide +kernel
theorem D_TL_letter_26 : decode cX11_letter 26 = .ok (.getfield 108, 3) := by decide +kernel
theorem D_TL_letter_29 : decode cX11_letter 29 = .ok (.goto (9), 3) := by decide +kernel
theorem D_TL_letter_32 : decode cX11_letter 32 = .ok (.aload_n 0, 1) := by decide +kernel
theorem D_TL_letter_33 : decode cX11_letter 33 = .ok (.getfield 34, 3) := by decide +kernel
theorem D_TL_letter_36 : decode cX11_letter 36 = .ok (.iload_n 1, 1) := by decide +kernel
theorem D_TL_letter_37 : decode cX11_letter 37 = .ok (.laload, 1) := by decide +kernel
theorem D_TL_letter_38 : decode cX11_letter 38 = .ok (.iload_n 2, 1) := by decide +kernel
theorem D_TL_letter_39 : decode cX11_letter 39 = .ok (.bipush (-2), 2) := by decide +kernel
theorem D_TL_letter_41 : decode cX11_letter 41 = .ok (.invokestatic 171, 3) := by decide +kernel
theorem D_TL_letter_44 : decode cX11_letter 44 = .ok (.ireturn, 1) := by decide +kernel
def K_TL_letter : SC := (cX11_letter, "TwoLevels", 3, 4, false, [], NoQ)
def d_TL_letter : MD Int32 := mth tt 3 (sq (sIf (cOr (cOr (eh2 c_lt (lI 1) (eC (-1))) (eh2 c_ge (lI 1) (eh1 aL (eh1 (gR 12 5) (lR 0))))) (eh1 z_lt (lI 2))) (rtn (eC (-1))) sk)
 (rtn (kS d_TL_letterOr [vJ (eIf (eh2 c_eq (lI 1) (eC (-1))) (eh1 (gJ 12 4) (lR 0)) (eh2 aJ (eh1 (gR 12 5) (lR 0)) (lI 1))), vI (lI 2), vI (eC (-2))])))
theorem m_TL_letter : MJ 4 [] yX11_letter (some .int) eI (d_TL_letter) := MJ_of (K := K_TL_letter) (ri := .ireturn) (n1 := 0) (n2 := 0) (n3 := 0)
 (SJ_sq (p0 := 0) (p1 := 20) (nN := 0) (nB := 0) (nC := 0) (SJ_if (p0 := 0) (pT := 18) (pF := 20) (nN := 20) (nB := 0) (nC := 0) (CJ_or (p0 := 0) (pM := 14) (pT := 18) (pF := 20) (CJ_or (p0 := 0) (pM := 5) (pT := 18) (pF := 14) (CJ_lt (off := 16) (tgt := 18) (p0 := 0) (p1 := 1) (p2 := 2) (EJ_iload_n (j := 1) (i := 1) (pc := 0) D_TL_letter_0 rfl) (EJ_iconst (n := -1) (v := (-1)) (pc := 1) D_TL_letter_1 (by decide +kernel)) D_TL_letter_2 rfl) (CJ_ge (off := 7) (tgt := 18) (p0 := 5) (p1 := 6) (p2 := 11) (EJ_iload_n (j := 1) (i := 1) (pc := 5) D_TL_letter_5 rfl) (EJ_alen (p0 := 6) (p1 := 10) (EJ_getR (t := 12) (c := 11) (kf := 5) (r := (RX11, TX11, 16)) (p0 := 6) (p1 := 7) (EJ_aload_n (j := 0) (i := 0) (pc := 6) D_TL_letter_6 rfl) D_TL_letter_7 ⟨rfl, rfl, by decide, q_260⟩ (fun _ _ => rfl)) D_TL_letter_10) D_TL_letter_11 rfl)) (CZ_lt' (off := 5) (tgt := 20) (p0 := 14) (p1 := 15) (EJ_iload_n (j := 2) (i := 2) (pc := 14) D_TL_letter_14 rfl) D_TL_letter_15 rfl)) (SJ_ret (p0 := 18) (p1 := 19) (EJ_iconst (n := -1) (v := (-1)) (pc := 18) D_TL_letter_18 (by decide +kernel)) D_TL_letter_19) SJ_sk)
 (SJ_ret (p0 := 20) (p1 := 44) (EJ_callS (p0 := 20) (p1 := 41) (AJ_J (p0 := 20) (p1 := 38) (p2 := 41) (EJ_if (p0 := 20) (pT := 25) (pF := 32) (pE := 29) (p1 := 38) (CJ_eq' (off := 10) (tgt := 32) (p0 := 20) (p1 := 21) (p2 := 22) (EJ_iload_n (j := 1) (i := 1) (pc := 20) D_TL_letter_20 rfl) (EJ_iconst (n := -1) (v := (-1)) (pc := 21) D_TL_letter_21 (by decide +kernel)) D_TL_letter_22 rfl) (EJ_getJ (t := 12) (c := 11) (kf := 4) (r := (RX11, TX11, 16)) (p0 := 25) (p1 := 26) (EJ_aload_n (j := 0) (i := 0) (pc := 25) D_TL_letter_25 rfl) D_TL_letter_26 ⟨rfl, rfl, by decide, q_259⟩ (fun _ _ => rfl)) (Lead.goto (K := K_TL_letter) (pc := 29) (tgt := 38) D_TL_letter_29 rfl) (EJ_lald (p0 := 32) (p1 := 36) (p2 := 37) (EJ_getR (t := 12) (c := 11) (kf := 5) (r := (RX11, TX11, 16)) (p0 := 32) (p1 := 33) (EJ_aload_n (j := 0) (i := 0) (pc := 32) D_TL_letter_32 rfl) D_TL_letter_33 ⟨rfl, rfl, by decide, q_260⟩ (fun _ _ => rfl)) (EJ_iload_n (j := 1) (i := 1) (pc := 36) D_TL_letter_36 rfl) D_TL_letter_37)) (AJ_I (p0 := 38) (p1 := 39) (p2 := 41) (EJ_iload_n (j := 2) (i := 2) (pc := 38) D_TL_letter_38 rfl) (AJ_I (p0 := 39) (p1 := 41) (p2 := 41) (EJ_bipush (n := -2) (v := (-2)) (pc := 39) D_TL_letter_39 (by decide +kernel)) AJ_nil))) m_TL_letterOr E1_I D_TL_letter_41 q_610 q_611 q_91 ⟨by decide +kernel, by decide +kernel, by decide +kernel⟩ (by decide) (show 3 + 1 ≤ 4 from by decide) (fun _ h => absurd h List.not_mem_nil)) D_TL_letter_44))
 RTm_int q_609 (by decide +kernel) rfl (fun h => by cases h) (show 3 ≤ 40 from by decide) (fun _ => trivial)
theorem D_Rule_allBits_0 : decode cX6_allBits 0 = .ok (.aload_n 0, 1) := by decide +kernel
theorem D_Rule_allBits_1 : decode cX6_allBits 1 = .ok (.getfield 25, 3) := by decide +kernel
theorem D_Rule_allBits_4 : decode cX6_allBits 4 = .ok (.istore_n 1, 1) := by decide +kernel
theorem D_Rule_allBits_5 : decode cX6_allBits 5 = .ok (.iconst (0), 1) := by decide +kernel
theorem D_Rule_allBits_6 : decode cX6_allBits 6 = .ok (.istore_n 2, 1) := by decide +kernel
theorem D_Rule_allBits_7 : decode cX6_allBits 7 = .ok (.iload_n 2, 1) := by decide +kernel
theorem D_Rule_allBits_8 : decode cX6_allBits 8 = .ok (.aload_n 0, 1) := by decide +kernel
theorem D_Rule_allBits_9 : decode cX6_allBits 9 = .ok (.getfield 32, 3) := by decide +kernel
theorem D_Rule_allBits_12 : decode cX6_allBits 12 = .ok (.if_icmp .ge (21), 3) := by decide +kernel
theorem D_Rule_allBits_15 : decode cX6_allBits 15 = .ok (.iload_n 1, 1) := by decide +kernel
theorem D_Rule_allBits_16 : decode cX6_allBits 16 = .ok (.aload_n 0, 1) := by decide +kernel
theorem D_Rule_allBits_17 : decode cX6_allBits 17 = .ok (.getfield 11, 3) := by decide +kernel
theorem D_Rule_allBits_20 : decode cX6_allBits 20 = .ok (.iload_n 2, 1) := by decide +kernel
theorem D_Rule_allBits_21 : decode cX6_allBits 21 = .ok (.aaload, 1) := by decide +kernel
theorem D_Rule_allBits_22 : decode cX6_allBits 22 = .ok (.getfield 35, 3) := by decide +kernel
theorem D_Rule_allBits_25 : decode cX6_allBits 25 = .ok (.ior, 1) := by decide +kernel
theorem D_Rule_allBits_26 : decode cX6_allBits 26 = .ok (.istore_n 1, 1) := by decide +kernel
theorem D_Rule_allBits_27 : decode cX6_allBits 27 = .ok (.iinc 2 (1), 3) := by decide +kernel
theorem D_Rule_allBits_30 : decode cX6_allBits 30 = .ok (.goto (-23), 3) := by decide +kernel
theorem D_Rule_allBits_33 : decode cX6_allBits 33 = .ok (.iload_n 1, 1) := by decide +kernel
theorem D_Rule_allBits_34 : decode cX6_allBits 34 = .ok (.ireturn, 1) := by decide +kernel
def K_Rule_allBits : SC := (cX6_allBits, "TwoLevels$Rule", 3, 1, false, [], NoQ)
def d_Rule_allBits : MD Int32 := mth tt 3 (sq (sI1 1 (eh1 (gI 7 1) (lR 0)))
 (sq (sq (sI1 2 (eC (nI 0)))
 (loop (eh2 c_lt (lI 2) (eh1 (gI 7 4) (lR 0)))
 (sI1 1 (eh2 iorF (lI 1) (eh1 (gI 1 4) (eh2 (aR (.object "TwoLevels$Choice")) (eh1 (gR 7 3) (lR 0)) (lI 2)))))
 (sInc 2 (nI 1))))
 (rtn (lI 1))))
theorem m_Rule_allBits : MJ 1 [] yX6_allBits (some .int) eI (d_Rule_allBits) := MJ_of (K := K_Rule_allBits) (ri := .ireturn) (n1 := 0) (n2 := 0) (n3 := 0)
 (SJ_sq (p0 := 0) (p1 := 5) (nN := 0) (nB := 0) (nC := 0) (SJ_istore_n (i := 1) (j := 1) (p0 := 0) (p1 := 4) (EJ_getI (t := 7) (c := 6) (kf := 1) (r := (RX6, TX6, 5)) (p0 := 0) (p1 := 1) (EJ_aload_n (j := 0) (i := 0) (pc := 0) D_Rule_allBits_0 rfl) D_Rule_allBits_1 ⟨rfl, rfl, by decide, q_391⟩ (fun _ _ => rfl)) D_Rule_allBits_4 rfl)
 (SJ_sq (p0 := 5) (p1 := 33) (nN := 0) (nB := 0) (nC := 0) (SJ_sq (p0 := 5) (p1 := 7) (nN := 33) (nB := 0) (nC := 0) (SJ_istore_n (i := 2) (j := 2) (p0 := 5) (p1 := 6) (EJ_iconst (n := 0) (v := (nI 0)) (pc := 5) D_Rule_allBits_5 (by decide +kernel)) D_Rule_allBits_6 rfl)
 (SJ_loop (p0 := 7) (pB := 15) (pS := 27) (pE := 33) (CJ_lt' (off := 21) (tgt := 33) (p0 := 7) (p1 := 8) (p2 := 12) (EJ_iload_n (j := 2) (i := 2) (pc := 7) D_Rule_allBits_7 rfl) (EJ_getI (t := 7) (c := 6) (kf := 4) (r := (RX6, TX6, 5)) (p0 := 8) (p1 := 9) (EJ_aload_n (j := 0) (i := 0) (pc := 8) D_Rule_allBits_8 rfl) D_Rule_allBits_9 ⟨rfl, rfl, by decide, q_400⟩ (fun _ _ => rfl)) D_Rule_allBits_12 rfl)
 (SJ_istore_n (i := 1) (j := 1) (p0 := 15) (p1 := 26) (EJ_ior (p0 := 15) (p1 := 16) (p2 := 25) (EJ_iload_n (j := 1) (i := 1) (pc := 15) D_Rule_allBits_15 rfl) (EJ_getI (t := 1) (c := 0) (kf := 4) (r := (RX0, TX0, 11)) (p0 := 16) (p1 := 22) (EJ_aald (p0 := 16) (p1 := 20) (p2 := 21) (EJ_getR (t := 7) (c := 6) (kf := 3) (r := (RX6, TX6, 5)) (p0 := 16) (p1 := 17) (EJ_aload_n (j := 0) (i := 0) (pc := 16) D_Rule_allBits_16 rfl) D_Rule_allBits_17 ⟨rfl, rfl, by decide, q_397⟩ (fun _ _ => rfl)) (EJ_iload_n (j := 2) (i := 2) (pc := 20) D_Rule_allBits_20 rfl) D_Rule_allBits_21 (Or.inl ⟨_, rfl⟩)) D_Rule_allBits_22 ⟨rfl, rfl, by decide, q_427⟩ (fun _ _ => rfl)) D_Rule_allBits_25) D_Rule_allBits_26 rfl)
 (SJ_post (SJ_iinc (i := 2) (n := 1) (v := (nI 1)) (pc := 27) D_Rule_allBits_27 (by decide +kernel)) (Lead.goto (K := K_Rule_allBits) (pc := 30) (tgt := 7) D_Rule_allBits_30 rfl))))
 (SJ_ret (p0 := 33) (p1 := 34) (EJ_iload_n (j := 1) (i := 1) (pc := 33) D_Rule_allBits_33 rfl) D_Rule_allBits_34)))
 RTm_int q_648 (by decide +kernel) rfl (fun h => by cases h) (show 3 ≤ 40 from by decide) (fun _ => trivial)
