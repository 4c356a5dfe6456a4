/-! the program: part 2 -/
theorem D_Fit_findSpans_0 : decode cX2_findSpans 0 = .ok (.aload_n 0, 1) := by decide +kernel
theorem D_Fit_findSpans_1 : decode cX2_findSpans 1 = .ok (.getfield 52, 3) := by decide +kernel
theorem D_Fit_findSpans_4 : decode cX2_findSpans 4 = .ok (.ifCond .eq (4), 3) := by decide +kernel
theorem D_Fit_findSpans_7 : decode cX2_findSpans 7 = .ok (.return_, 1) := by decide +kernel
theorem D_Fit_findSpans_8 : decode cX2_findSpans 8 = .ok (.aload_n 0, 1) := by decide +kernel
theorem D_Fit_findSpans_9 : decode cX2_findSpans 9 = .ok (.iconst (1), 1) := by decide +kernel
theorem D_Fit_findSpans_10 : decode cX2_findSpans 10 = .ok (.putfield 52, 3) := by decide +kernel
theorem D_Fit_findSpans_13 : decode cX2_findSpans 13 = .ok (.aload_n 0, 1) := by decide +kernel
theorem D_Fit_findSpans_14 : decode cX2_findSpans 14 = .ok (.getfield 19, 3) := by decide +kernel
theorem D_Fit_findSpans_17 : decode cX2_findSpans 17 = .ok (.iconst (0), 1) := by decide +kernel
theorem D_Fit_findSpans_18 : decode cX2_findSpans 18 = .ok (.invokestatic 56, 3) := by decide +kernel
theorem D_Fit_findSpans_21 : decode cX2_findSpans 21 = .ok (.aload_n 0, 1) := by decide +kernel
theorem D_Fit_findSpans_22 : decode cX2_findSpans 22 = .ok (.getfield 49, 3) := by decide +kernel
theorem D_Fit_findSpans_25 : decode cX2_findSpans 25 = .ok (.istore_n 1, 1) := by decide +kernel
theorem D_Fit_findSpans_26 : decode cX2_findSpans 26 = .ok (.iload_n 1, 1) := by decide +kernel
theorem D_Fit_findSpans_27 : decode cX2_findSpans 27 = .ok (.ifCond .lt (62), 3) := by decide +kernel
theorem D_Fit_findSpans_30 : decode cX2_findSpans 30 = .ok (.iconst (1), 1) := by decide +kernel
theorem D_Fit_findSpans_31 : decode cX2_findSpans 31 = .ok (.istore_n 2, 1) := by decide +kernel
theorem D_Fit_findSpans_32 : decode cX2_findSpans 32 = .ok (.iconst (0), 1) := by decide +kernel
theorem D_Fit_findSpans_33 : decode cX2_findSpans 33 = .ok (.istore_n 3, 1) := by decide +kernel
theorem D_Fit_findSpans_34 : decode cX2_findSpans 34 = .ok (.iload_n 2, 1) := by decide +kernel
theorem D_Fit_findSpans_35 : decode cX2_findSpans 35 = .ok (.ifCond .eq (48), 3) := by decide +kernel
theorem D_Fit_findSpans_38 : decode cX2_findSpans 38 = .ok (.iload_n 3, 1) := by decide +kernel
theorem D_Fit_findSpans_39 : decode cX2_findSpans 39 = .ok (.ldc 69, 2) := by decide +kernel
theorem D_Fit_findSpans_41 : decode cX2_findSpans 41 = .ok (.if_icmp .ge (42), 3) := by decide +kernel
theorem D_Fit_findSpans_44 : decode cX2_findSpans 44 = .ok (.iconst (0), 1) := by decide +kernel
theorem D_Fit_findSpans_45 : decode cX2_findSpans 45 = .ok (.istore_n 2, 1) := by decide +kernel
theorem D_Fit_findSpans_46 : decode cX2_findSpans 46 = .ok (.iconst (0), 1) := by decide +kernel
theorem D_Fit_findSpans_47 : decode cX2_findSpans 47 = .ok (.istore 4, 2) := by decide +kernel
theorem D_Fit_findSpans_49 : decode cX2_findSpans 49 = .ok (.iload 4, 2) := by decide +kernel
theorem D_Fit_findSpans_51 : decode cX2_findSpans 51 = .ok (.aload_n 0, 1) := by decide +kernel
theorem D_Fit_findSpans_52 : decode cX2_findSpans 52 = .ok (.getfield 37, 3) := by decide +kernel
theorem D_Fit_findSpans_55 : decode cX2_findSpans 55 = .ok (.getfield 70, 3) := by decide +kernel
theorem D_Fit_findSpans_58 : decode cX2_findSpans 58 = .ok (.if_icmp .ge (19), 3) := by decide +kernel
theorem D_Fit_findSpans_61 : decode cX2_findSpans 61 = .ok (.iload_n 2, 1) := by decide +kernel
theorem D_Fit_findSpans_62 : decode cX2_findSpans 62 = .ok (.aload_n 0, 1) := by decide +kernel
theorem D_Fit_findSpans_63 : decode cX2_findSpans 63 = .ok (.iload 4, 2) := by decide +kernel
theorem D_Fit_findSpans_65 : decode cX2_findSpans 65 = .ok (.iload_n 1, 1) := by decide +kernel
theorem D_Fit_findSpans_66 : decode cX2_findSpans 66 = .ok (.invokevirtual 71, 3) := by decide +kernel
theorem D_Fit_findSpans_69 : decode cX2_findSpans 69 = .ok (.ior, 1) := by decide +kernel
theorem D_Fit_findSpans_70 : decode cX2_findSpans 70 = .ok (.istore_n 2, 1) := by decide +kernel
theorem D_Fit_findSpans_71 : decode cX2_findSpans 71 = .ok (.iinc 4 (1), 3) := by decide +kernel
theorem D_Fit_findSpans_74 : decode cX2_findSpans 74 = .ok (.goto (-25), 3) := by decide +kernel
theorem D_Fit_findSpans_77 : decode cX2_findSpans 77 = .ok (.iinc 3 (1), 3) := by decide +kernel
theorem D_Fit_findSpans_80 : decode cX2_findSpans 80 = .ok (.goto (-46), 3) := by decide +kernel
theorem D_Fit_findSpans_83 : decode cX2_findSpans 83 = .ok (.iinc 1 (-1), 3) := by decide +kernel
theorem D_Fit_findSpans_86 : decode cX2_findSpans 86 = .ok (.goto (-60), 3) := by decide +kernel
theorem D_Fit_findSpans_89 : decode cX2_findSpans 89 = .ok (.return_, 1) := by decide +kernel
def K_Fit_findSpans : SC := (cX2_findSpans, "TwoLevels$Fit", 5, 3, false, [3, 43, 44, 46], NoQ)
def d_Fit_findSpans : MD Unit := mth tt 5 (sq (sIf (eh1 z_ne (eh1 (gI 3 5) (lR 0))) rtnU sk)
 (sq (sh2 (pI true 3 5) (lR 0) (eC (nI 1)))
 (sq (sE (kS d_Arrays_fill [vR (eh1 (gR 3 4) (lR 0)), vI (eC (nI 0))]))
 (sq (sq (sI1 1 (eh1 (gI 3 2) (lR 0)))
 (loop (eh1 z_ge (lI 1))
 (sq (sI1 2 (eC (nI 1)))
 (sq (sI1 3 (eC (nI 0)))
 (loop (cAnd (eh1 z_ne (lI 2)) (eh2 c_lt (lI 3) (eC (nI 1000000))))
 (sq (sI1 2 (eC (nI 0)))
 (sq (sI1 4 (eC (nI 0)))
 (loop (eh2 c_lt (lI 4) (eh1 (gI 11 6) (eh1 (gR 3 0) (lR 0))))
 (sI1 2 (eh2 iorF (lI 2) (kV 3 d_Fit_growSpans (lR 0) [vI (lI 4), vI (lI 1)])))
 (sInc 4 (nI 1)))))
 (sInc 3 (nI 1)))))
 (sInc 1 (-1))))
 rtnU))))
theorem m_Fit_findSpans : MJ 3 [3, 43, 44, 46] yX2_findSpans none eU (d_Fit_findSpans) := MJ_of (K := K_Fit_findSpans) (ri := .return_) (n1 := 0) (n2 := 0) (n3 := 0)
 (SJ_sq (p0 := 0) (p1 := 8) (nN := 0) (nB := 0) (nC := 0) (SJ_if (p0 := 0) (pT := 7) (pF := 8) (nN := 8) (nB := 0) (nC := 0) (CZ_ne' (off := 4) (tgt := 8) (p0 := 0) (p1 := 4) (EJ_getI (t := 3) (c := 2) (kf := 5) (r := (RX2, TX2, 12)) (p0 := 0) (p1 := 1) (EJ_aload_n (j := 0) (i := 0) (pc := 0) D_Fit_findSpans_0 rfl) D_Fit_findSpans_1 ⟨rfl, rfl, by decide, q_200⟩ (fun _ _ => rfl)) D_Fit_findSpans_4 rfl) (SJ_retU (pc := 7) D_Fit_findSpans_7) SJ_sk)
 (SJ_sq (p0 := 8) (p1 := 13) (nN := 0) (nB := 0) (nC := 0) (SJ_putI (z := true) (t := 3) (c := 2) (kf := 5) (r := (RX2, TX2, 12)) (p0 := 8) (p1 := 9) (p2 := 10) (EJ_aload_n (j := 0) (i := 0) (pc := 8) D_Fit_findSpans_8 rfl) (EJ_iconst (n := 1) (v := (nI 1)) (pc := 9) D_Fit_findSpans_9 (by decide +kernel)) D_Fit_findSpans_10 ⟨rfl, rfl, by decide, q_200⟩ (Or.inl rfl) (okZ_bool rfl) (fun _ _ => rfl) (show (3 : Nat) ∈ ([3, 43, 44, 46] : List Nat) from by decide))
 (SJ_sq (p0 := 13) (p1 := 21) (nN := 0) (nB := 0) (nC := 0) (SJ_void (p0 := 13) (p1 := 21) (EJ_callS (p0 := 13) (p1 := 18) (AJ_R (p0 := 13) (p1 := 17) (p2 := 18) (EJ_getR (t := 3) (c := 2) (kf := 4) (r := (RX2, TX2, 12)) (p0 := 13) (p1 := 14) (EJ_aload_n (j := 0) (i := 0) (pc := 13) D_Fit_findSpans_13 rfl) D_Fit_findSpans_14 ⟨rfl, rfl, by decide, q_199⟩ (fun _ _ => rfl)) (AJ_I (p0 := 17) (p1 := 18) (p2 := 18) (EJ_iconst (n := 0) (v := (nI 0)) (pc := 17) D_Fit_findSpans_17 (by decide +kernel)) AJ_nil)) m_Arrays_fill E1_U D_Fit_findSpans_18 q_672 q_673 q_100 ⟨by decide +kernel, by decide +kernel, by decide +kernel⟩ (by decide) (show 1 + 1 ≤ 3 from by decide) (show ∀ x_ ∈ ([43, 44, 46] : List Nat), x_ ∈ ([3, 43, 44, 46] : List Nat) from by decide)))
 (SJ_sq (p0 := 21) (p1 := 89) (nN := 0) (nB := 0) (nC := 0) (SJ_sq (p0 := 21) (p1 := 26) (nN := 89) (nB := 0) (nC := 0) (SJ_istore_n (i := 1) (j := 1) (p0 := 21) (p1 := 25) (EJ_getI (t := 3) (c := 2) (kf := 2) (r := (RX2, TX2, 12)) (p0 := 21) (p1 := 22) (EJ_aload_n (j := 0) (i := 0) (pc := 21) D_Fit_findSpans_21 rfl) D_Fit_findSpans_22 ⟨rfl, rfl, by decide, q_197⟩ (fun _ _ => rfl)) D_Fit_findSpans_25 rfl)
 (SJ_loop (p0 := 26) (pB := 30) (pS := 83) (pE := 89) (CZ_ge' (off := 62) (tgt := 89) (p0 := 26) (p1 := 27) (EJ_iload_n (j := 1) (i := 1) (pc := 26) D_Fit_findSpans_26 rfl) D_Fit_findSpans_27 rfl)
 (SJ_sq (p0 := 30) (p1 := 32) (nN := 83) (nB := 89) (nC := 83) (SJ_istore_n (i := 2) (j := 2) (p0 := 30) (p1 := 31) (EJ_iconst (n := 1) (v := (nI 1)) (pc := 30) D_Fit_findSpans_30 (by decide +kernel)) D_Fit_findSpans_31 rfl)
 (SJ_sq (p0 := 32) (p1 := 34) (nN := 83) (nB := 89) (nC := 83) (SJ_istore_n (i := 3) (j := 3) (p0 := 32) (p1 := 33) (EJ_iconst (n := 0) (v := (nI 0)) (pc := 32) D_Fit_findSpans_32 (by decide +kernel)) D_Fit_findSpans_33 rfl)
 (SJ_loop (p0 := 34) (pB := 44) (pS := 77) (pE := 83) (CJ_and (p0 := 34) (pM := 38) (pT := 44) (pF := 83) (CZ_ne' (off := 48) (tgt := 83) (p0 := 34) (p1 := 35) (EJ_iload_n (j := 2) (i := 2) (pc := 34) D_Fit_findSpans_34 rfl) D_Fit_findSpans_35 rfl) (CJ_lt' (off := 42) (tgt := 83) (p0 := 38) (p1 := 39) (p2 := 41) (EJ_iload_n (j := 3) (i := 3) (pc := 38) D_Fit_findSpans_38 rfl) (EJ_ldc (i := 69) (v := (nI 1000000)) (pc := 39) D_Fit_findSpans_39 q_683) D_Fit_findSpans_41 rfl))
 (SJ_sq (p0 := 44) (p1 := 46) (nN := 77) (nB := 83) (nC := 77) (SJ_istore_n (i := 2) (j := 2) (p0 := 44) (p1 := 45) (EJ_iconst (n := 0) (v := (nI 0)) (pc := 44) D_Fit_findSpans_44 (by decide +kernel)) D_Fit_findSpans_45 rfl)
 (SJ_sq (p0 := 46) (p1 := 49) (nN := 77) (nB := 83) (nC := 77) (SJ_istore (i := 4) (p0 := 46) (p1 := 47) (EJ_iconst (n := 0) (v := (nI 0)) (pc := 46) D_Fit_findSpans_46 (by decide +kernel)) D_Fit_findSpans_47)
 (SJ_loop (p0 := 49) (pB := 61) (pS := 71) (pE := 77) (CJ_lt' (off := 19) (tgt := 77) (p0 := 49) (p1 := 51) (p2 := 58) (EJ_iload (i := 4) (pc := 49) D_Fit_findSpans_49) (EJ_getI (t := 11) (c := 10) (kf := 6) (r := (RX10, TX10, 7)) (p0 := 51) (p1 := 55) (EJ_getR (t := 3) (c := 2) (kf := 0) (r := (RX2, TX2, 12)) (p0 := 51) (p1 := 52) (EJ_aload_n (j := 0) (i := 0) (pc := 51) D_Fit_findSpans_51 rfl) D_Fit_findSpans_52 ⟨rfl, rfl, by decide, q_195⟩ (fun _ _ => rfl)) D_Fit_findSpans_55 ⟨rfl, rfl, by decide, q_136⟩ (fun _ _ => rfl)) D_Fit_findSpans_58 rfl)
 (SJ_istore_n (i := 2) (j := 2) (p0 := 61) (p1 := 70) (EJ_ior (p0 := 61) (p1 := 62) (p2 := 69) (EJ_iload_n (j := 2) (i := 2) (pc := 61) D_Fit_findSpans_61 rfl) (EJ_callV (t := 3) (c := 2) (r := (RX2, TX2, 12)) (p0 := 62) (p1 := 63) (p2 := 66) (EJ_aload_n (j := 0) (i := 0) (pc := 62) D_Fit_findSpans_62 rfl) (AJ_I (p0 := 63) (p1 := 65) (p2 := 66) (EJ_iload (i := 4) (pc := 63) D_Fit_findSpans_63) (AJ_I (p0 := 65) (p1 := 66) (p2 := 66) (EJ_iload_n (j := 1) (i := 1) (pc := 65) D_Fit_findSpans_65 rfl) AJ_nil)) m_Fit_growSpans E1_I D_Fit_findSpans_66 rfl rfl rfl q_684 q_685 q_18 q_95 ⟨by decide +kernel, by decide +kernel, by decide +kernel⟩ (by decide) (show 2 + 1 ≤ 3 from by decide) (show ∀ x_ ∈ ([44] : List Nat), x_ ∈ ([3, 43, 44, 46] : List Nat) from by decide)) D_Fit_findSpans_69) D_Fit_findSpans_70 rfl)
 (SJ_post (SJ_iinc (i := 4) (n := 1) (v := (nI 1)) (pc := 71) D_Fit_findSpans_71 (by decide +kernel)) (Lead.goto (K := K_Fit_findSpans) (pc := 74) (tgt := 49) D_Fit_findSpans_74 rfl)))))
 (SJ_post (SJ_iinc (i := 3) (n := 1) (v := (nI 1)) (pc := 77) D_Fit_findSpans_77 (by decide +kernel)) (Lead.goto (K := K_Fit_findSpans) (pc := 80) (tgt := 34) D_Fit_findSpans_80 rfl)))))
 (SJ_post (SJ_iinc (i := 1) (n := -1) (v := (-1)) (pc := 83) D_Fit_findSpans_83 (by decide +kernel)) (Lead.goto (K := K_Fit_findSpans) (pc := 86) (tgt := 26) D_Fit_findSpans_86 rfl))))
 (SJ_retU (pc := 89) D_Fit_findSpans_89)))))
 RTm_void q_682 (by decide +kernel) rfl (fun h => by cases h) (show 5 ≤ 40 from by decide) (fun _ => trivial)
theorem D_Fit_begin_0 : decode cX2_begin 0 = .ok (.aload_n 0, 1) := by decide +kernel
theorem D_Fit_begin_1 : decode cX2_begin 1 = .ok (.aload_n 1, 1) := by decide +kernel
theorem D_Fit_begin_2 : decode cX2_begin 2 = .ok (.putfield 87, 3) := by decide +kernel
theorem D_Fit_begin_5 : decode cX2_begin 5 = .ok (.aload_n 0, 1) := by decide +kernel
theorem D_Fit_begin_6 : decode cX2_begin 6 = .ok (.iconst (1), 1) := by decide +kernel
theorem D_Fit_begin_7 : decode cX2_begin 7 = .ok (.putfield 91, 3) := by decide +kernel
theorem D_Fit_begin_10 : decode cX2_begin 10 = .ok (.aload_n 0, 1) := by decide +kernel
theorem D_Fit_begin_11 : decode cX2_begin 11 = .ok (.getfield 27, 3) := by decide +kernel
theorem D_Fit_begin_14 : decode cX2_begin 14 = .ok (.iconst (0), 1) := by decide +kernel
theorem D_Fit_begin_15 : decode cX2_begin 15 = .ok (.invokestatic 56, 3) := by decide +kernel
theorem D_Fit_begin_18 : decode cX2_begin 18 = .ok (.aload_n 1, 1) := by decide +kernel
theorem D_Fit_begin_19 : decode cX2_begin 19 = .ok (.getfield 94, 3) := by decide +kernel
theorem D_Fit_begin_22 : decode cX2_begin 22 = .ok (.iconst (0), 1) := by decide +kernel
theorem D_Fit_begin_23 : decode cX2_begin 23 = .ok (.iaload, 1) := by decide +kernel
theorem D_Fit_begin_24 : decode cX2_begin 24 = .ok (.istore_n 2, 1) := by decide +kernel
theorem D_Fit_begin_25 : decode cX2_begin 25 = .ok (.iload_n 2, 1) := by decide +kernel
theorem D_Fit_begin_26 : decode cX2_begin 26 = .ok (.bipush (32), 2) := by decide +kernel
theorem D_Fit_begin_28 : decode cX2_begin 28 = .ok (.if_icmp .ge (18), 3) := by decide +kernel
theorem D_Fit_begin_31 : decode cX2_begin 31 = .ok (.aload_n 0, 1) := by decide +kernel
theorem D_Fit_begin_32 : decode cX2_begin 32 = .ok (.getfield 13, 3) := by decide +kernel
theorem D_Fit_begin_35 : decode cX2_begin 35 = .ok (.iload_n 2, 1) := by decide +kernel
theorem D_Fit_begin_36 : decode cX2_begin 36 = .ok (.iaload, 1) := by decide +kernel
theorem D_Fit_begin_37 : decode cX2_begin 37 = .ok (.iconst (1), 1) := by decide +kernel
theorem D_Fit_begin_38 : decode cX2_begin 38 = .ok (.iand, 1) := by decide +kernel
theorem D_Fit_begin_39 : decode cX2_begin 39 = .ok (.ifCond .ne (7), 3) := by decide +kernel
theorem D_Fit_begin_42 : decode cX2_begin 42 = .ok (.iconst (1), 1) := by decide +kernel
theorem D_Fit_begin_43 : decode cX2_begin 43 = .ok (.goto (4), 3) := by decide +kernel
theorem D_Fit_begin_46 : decode cX2_begin 46 = .ok (.iconst (0), 1) := by decide +kernel
theorem D_Fit_begin_47 : decode cX2_begin 47 = .ok (.istore_n 3, 1) := by decide +kernel
theorem D_Fit_begin_48 : decode cX2_begin 48 = .ok (.aload_n 1, 1) := by decide +kernel
theorem D_Fit_begin_49 : decode cX2_begin 49 = .ok (.getfield 97, 3) := by decide +kernel
theorem D_Fit_begin_52 : decode cX2_begin 52 = .ok (.ifCond .eq (11), 3) := by decide +kernel
theorem D_Fit_begin_55 : decode cX2_begin 55 = .ok (.iload_n 3, 1) := by decide +kernel
theorem D_Fit_begin_56 : decode cX2_begin 56 = .ok (.ifCond .ne (7), 3) := by decide +kernel
theorem D_Fit_begin_59 : decode cX2_begin 59 = .ok (.aload_n 0, 1) := by decide +kernel
theorem D_Fit_begin_60 : decode cX2_begin 60 = .ok (.invokevirtual 66, 3) := by decide +kernel
theorem D_Fit_begin_63 : decode cX2_begin 63 = .ok (.return_, 1) := by decide +kernel
def K_Fit_begin : SC := (cX2_begin, "TwoLevels$Fit", 4, 4, false, [3, 43, 44, 46], NoQ)
def d_Fit_begin : MD Unit := mth tt 4 (sq (sh2 (pR 3 6) (lR 0) (lR 1))
 (sq (sh2 (pI true 3 7) (lR 0) (eC (nI 1)))
 (sq (sE (kS d_Arrays_fill [vR (eh1 (gR 3 9) (lR 0)), vI (eC (nI 0))]))
 (sq (sI1 2 (eh2 (aI .int) (eh1 (gR 7 0) (lR 1)) (eC (nI 0))))
 (sq (sI1 3 (eIf (cAnd (eh2 c_lt (lI 2) (eC (nI 32))) (eh1 z_eq (eh2 iandF (eh2 (aI .int) (eh1 (gR 3 3) (lR 0)) (lI 2)) (eC (nI 1))))) (eC (nI 1)) (eC (nI 0))))
 (sq (sIf (cAnd (eh1 z_ne (eh1 (gI 7 1) (lR 1))) (cNot (eh1 z_ne (lI 3)))) (sE (kV 3 d_Fit_findSpans (lR 0) [])) sk)
 rtnU))))))
theorem m_Fit_begin : MJ 4 [3, 43, 44, 46] yX2_begin none eU (d_Fit_begin) := MJ_of (K := K_Fit_begin) (ri := .return_) (n1 := 0) (n2 := 0) (n3 := 0)
 (SJ_sq (p0 := 0) (p1 := 5) (nN := 0) (nB := 0) (nC := 0) (SJ_putR (t := 3) (c := 2) (kf := 6) (r := (RX2, TX2, 12)) (p0 := 0) (p1 := 1) (p2 := 2) (EJ_aload_n (j := 0) (i := 0) (pc := 0) D_Fit_begin_0 rfl) (EJ_aload_n (j := 1) (i := 1) (pc := 1) D_Fit_begin_1 rfl) D_Fit_begin_2 ⟨rfl, rfl, by decide, q_201⟩ (Or.inl rfl) (Or.inl ⟨_, rfl⟩) (fun _ _ => rfl) (show (3 : Nat) ∈ ([3, 43, 44, 46] : List Nat) from by decide))
 (SJ_sq (p0 := 5) (p1 := 10) (nN := 0) (nB := 0) (nC := 0) (SJ_putI (z := true) (t := 3) (c := 2) (kf := 7) (r := (RX2, TX2, 12)) (p0 := 5) (p1 := 6) (p2 := 7) (EJ_aload_n (j := 0) (i := 0) (pc := 5) D_Fit_begin_5 rfl) (EJ_iconst (n := 1) (v := (nI 1)) (pc := 6) D_Fit_begin_6 (by decide +kernel)) D_Fit_begin_7 ⟨rfl, rfl, by decide, q_202⟩ (Or.inl rfl) (okZ_bool rfl) (fun _ _ => rfl) (show (3 : Nat) ∈ ([3, 43, 44, 46] : List Nat) from by decide))
 (SJ_sq (p0 := 10) (p1 := 18) (nN := 0) (nB := 0) (nC := 0) (SJ_void (p0 := 10) (p1 := 18) (EJ_callS (p0 := 10) (p1 := 15) (AJ_R (p0 := 10) (p1 := 14) (p2 := 15) (EJ_getR (t := 3) (c := 2) (kf := 9) (r := (RX2, TX2, 12)) (p0 := 10) (p1 := 11) (EJ_aload_n (j := 0) (i := 0) (pc := 10) D_Fit_begin_10 rfl) D_Fit_begin_11 ⟨rfl, rfl, by decide, q_204⟩ (fun _ _ => rfl)) (AJ_I (p0 := 14) (p1 := 15) (p2 := 15) (EJ_iconst (n := 0) (v := (nI 0)) (pc := 14) D_Fit_begin_14 (by decide +kernel)) AJ_nil)) m_Arrays_fill E1_U D_Fit_begin_15 q_672 q_673 q_100 ⟨by decide +kernel, by decide +kernel, by decide +kernel⟩ (by decide) (show 1 + 1 ≤ 4 from by decide) (show ∀ x_ ∈ ([43, 44, 46] : List Nat), x_ ∈ ([3, 43, 44, 46] : List Nat) from by decide)))
 (SJ_sq (p0 := 18) (p1 := 25) (nN := 0) (nB := 0) (nC := 0) (SJ_istore_n (i := 2) (j := 2) (p0 := 18) (p1 := 24) (EJ_iald (p0 := 18) (p1 := 22) (p2 := 23) (EJ_getR (t := 7) (c := 6) (kf := 0) (r := (RX6, TX6, 5)) (p0 := 18) (p1 := 19) (EJ_aload_n (j := 1) (i := 1) (pc := 18) D_Fit_begin_18 rfl) D_Fit_begin_19 ⟨rfl, rfl, by decide, q_389⟩ (fun _ _ => rfl)) (EJ_iconst (n := 0) (v := (nI 0)) (pc := 22) D_Fit_begin_22 (by decide +kernel)) D_Fit_begin_23) D_Fit_begin_24 rfl)
 (SJ_sq (p0 := 25) (p1 := 48) (nN := 0) (nB := 0) (nC := 0) (SJ_istore_n (i := 3) (j := 3) (p0 := 25) (p1 := 47) (EJ_if (p0 := 25) (pT := 42) (pF := 46) (pE := 43) (p1 := 47) (CJ_and (p0 := 25) (pM := 31) (pT := 42) (pF := 46) (CJ_lt' (off := 18) (tgt := 46) (p0 := 25) (p1 := 26) (p2 := 28) (EJ_iload_n (j := 2) (i := 2) (pc := 25) D_Fit_begin_25 rfl) (EJ_bipush (n := 32) (v := (nI 32)) (pc := 26) D_Fit_begin_26 (by decide +kernel)) D_Fit_begin_28 rfl) (CZ_eq' (off := 7) (tgt := 46) (p0 := 31) (p1 := 39) (EJ_iand (p0 := 31) (p1 := 37) (p2 := 38) (EJ_iald (p0 := 31) (p1 := 35) (p2 := 36) (EJ_getR (t := 3) (c := 2) (kf := 3) (r := (RX2, TX2, 12)) (p0 := 31) (p1 := 32) (EJ_aload_n (j := 0) (i := 0) (pc := 31) D_Fit_begin_31 rfl) D_Fit_begin_32 ⟨rfl, rfl, by decide, q_198⟩ (fun _ _ => rfl)) (EJ_iload_n (j := 2) (i := 2) (pc := 35) D_Fit_begin_35 rfl) D_Fit_begin_36) (EJ_iconst (n := 1) (v := (nI 1)) (pc := 37) D_Fit_begin_37 (by decide +kernel)) D_Fit_begin_38) D_Fit_begin_39 rfl)) (EJ_iconst (n := 1) (v := (nI 1)) (pc := 42) D_Fit_begin_42 (by decide +kernel)) (Lead.goto (K := K_Fit_begin) (pc := 43) (tgt := 47) D_Fit_begin_43 rfl) (EJ_iconst (n := 0) (v := (nI 0)) (pc := 46) D_Fit_begin_46 (by decide +kernel))) D_Fit_begin_47 rfl)
 (SJ_sq (p0 := 48) (p1 := 63) (nN := 0) (nB := 0) (nC := 0) (SJ_if (p0 := 48) (pT := 59) (pF := 63) (nN := 63) (nB := 0) (nC := 0) (CJ_and (p0 := 48) (pM := 55) (pT := 59) (pF := 63) (CZ_ne' (off := 11) (tgt := 63) (p0 := 48) (p1 := 52) (EJ_getI (t := 7) (c := 6) (kf := 1) (r := (RX6, TX6, 5)) (p0 := 48) (p1 := 49) (EJ_aload_n (j := 1) (i := 1) (pc := 48) D_Fit_begin_48 rfl) D_Fit_begin_49 ⟨rfl, rfl, by decide, q_393⟩ (fun _ _ => rfl)) D_Fit_begin_52 rfl) (CJ_not (p0 := 55) (pT := 59) (pF := 63) (CZ_ne (off := 7) (tgt := 63) (p0 := 55) (p1 := 56) (EJ_iload_n (j := 3) (i := 3) (pc := 55) D_Fit_begin_55 rfl) D_Fit_begin_56 rfl))) (SJ_void (p0 := 59) (p1 := 63) (EJ_callV (t := 3) (c := 2) (r := (RX2, TX2, 12)) (p0 := 59) (p1 := 60) (p2 := 60) (EJ_aload_n (j := 0) (i := 0) (pc := 59) D_Fit_begin_59 rfl) AJ_nil m_Fit_findSpans E1_U D_Fit_begin_60 rfl rfl rfl q_680 q_681 q_17 q_95 ⟨by decide +kernel, by decide +kernel, by decide +kernel⟩ (by decide) (show 3 + 1 ≤ 4 from by decide) (show ∀ x_ ∈ ([3, 43, 44, 46] : List Nat), x_ ∈ ([3, 43, 44, 46] : List Nat) from by decide))) SJ_sk)
 (SJ_retU (pc := 63) D_Fit_begin_63)))))))
 RTm_void q_732 (by decide +kernel) rfl (fun h => by cases h) (show 4 ≤ 40 from by decide) (fun _ => trivial)
theorem D_Fit_endsElsewhere_0 : decode cX2_endsElsewhere 0 = .ok (.aload_n 0, 1) := by decide +kernel
theorem D_Fit_endsElsewhere_1 : decode cX2_endsElsewhere 1 = .ok (.getfield 27, 3) := by decide +kernel
theorem D_Fit_endsElsewhere_4 : decode cX2_endsElsewhere 4 = .ok (.iload_n 1, 1) := by decide +kernel
theorem D_Fit_endsElsewhere_5 : decode cX2_endsElsewhere 5 = .ok (.iaload, 1) := by decide +kernel
theorem D_Fit_endsElsewhere_6 : decode cX2_endsElsewhere 6 = .ok (.aload_n 0, 1) := by decide +kernel
theorem D_Fit_endsElsewhere_7 : decode cX2_endsElsewhere 7 = .ok (.getfield 27, 3) := by decide +kernel
theorem D_Fit_endsElsewhere_10 : decode cX2_endsElsewhere 10 = .ok (.iload_n 1, 1) := by decide +kernel
theorem D_Fit_endsElsewhere_11 : decode cX2_endsElsewhere 11 = .ok (.iaload, 1) := by decide +kernel
theorem D_Fit_endsElsewhere_12 : decode cX2_endsElsewhere 12 = .ok (.ineg, 1) := by decide +kernel
theorem D_Fit_endsElsewhere_13 : decode cX2_endsElsewhere 13 = .ok (.iand, 1) := by decide +kernel
theorem D_Fit_endsElsewhere_14 : decode cX2_endsElsewhere 14 = .ok (.istore_n 2, 1) := by decide +kernel
theorem D_Fit_endsElsewhere_15 : decode cX2_endsElsewhere 15 = .ok (.iload_n 2, 1) := by decide +kernel
theorem D_Fit_endsElsewhere_16 : decode cX2_endsElsewhere 16 = .ok (.ifCond .ne (5), 3) := by decide +kernel
theorem D_Fit_endsElsewhere_19 : decode cX2_endsElsewhere 19 = .ok (.iconst (0), 1) := by decide +kernel
theorem D_Fit_endsElsewhere_20 : decode cX2_endsElsewhere 20 = .ok (.ireturn, 1) := by decide +kernel
theorem D_Fit_endsElsewhere_21 : decode cX2_endsElsewhere 21 = .ok (.aload_n 0, 1) := by decide +kernel
theorem D_Fit_endsElsewhere_22 : decode cX2_endsElsewhere 22 = .ok (.getfield 27, 3) := by decide +kernel
theorem D_Fit_endsElsewhere_25 : decode cX2_endsElsewhere 25 = .ok (.iload_n 1, 1) := by decide +kernel
theorem D_Fit_endsElsewhere_26 : decode cX2_endsElsewhere 26 = .ok (.dup2, 1) := by decide +kernel
theorem D_Fit_endsElsewhere_27 : decode cX2_endsElsewhere 27 = .ok (.iaload, 1) := by decide +kernel
theorem D_Fit_endsElsewhere_28 : decode cX2_endsElsewhere 28 = .ok (.iload_n 2, 1) := by decide +kernel
theorem D_Fit_endsElsewhere_29 : decode cX2_endsElsewhere 29 = .ok (.ixor, 1) := by decide +kernel
theorem D_Fit_endsElsewhere_30 : decode cX2_endsElsewhere 30 = .ok (.iastore, 1) := by decide +kernel
theorem D_Fit_endsElsewhere_31 : decode cX2_endsElsewhere 31 = .ok (.aload_n 0, 1) := by decide +kernel
theorem D_Fit_endsElsewhere_32 : decode cX2_endsElsewhere 32 = .ok (.getfield 24, 3) := by decide +kernel
theorem D_Fit_endsElsewhere_35 : decode cX2_endsElsewhere 35 = .ok (.iload_n 1, 1) := by decide +kernel
theorem D_Fit_endsElsewhere_36 : decode cX2_endsElsewhere 36 = .ok (.iconst (1), 1) := by decide +kernel
theorem D_Fit_endsElsewhere_37 : decode cX2_endsElsewhere 37 = .ok (.iadd, 1) := by decide +kernel
theorem D_Fit_endsElsewhere_38 : decode cX2_endsElsewhere 38 = .ok (.iload_n 2, 1) := by decide +kernel
theorem D_Fit_endsElsewhere_39 : decode cX2_endsElsewhere 39 = .ok (.iconst (1), 1) := by decide +kernel
theorem D_Fit_endsElsewhere_40 : decode cX2_endsElsewhere 40 = .ok (.isub, 1) := by decide +kernel
theorem D_Fit_endsElsewhere_41 : decode cX2_endsElsewhere 41 = .ok (.invokestatic 128, 3) := by decide +kernel
theorem D_Fit_endsElsewhere_44 : decode cX2_endsElsewhere 44 = .ok (.iastore, 1) := by decide +kernel
theorem D_Fit_endsElsewhere_45 : decode cX2_endsElsewhere 45 = .ok (.iconst (1), 1) := by decide +kernel
theorem D_Fit_endsElsewhere_46 : decode cX2_endsElsewhere 46 = .ok (.ireturn, 1) := by decide +kernel
def K_Fit_endsElsewhere : SC := (cX2_endsElsewhere, "TwoLevels$Fit", 3, 2, false, [45, 46], NoQ)
def d_Fit_endsElsewhere : MD Int32 := mth zz 3 (sq (sI1 2 (eh2 iandF (eh2 (aI .int) (eh1 (gR 3 9) (lR 0)) (lI 1)) (eh1 inegF (eh2 (aI .int) (eh1 (gR 3 9) (lR 0)) (lI 1)))))
 (sq (sIf (eh1 z_eq (lI 2)) (rtn (eC (nI 0))) sk)
 (sq (su3 (aI .int) (uA [46] (fun x y => x ^^^ y)) (eh1 (gR 3 9) (lR 0)) (lI 1) (lI 2))
 (sq (sh3 (stI [45]) (eh1 (gR 3 8) (lR 0)) (eh2 iaddF (lI 1) (eC (nI 1))) (kS d_Integer_bitCount [vI (eh2 isubF (lI 2) (eC (nI 1)))]))
 (rtn (eC (nI 1)))))))
theorem m_Fit_endsElsewhere : MJ 2 [45, 46] yX2_endsElsewhere (some .boolean) eI (d_Fit_endsElsewhere) := MJ_of (K := K_Fit_endsElsewhere) (ri := .ireturn) (n1 := 0) (n2 := 0) (n3 := 0)
 (SJ_sq (p0 := 0) (p1 := 15) (nN := 0) (nB := 0) (nC := 0) (SJ_istore_n (i := 2) (j := 2) (p0 := 0) (p1 := 14) (EJ_iand (p0 := 0) (p1 := 6) (p2 := 13) (EJ_iald (p0 := 0) (p1 := 4) (p2 := 5) (EJ_getR (t := 3) (c := 2) (kf := 9) (r := (RX2, TX2, 12)) (p0 := 0) (p1 := 1) (EJ_aload_n (j := 0) (i := 0) (pc := 0) D_Fit_endsElsewhere_0 rfl) D_Fit_endsElsewhere_1 ⟨rfl, rfl, by decide, q_204⟩ (fun _ _ => rfl)) (EJ_iload_n (j := 1) (i := 1) (pc := 4) D_Fit_endsElsewhere_4 rfl) D_Fit_endsElsewhere_5) (EJ_ineg (p0 := 6) (p1 := 12) (EJ_iald (p0 := 6) (p1 := 10) (p2 := 11) (EJ_getR (t := 3) (c := 2) (kf := 9) (r := (RX2, TX2, 12)) (p0 := 6) (p1 := 7) (EJ_aload_n (j := 0) (i := 0) (pc := 6) D_Fit_endsElsewhere_6 rfl) D_Fit_endsElsewhere_7 ⟨rfl, rfl, by decide, q_204⟩ (fun _ _ => rfl)) (EJ_iload_n (j := 1) (i := 1) (pc := 10) D_Fit_endsElsewhere_10 rfl) D_Fit_endsElsewhere_11) D_Fit_endsElsewhere_12) D_Fit_endsElsewhere_13) D_Fit_endsElsewhere_14 rfl)
 (SJ_sq (p0 := 15) (p1 := 21) (nN := 0) (nB := 0) (nC := 0) (SJ_if (p0 := 15) (pT := 19) (pF := 21) (nN := 21) (nB := 0) (nC := 0) (CZ_eq' (off := 5) (tgt := 21) (p0 := 15) (p1 := 16) (EJ_iload_n (j := 2) (i := 2) (pc := 15) D_Fit_endsElsewhere_15 rfl) D_Fit_endsElsewhere_16 rfl) (SJ_ret (p0 := 19) (p1 := 20) (EJ_iconst (n := 0) (v := (nI 0)) (pc := 19) D_Fit_endsElsewhere_19 (by decide +kernel)) D_Fit_endsElsewhere_20) SJ_sk)
 (SJ_sq (p0 := 21) (p1 := 31) (nN := 0) (nB := 0) (nC := 0) (SJ_upA (ws := [46]) (f := (fun x y => x ^^^ y)) (p0 := 21) (p1 := 25) (p2 := 26) (p4 := 29) (EJ_getR (t := 3) (c := 2) (kf := 9) (r := (RX2, TX2, 12)) (p0 := 21) (p1 := 22) (EJ_aload_n (j := 0) (i := 0) (pc := 21) D_Fit_endsElsewhere_21 rfl) D_Fit_endsElsewhere_22 ⟨rfl, rfl, by decide, q_204⟩ (fun _ _ => rfl)) (EJ_iload_n (j := 1) (i := 1) (pc := 25) D_Fit_endsElsewhere_25 rfl) D_Fit_endsElsewhere_26 D_Fit_endsElsewhere_27 (EJ_iload_n (j := 2) (i := 2) (pc := 28) D_Fit_endsElsewhere_28 rfl) (Op2_ixor D_Fit_endsElsewhere_29) D_Fit_endsElsewhere_30 (show ∀ x_ ∈ ([46] : List Nat), x_ ∈ ([45, 46] : List Nat) from by decide))
 (SJ_sq (p0 := 31) (p1 := 45) (nN := 0) (nB := 0) (nC := 0) (SJ_iast (ws := [45]) (p0 := 31) (p1 := 35) (p2 := 38) (p3 := 44) (EJ_getR (t := 3) (c := 2) (kf := 8) (r := (RX2, TX2, 12)) (p0 := 31) (p1 := 32) (EJ_aload_n (j := 0) (i := 0) (pc := 31) D_Fit_endsElsewhere_31 rfl) D_Fit_endsElsewhere_32 ⟨rfl, rfl, by decide, q_203⟩ (fun _ _ => rfl)) (EJ_iadd (p0 := 35) (p1 := 36) (p2 := 37) (EJ_iload_n (j := 1) (i := 1) (pc := 35) D_Fit_endsElsewhere_35 rfl) (EJ_iconst (n := 1) (v := (nI 1)) (pc := 36) D_Fit_endsElsewhere_36 (by decide +kernel)) D_Fit_endsElsewhere_37) (EJ_callS (p0 := 38) (p1 := 41) (AJ_I (p0 := 38) (p1 := 41) (p2 := 41) (EJ_isub (p0 := 38) (p1 := 39) (p2 := 40) (EJ_iload_n (j := 2) (i := 2) (pc := 38) D_Fit_endsElsewhere_38 rfl) (EJ_iconst (n := 1) (v := (nI 1)) (pc := 39) D_Fit_endsElsewhere_39 (by decide +kernel)) D_Fit_endsElsewhere_40) AJ_nil) m_Integer_bitCount E1_I D_Fit_endsElsewhere_41 q_757 q_347 q_99 ⟨by decide +kernel, by decide +kernel, by decide +kernel⟩ (by decide) (show 1 + 1 ≤ 2 from by decide) (fun _ h => absurd h List.not_mem_nil)) D_Fit_endsElsewhere_44 (show ∀ x_ ∈ ([45] : List Nat), x_ ∈ ([45, 46] : List Nat) from by decide))
 (SJ_ret (p0 := 45) (p1 := 46) (EJ_iconst (n := 1) (v := (nI 1)) (pc := 45) D_Fit_endsElsewhere_45 (by decide +kernel)) D_Fit_endsElsewhere_46)))))
 RTm_bool q_756 (by decide +kernel) rfl (fun h => by cases h) (show 3 ≤ 40 from by decide) (fun _ => trivial)
theorem D_Rows_part_0 : decode cX5_part 0 = .ok (.lload_n 0, 1) := by decide +kernel
theorem D_Rows_part_1 : decode cX5_part 1 = .ok (.iconst (5), 1) := by decide +kernel
theorem D_Rows_part_2 : decode cX5_part 2 = .ok (.iload_n 2, 1) := by decide +kernel
theorem D_Rows_part_3 : decode cX5_part 3 = .ok (.iload 4, 2) := by decide +kernel
theorem D_Rows_part_5 : decode cX5_part 5 = .ok (.isub, 1) := by decide +kernel
theorem D_Rows_part_6 : decode cX5_part 6 = .ok (.imul, 1) := by decide +kernel
theorem D_Rows_part_7 : decode cX5_part 7 = .ok (.lshr, 1) := by decide +kernel
theorem D_Rows_part_8 : decode cX5_part 8 = .ok (.lstore 5, 2) := by decide +kernel
theorem D_Rows_part_10 : decode cX5_part 10 = .ok (.lload 5, 2) := by decide +kernel
theorem D_Rows_part_12 : decode cX5_part 12 = .ok (.lconst 1, 1) := by decide +kernel
theorem D_Rows_part_13 : decode cX5_part 13 = .ok (.iconst (5), 1) := by decide +kernel
theorem D_Rows_part_14 : decode cX5_part 14 = .ok (.iload 4, 2) := by decide +kernel
theorem D_Rows_part_16 : decode cX5_part 16 = .ok (.iload_n 3, 1) := by decide +kernel
theorem D_Rows_part_17 : decode cX5_part 17 = .ok (.isub, 1) := by decide +kernel
theorem D_Rows_part_18 : decode cX5_part 18 = .ok (.imul, 1) := by decide +kernel
theorem D_Rows_part_19 : decode cX5_part 19 = .ok (.lshl, 1) := by decide +kernel
theorem D_Rows_part_20 : decode cX5_part 20 = .ok (.lconst 1, 1) := by decide +kernel
theorem D_Rows_part_21 : decode cX5_part 21 = .ok (.lsub, 1) := by decide +kernel
theorem D_Rows_part_22 : decode cX5_part 22 = .ok (.land, 1) := by decide +kernel
theorem D_Rows_part_23 : decode cX5_part 23 = .ok (.lreturn, 1) := by decide +kernel
def K_Rows_part : SC := (cX5_part, "TwoLevels$Rows", 7, 1, false, [], NoQ)
def d_Rows_part : MD Int64 := mth tt 7 (sq (sJ1 5 (eh2 lshrF (lJ 0) (eh2 imulF (eC (nI 5)) (eh2 isubF (lI 2) (lI 4)))))
 (rtn (eh2 landF (lJ 5) (eh2 lsubF (eh2 lshlF (eC (lN 1)) (eh2 imulF (eC (nI 5)) (eh2 isubF (lI 4) (lI 3)))) (eC (lN 1))))))
theorem m_Rows_part : MJ 1 [] yX5_part (some .long) eJ (d_Rows_part) := MJ_of (K := K_Rows_part) (ri := .lreturn) (n1 := 0) (n2 := 0) (n3 := 0)
 (SJ_sq (p0 := 0) (p1 := 10) (nN := 0) (nB := 0) (nC := 0) (SJ_lstore (i := 5) (p0 := 0) (p1 := 8) (EJ_lshr (p0 := 0) (p1 := 1) (p2 := 7) (EJ_lload_n (j := 0) (i := 0) (pc := 0) D_Rows_part_0 rfl) (EJ_imul (p0 := 1) (p1 := 2) (p2 := 6) (EJ_iconst (n := 5) (v := (nI 5)) (pc := 1) D_Rows_part_1 (by decide +kernel)) (EJ_isub (p0 := 2) (p1 := 3) (p2 := 5) (EJ_iload_n (j := 2) (i := 2) (pc := 2) D_Rows_part_2 rfl) (EJ_iload (i := 4) (pc := 3) D_Rows_part_3) D_Rows_part_5) D_Rows_part_6) D_Rows_part_7) D_Rows_part_8)
 (SJ_ret (p0 := 10) (p1 := 23) (EJ_land (p0 := 10) (p1 := 12) (p2 := 22) (EJ_lload (i := 5) (pc := 10) D_Rows_part_10) (EJ_lsub (p0 := 12) (p1 := 20) (p2 := 21) (EJ_lshl (p0 := 12) (p1 := 13) (p2 := 19) (EJ_lconst (n := 1) (v := (lN 1)) (pc := 12) D_Rows_part_12 (by decide +kernel)) (EJ_imul (p0 := 13) (p1 := 14) (p2 := 18) (EJ_iconst (n := 5) (v := (nI 5)) (pc := 13) D_Rows_part_13 (by decide +kernel)) (EJ_isub (p0 := 14) (p1 := 16) (p2 := 17) (EJ_iload (i := 4) (pc := 14) D_Rows_part_14) (EJ_iload_n (j := 3) (i := 3) (pc := 16) D_Rows_part_16 rfl) D_Rows_part_17) D_Rows_part_18) D_Rows_part_19) (EJ_lconst (n := 1) (v := (lN 1)) (pc := 20) D_Rows_part_20 (by decide +kernel)) D_Rows_part_21) D_Rows_part_22) D_Rows_part_23))
 RTm_long q_743 (by decide +kernel) rfl (fun h => by cases h) (show 7 ≤ 40 from by decide) (fun _ => trivial)
theorem D_Fit_repeats_0 : decode cX2_repeats 0 = .ok (.aload_n 0, 1) := by decide +kernel
theorem D_Fit_repeats_1 : decode cX2_repeats 1 = .ok (.getfield 24, 3) := by decide +kernel
theorem D_Fit_repeats_4 : decode cX2_repeats 4 = .ok (.iload_n 1, 1) := by decide +kernel
theorem D_Fit_repeats_5 : decode cX2_repeats 5 = .ok (.iaload, 1) := by decide +kernel
theorem D_Fit_repeats_6 : decode cX2_repeats 6 = .ok (.aload_n 0, 1) := by decide +kernel
theorem D_Fit_repeats_7 : decode cX2_repeats 7 = .ok (.getfield 24, 3) := by decide +kernel
theorem D_Fit_repeats_10 : decode cX2_repeats 10 = .ok (.iload_n 2, 1) := by decide +kernel
theorem D_Fit_repeats_11 : decode cX2_repeats 11 = .ok (.iconst (1), 1) := by decide +kernel
theorem D_Fit_repeats_12 : decode cX2_repeats 12 = .ok (.iadd, 1) := by decide +kernel
theorem D_Fit_repeats_13 : decode cX2_repeats 13 = .ok (.iaload, 1) := by decide +kernel
theorem D_Fit_repeats_14 : decode cX2_repeats 14 = .ok (.iadd, 1) := by decide +kernel
theorem D_Fit_repeats_15 : decode cX2_repeats 15 = .ok (.aload_n 0, 1) := by decide +kernel
theorem D_Fit_repeats_16 : decode cX2_repeats 16 = .ok (.getfield 24, 3) := by decide +kernel
theorem D_Fit_repeats_19 : decode cX2_repeats 19 = .ok (.iload_n 2, 1) := by decide +kernel
theorem D_Fit_repeats_20 : decode cX2_repeats 20 = .ok (.iaload, 1) := by decide +kernel
theorem D_Fit_repeats_21 : decode cX2_repeats 21 = .ok (.isub, 1) := by decide +kernel
theorem D_Fit_repeats_22 : decode cX2_repeats 22 = .ok (.istore_n 3, 1) := by decide +kernel
theorem D_Fit_repeats_23 : decode cX2_repeats 23 = .ok (.aload_n 0, 1) := by decide +kernel
theorem D_Fit_repeats_24 : decode cX2_repeats 24 = .ok (.getfield 24, 3) := by decide +kernel
theorem D_Fit_repeats_27 : decode cX2_repeats 27 = .ok (.iload_n 1, 1) := by decide +kernel
theorem D_Fit_repeats_28 : decode cX2_repeats 28 = .ok (.iconst (1), 1) := by decide +kernel
theorem D_Fit_repeats_29 : decode cX2_repeats 29 = .ok (.iadd, 1) := by decide +kernel
theorem D_Fit_repeats_30 : decode cX2_repeats 30 = .ok (.iload_n 3, 1) := by decide +kernel
theorem D_Fit_repeats_31 : decode cX2_repeats 31 = .ok (.iastore, 1) := by decide +kernel
theorem D_Fit_repeats_32 : decode cX2_repeats 32 = .ok (.iload_n 3, 1) := by decide +kernel
theorem D_Fit_repeats_33 : decode cX2_repeats 33 = .ok (.aload_n 0, 1) := by decide +kernel
theorem D_Fit_repeats_34 : decode cX2_repeats 34 = .ok (.getfield 49, 3) := by decide +kernel
theorem D_Fit_repeats_37 : decode cX2_repeats 37 = .ok (.if_icmp .gt (54), 3) := by decide +kernel
theorem D_Fit_repeats_40 : decode cX2_repeats 40 = .ok (.aload_n 0, 1) := by decide +kernel
theorem D_Fit_repeats_41 : decode cX2_repeats 41 = .ok (.getfield 41, 3) := by decide +kernel
theorem D_Fit_repeats_44 : decode cX2_repeats 44 = .ok (.aload_n 0, 1) := by decide +kernel
theorem D_Fit_repeats_45 : decode cX2_repeats 45 = .ok (.getfield 49, 3) := by decide +kernel
theorem D_Fit_repeats_48 : decode cX2_repeats 48 = .ok (.aload_n 0, 1) := by decide +kernel
theorem D_Fit_repeats_49 : decode cX2_repeats 49 = .ok (.getfield 24, 3) := by decide +kernel
theorem D_Fit_repeats_52 : decode cX2_repeats 52 = .ok (.iload_n 1, 1) := by decide +kernel
theorem D_Fit_repeats_53 : decode cX2_repeats 53 = .ok (.iaload, 1) := by decide +kernel
theorem D_Fit_repeats_54 : decode cX2_repeats 54 = .ok (.iload_n 3, 1) := by decide +kernel
theorem D_Fit_repeats_55 : decode cX2_repeats 55 = .ok (.invokestatic 124, 3) := by decide +kernel
theorem D_Fit_repeats_58 : decode cX2_repeats 58 = .ok (.aload_n 0, 1) := by decide +kernel
theorem D_Fit_repeats_59 : decode cX2_repeats 59 = .ok (.getfield 41, 3) := by decide +kernel
theorem D_Fit_repeats_62 : decode cX2_repeats 62 = .ok (.aload_n 0, 1) := by decide +kernel
theorem D_Fit_repeats_63 : decode cX2_repeats 63 = .ok (.getfield 49, 3) := by decide +kernel
theorem D_Fit_repeats_66 : decode cX2_repeats 66 = .ok (.aload_n 0, 1) := by decide +kernel
theorem D_Fit_repeats_67 : decode cX2_repeats 67 = .ok (.getfield 24, 3) := by decide +kernel
theorem D_Fit_repeats_70 : decode cX2_repeats 70 = .ok (.iload_n 2, 1) := by decide +kernel
theorem D_Fit_repeats_71 : decode cX2_repeats 71 = .ok (.iaload, 1) := by decide +kernel
theorem D_Fit_repeats_72 : decode cX2_repeats 72 = .ok (.aload_n 0, 1) := by decide +kernel
theorem D_Fit_repeats_73 : decode cX2_repeats 73 = .ok (.getfield 24, 3) := by decide +kernel
theorem D_Fit_repeats_76 : decode cX2_repeats 76 = .ok (.iload_n 2, 1) := by decide +kernel
theorem D_Fit_repeats_77 : decode cX2_repeats 77 = .ok (.iconst (1), 1) := by decide +kernel
theorem D_Fit_repeats_78 : decode cX2_repeats 78 = .ok (.iadd, 1) := by decide +kernel
theorem D_Fit_repeats_79 : decode cX2_repeats 79 = .ok (.iaload, 1) := by decide +kernel
theorem D_Fit_repeats_80 : decode cX2_repeats 80 = .ok (.invokestatic 124, 3) := by decide +kernel
theorem D_Fit_repeats_83 : decode cX2_repeats 83 = .ok (.lcmp, 1) := by decide +kernel
theorem D_Fit_repeats_84 : decode cX2_repeats 84 = .ok (.ifCond .ne (7), 3) := by decide +kernel
theorem D_Fit_repeats_87 : decode cX2_repeats 87 = .ok (.iconst (1), 1) := by decide +kernel
theorem D_Fit_repeats_88 : decode cX2_repeats 88 = .ok (.goto (4), 3) := by decide +kernel
theorem D_Fit_repeats_91 : decode cX2_repeats 91 = .ok (.iconst (0), 1) := by decide +kernel
theorem D_Fit_repeats_92 : decode cX2_repeats 92 = .ok (.ireturn, 1) := by decide +kernel
def K_Fit_repeats : SC := (cX2_repeats, "TwoLevels$Fit", 4, 2, false, [45], NoQ)
def d_Fit_repeats : MD Int32 := mth zz 4 (sq (sI1 3 (eh2 isubF (eh2 iaddF (eh2 (aI .int) (eh1 (gR 3 8) (lR 0)) (lI 1)) (eh2 (aI .int) (eh1 (gR 3 8) (lR 0)) (eh2 iaddF (lI 2) (eC (nI 1))))) (eh2 (aI .int) (eh1 (gR 3 8) (lR 0)) (lI 2))))
 (sq (sh3 (stI [45]) (eh1 (gR 3 8) (lR 0)) (eh2 iaddF (lI 1) (eC (nI 1))) (lI 3))
 (rtn (eIf (cAnd (eh2 c_le (lI 3) (eh1 (gI 3 2) (lR 0))) (eh2 j_eq (kS d_Rows_part [vJ (eh1 (gJ 3 1) (lR 0)), vI (eh1 (gI 3 2) (lR 0)), vI (eh2 (aI .int) (eh1 (gR 3 8) (lR 0)) (lI 1)), vI (lI 3)]) (kS d_Rows_part [vJ (eh1 (gJ 3 1) (lR 0)), vI (eh1 (gI 3 2) (lR 0)), vI (eh2 (aI .int) (eh1 (gR 3 8) (lR 0)) (lI 2)), vI (eh2 (aI .int) (eh1 (gR 3 8) (lR 0)) (eh2 iaddF (lI 2) (eC (nI 1))))]))) (eC (nI 1)) (eC (nI 0))))))
theorem m_Fit_repeats : MJ 2 [45] yX2_repeats (some .boolean) eI (d_Fit_repeats) := MJ_of (K := K_Fit_repeats) (ri := .ireturn) (n1 := 0) (n2 := 0) (n3 := 0)
 (SJ_sq (p0 := 0) (p1 := 23) (nN := 0) (nB := 0) (nC := 0) (SJ_istore_n (i := 3) (j := 3) (p0 := 0) (p1 := 22) (EJ_isub (p0 := 0) (p1 := 15) (p2 := 21) (EJ_iadd (p0 := 0) (p1 := 6) (p2 := 14) (EJ_iald (p0 := 0) (p1 := 4) (p2 := 5) (EJ_getR (t := 3) (c := 2) (kf := 8) (r := (RX2, TX2, 12)) (p0 := 0) (p1 := 1) (EJ_aload_n (j := 0) (i := 0) (pc := 0) D_Fit_repeats_0 rfl) D_Fit_repeats_1 ⟨rfl, rfl, by decide, q_203⟩ (fun _ _ => rfl)) (EJ_iload_n (j := 1) (i := 1) (pc := 4) D_Fit_repeats_4 rfl) D_Fit_repeats_5) (EJ_iald (p0 := 6) (p1 := 10) (p2 := 13) (EJ_getR (t := 3) (c := 2) (kf := 8) (r := (RX2, TX2, 12)) (p0 := 6) (p1 := 7) (EJ_aload_n (j := 0) (i := 0) (pc := 6) D_Fit_repeats_6 rfl) D_Fit_repeats_7 ⟨rfl, rfl, by decide, q_203⟩ (fun _ _ => rfl)) (EJ_iadd (p0 := 10) (p1 := 11) (p2 := 12) (EJ_iload_n (j := 2) (i := 2) (pc := 10) D_Fit_repeats_10 rfl) (EJ_iconst (n := 1) (v := (nI 1)) (pc := 11) D_Fit_repeats_11 (by decide +kernel)) D_Fit_repeats_12) D_Fit_repeats_13) D_Fit_repeats_14) (EJ_iald (p0 := 15) (p1 := 19) (p2 := 20) (EJ_getR (t := 3) (c := 2) (kf := 8) (r := (RX2, TX2, 12)) (p0 := 15) (p1 := 16) (EJ_aload_n (j := 0) (i := 0) (pc := 15) D_Fit_repeats_15 rfl) D_Fit_repeats_16 ⟨rfl, rfl, by decide, q_203⟩ (fun _ _ => rfl)) (EJ_iload_n (j := 2) (i := 2) (pc := 19) D_Fit_repeats_19 rfl) D_Fit_repeats_20) D_Fit_repeats_21) D_Fit_repeats_22 rfl)
 (SJ_sq (p0 := 23) (p1 := 32) (nN := 0) (nB := 0) (nC := 0) (SJ_iast (ws := [45]) (p0 := 23) (p1 := 27) (p2 := 30) (p3 := 31) (EJ_getR (t := 3) (c := 2) (kf := 8) (r := (RX2, TX2, 12)) (p0 := 23) (p1 := 24) (EJ_aload_n (j := 0) (i := 0) (pc := 23) D_Fit_repeats_23 rfl) D_Fit_repeats_24 ⟨rfl, rfl, by decide, q_203⟩ (fun _ _ => rfl)) (EJ_iadd (p0 := 27) (p1 := 28) (p2 := 29) (EJ_iload_n (j := 1) (i := 1) (pc := 27) D_Fit_repeats_27 rfl) (EJ_iconst (n := 1) (v := (nI 1)) (pc := 28) D_Fit_repeats_28 (by decide +kernel)) D_Fit_repeats_29) (EJ_iload_n (j := 3) (i := 3) (pc := 30) D_Fit_repeats_30 rfl) D_Fit_repeats_31 (show ∀ x_ ∈ ([45] : List Nat), x_ ∈ ([45] : List Nat) from by decide))
 (SJ_ret (p0 := 32) (p1 := 92) (EJ_if (p0 := 32) (pT := 87) (pF := 91) (pE := 88) (p1 := 92) (CJ_and (p0 := 32) (pM := 40) (pT := 87) (pF := 91) (CJ_le' (off := 54) (tgt := 91) (p0 := 32) (p1 := 33) (p2 := 37) (EJ_iload_n (j := 3) (i := 3) (pc := 32) D_Fit_repeats_32 rfl) (EJ_getI (t := 3) (c := 2) (kf := 2) (r := (RX2, TX2, 12)) (p0 := 33) (p1 := 34) (EJ_aload_n (j := 0) (i := 0) (pc := 33) D_Fit_repeats_33 rfl) D_Fit_repeats_34 ⟨rfl, rfl, by decide, q_197⟩ (fun _ _ => rfl)) D_Fit_repeats_37 rfl) (CL_eq' (off := 7) (tgt := 91) (p0 := 40) (p1 := 58) (p2 := 83) (EJ_callS (p0 := 40) (p1 := 55) (AJ_J (p0 := 40) (p1 := 44) (p2 := 55) (EJ_getJ (t := 3) (c := 2) (kf := 1) (r := (RX2, TX2, 12)) (p0 := 40) (p1 := 41) (EJ_aload_n (j := 0) (i := 0) (pc := 40) D_Fit_repeats_40 rfl) D_Fit_repeats_41 ⟨rfl, rfl, by decide, q_196⟩ (fun _ _ => rfl)) (AJ_I (p0 := 44) (p1 := 48) (p2 := 55) (EJ_getI (t := 3) (c := 2) (kf := 2) (r := (RX2, TX2, 12)) (p0 := 44) (p1 := 45) (EJ_aload_n (j := 0) (i := 0) (pc := 44) D_Fit_repeats_44 rfl) D_Fit_repeats_45 ⟨rfl, rfl, by decide, q_197⟩ (fun _ _ => rfl)) (AJ_I (p0 := 48) (p1 := 54) (p2 := 55) (EJ_iald (p0 := 48) (p1 := 52) (p2 := 53) (EJ_getR (t := 3) (c := 2) (kf := 8) (r := (RX2, TX2, 12)) (p0 := 48) (p1 := 49) (EJ_aload_n (j := 0) (i := 0) (pc := 48) D_Fit_repeats_48 rfl) D_Fit_repeats_49 ⟨rfl, rfl, by decide, q_203⟩ (fun _ _ => rfl)) (EJ_iload_n (j := 1) (i := 1) (pc := 52) D_Fit_repeats_52 rfl) D_Fit_repeats_53) (AJ_I (p0 := 54) (p1 := 55) (p2 := 55) (EJ_iload_n (j := 3) (i := 3) (pc := 54) D_Fit_repeats_54 rfl) AJ_nil)))) m_Rows_part E1_J D_Fit_repeats_55 q_741 q_742 q_104 ⟨by decide +kernel, by decide +kernel, by decide +kernel⟩ (by decide) (show 1 + 1 ≤ 2 from by decide) (fun _ h => absurd h List.not_mem_nil)) (EJ_callS (p0 := 58) (p1 := 80) (AJ_J (p0 := 58) (p1 := 62) (p2 := 80) (EJ_getJ (t := 3) (c := 2) (kf := 1) (r := (RX2, TX2, 12)) (p0 := 58) (p1 := 59) (EJ_aload_n (j := 0) (i := 0) (pc := 58) D_Fit_repeats_58 rfl) D_Fit_repeats_59 ⟨rfl, rfl, by decide, q_196⟩ (fun _ _ => rfl)) (AJ_I (p0 := 62) (p1 := 66) (p2 := 80) (EJ_getI (t := 3) (c := 2) (kf := 2) (r := (RX2, TX2, 12)) (p0 := 62) (p1 := 63) (EJ_aload_n (j := 0) (i := 0) (pc := 62) D_Fit_repeats_62 rfl) D_Fit_repeats_63 ⟨rfl, rfl, by decide, q_197⟩ (fun _ _ => rfl)) (AJ_I (p0 := 66) (p1 := 72) (p2 := 80) (EJ_iald (p0 := 66) (p1 := 70) (p2 := 71) (EJ_getR (t := 3) (c := 2) (kf := 8) (r := (RX2, TX2, 12)) (p0 := 66) (p1 := 67) (EJ_aload_n (j := 0) (i := 0) (pc := 66) D_Fit_repeats_66 rfl) D_Fit_repeats_67 ⟨rfl, rfl, by decide, q_203⟩ (fun _ _ => rfl)) (EJ_iload_n (j := 2) (i := 2) (pc := 70) D_Fit_repeats_70 rfl) D_Fit_repeats_71) (AJ_I (p0 := 72) (p1 := 80) (p2 := 80) (EJ_iald (p0 := 72) (p1 := 76) (p2 := 79) (EJ_getR (t := 3) (c := 2) (kf := 8) (r := (RX2, TX2, 12)) (p0 := 72) (p1 := 73) (EJ_aload_n (j := 0) (i := 0) (pc := 72) D_Fit_repeats_72 rfl) D_Fit_repeats_73 ⟨rfl, rfl, by decide, q_203⟩ (fun _ _ => rfl)) (EJ_iadd (p0 := 76) (p1 := 77) (p2 := 78) (EJ_iload_n (j := 2) (i := 2) (pc := 76) D_Fit_repeats_76 rfl) (EJ_iconst (n := 1) (v := (nI 1)) (pc := 77) D_Fit_repeats_77 (by decide +kernel)) D_Fit_repeats_78) D_Fit_repeats_79) AJ_nil)))) m_Rows_part E1_J D_Fit_repeats_80 q_741 q_742 q_104 ⟨by decide +kernel, by decide +kernel, by decide +kernel⟩ (by decide) (show 1 + 1 ≤ 2 from by decide) (fun _ h => absurd h List.not_mem_nil)) D_Fit_repeats_83 D_Fit_repeats_84 rfl)) (EJ_iconst (n := 1) (v := (nI 1)) (pc := 87) D_Fit_repeats_87 (by decide +kernel)) (Lead.goto (K := K_Fit_repeats) (pc := 88) (tgt := 92) D_Fit_repeats_88 rfl) (EJ_iconst (n := 0) (v := (nI 0)) (pc := 91) D_Fit_repeats_91 (by decide +kernel))) D_Fit_repeats_92)))
 RTm_bool q_753 (by decide +kernel) rfl (fun h => by cases h) (show 4 ≤ 40 from by decide) (fun _ => trivial)
theorem D_Fit_enters_0 : decode cX2_enters 0 = .ok (.aload_n 0, 1) := by decide +kernel
theorem D_Fit_enters_1 : decode cX2_enters 1 = .ok (.getfield 87, 3) := by decide +kernel
theorem D_Fit_enters_4 : decode cX2_enters 4 = .ok (.getfield 94, 3) := by decide +kernel
theorem D_Fit_enters_7 : decode cX2_enters 7 = .ok (.iload_n 1, 1) := by decide +kernel
theorem D_Fit_enters_8 : decode cX2_enters 8 = .ok (.iaload, 1) := by decide +kernel
theorem D_Fit_enters_9 : decode cX2_enters 9 = .ok (.istore_n 2, 1) := by decide +kernel
theorem D_Fit_enters_10 : decode cX2_enters 10 = .ok (.aload_n 0, 1) := by decide +kernel
theorem D_Fit_enters_11 : decode cX2_enters 11 = .ok (.getfield 24, 3) := by decide +kernel
theorem D_Fit_enters_14 : decode cX2_enters 14 = .ok (.iload_n 1, 1) := by decide +kernel
theorem D_Fit_enters_15 : decode cX2_enters 15 = .ok (.iaload, 1) := by decide +kernel
theorem D_Fit_enters_16 : decode cX2_enters 16 = .ok (.istore_n 3, 1) := by decide +kernel
theorem D_Fit_enters_17 : decode cX2_enters 17 = .ok (.iload_n 2, 1) := by decide +kernel
theorem D_Fit_enters_18 : decode cX2_enters 18 = .ok (.bipush (32), 2) := by decide +kernel
theorem D_Fit_enters_20 : decode cX2_enters 20 = .ok (.if_icmp .ge (34), 3) := by decide +kernel
theorem D_Fit_enters_23 : decode cX2_enters 23 = .ok (.aload_n 0, 1) := by decide +kernel
theorem D_Fit_enters_24 : decode cX2_enters 24 = .ok (.getfield 24, 3) := by decide +kernel
theorem D_Fit_enters_27 : decode cX2_enters 27 = .ok (.iload_n 1, 1) := by decide +kernel
theorem D_Fit_enters_28 : decode cX2_enters 28 = .ok (.iconst (1), 1) := by decide +kernel
theorem D_Fit_enters_29 : decode cX2_enters 29 = .ok (.iadd, 1) := by decide +kernel
theorem D_Fit_enters_30 : decode cX2_enters 30 = .ok (.iload_n 3, 1) := by decide +kernel
theorem D_Fit_enters_31 : decode cX2_enters 31 = .ok (.iconst (1), 1) := by decide +kernel
theorem D_Fit_enters_32 : decode cX2_enters 32 = .ok (.iadd, 1) := by decide +kernel
theorem D_Fit_enters_33 : decode cX2_enters 33 = .ok (.iastore, 1) := by decide +kernel
theorem D_Fit_enters_34 : decode cX2_enters 34 = .ok (.aload_n 0, 1) := by decide +kernel
theorem D_Fit_enters_35 : decode cX2_enters 35 = .ok (.getfield 13, 3) := by decide +kernel
theorem D_Fit_enters_38 : decode cX2_enters 38 = .ok (.iload_n 2, 1) := by decide +kernel
theorem D_Fit_enters_39 : decode cX2_enters 39 = .ok (.iaload, 1) := by decide +kernel
theorem D_Fit_enters_40 : decode cX2_enters 40 = .ok (.iload_n 3, 1) := by decide +kernel
theorem D_Fit_enters_41 : decode cX2_enters 41 = .ok (.ishr, 1) := by decide +kernel
theorem D_Fit_enters_42 : decode cX2_enters 42 = .ok (.iconst (1), 1) := by decide +kernel
theorem D_Fit_enters_43 : decode cX2_enters 43 = .ok (.iand, 1) := by decide +kernel
theorem D_Fit_enters_44 : decode cX2_enters 44 = .ok (.iconst (1), 1) := by decide +kernel
theorem D_Fit_enters_45 : decode cX2_enters 45 = .ok (.if_icmp .ne (7), 3) := by decide +kernel
theorem D_Fit_enters_48 : decode cX2_enters 48 = .ok (.iconst (1), 1) := by decide +kernel
theorem D_Fit_enters_49 : decode cX2_enters 49 = .ok (.goto (4), 3) := by decide +kernel
theorem D_Fit_enters_52 : decode cX2_enters 52 = .ok (.iconst (0), 1) := by decide +kernel
theorem D_Fit_enters_53 : decode cX2_enters 53 = .ok (.ireturn, 1) := by decide +kernel
theorem D_Fit_enters_54 : decode cX2_enters 54 = .ok (.aload_n 0, 1) := by decide +kernel
theorem D_Fit_enters_55 : decode cX2_enters 55 = .ok (.getfield 87, 3) := by decide +kernel
theorem D_Fit_enters_58 : decode cX2_enters 58 = .ok (.getfield 118, 3) := by decide +kernel
theorem D_Fit_enters_61 : decode cX2_enters 61 = .ok (.iload_n 1, 1) := by decide +kernel
theorem D_Fit_enters_62 : decode cX2_enters 62 = .ok (.iaload, 1) := by decide +kernel
theorem D_Fit_enters_63 : decode cX2_enters 63 = .ok (.istore 4, 2) := by decide +kernel
theorem D_Fit_enters_65 : decode cX2_enters 65 = .ok (.iload 4, 2) := by decide +kernel
theorem D_Fit_enters_67 : decode cX2_enters 67 = .ok (.iload_n 1, 1) := by decide +kernel
theorem D_Fit_enters_68 : decode cX2_enters 68 = .ok (.if_icmp .ge (11), 3) := by decide +kernel
theorem D_Fit_enters_71 : decode cX2_enters 71 = .ok (.aload_n 0, 1) := by decide +kernel
theorem D_Fit_enters_72 : decode cX2_enters 72 = .ok (.iload_n 1, 1) := by decide +kernel
theorem D_Fit_enters_73 : decode cX2_enters 73 = .ok (.iload 4, 2) := by decide +kernel
theorem D_Fit_enters_75 : decode cX2_enters 75 = .ok (.invokevirtual 121, 3) := by decide +kernel
theorem D_Fit_enters_78 : decode cX2_enters 78 = .ok (.ireturn, 1) := by decide +kernel
theorem D_Fit_enters_79 : decode cX2_enters 79 = .ok (.aload_n 0, 1) := by decide +kernel
theorem D_Fit_enters_80 : decode cX2_enters 80 = .ok (.getfield 27, 3) := by decide +kernel
theorem D_Fit_enters_83 : decode cX2_enters 83 = .ok (.iload_n 1, 1) := by decide +kernel
theorem D_Fit_enters_84 : decode cX2_enters 84 = .ok (.aload_n 0, 1) := by decide +kernel
theorem D_Fit_enters_85 : decode cX2_enters 85 = .ok (.getfield 19, 3) := by decide +kernel
theorem D_Fit_enters_88 : decode cX2_enters 88 = .ok (.iload_n 2, 1) := by decide +kernel
theorem D_Fit_enters_89 : decode cX2_enters 89 = .ok (.bipush (32), 2) := by decide +kernel
theorem D_Fit_enters_91 : decode cX2_enters 91 = .ok (.isub, 1) := by decide +kernel
theorem D_Fit_enters_92 : decode cX2_enters 92 = .ok (.bipush (11), 2) := by decide +kernel
theorem D_Fit_enters_94 : decode cX2_enters 94 = .ok (.imul, 1) := by decide +kernel
theorem D_Fit_enters_95 : decode cX2_enters 95 = .ok (.iload_n 3, 1) := by decide +kernel
theorem D_Fit_enters_96 : decode cX2_enters 96 = .ok (.iadd, 1) := by decide +kernel
theorem D_Fit_enters_97 : decode cX2_enters 97 = .ok (.iaload, 1) := by decide +kernel
theorem D_Fit_enters_98 : decode cX2_enters 98 = .ok (.iastore, 1) := by decide +kernel
theorem D_Fit_enters_99 : decode cX2_enters 99 = .ok (.iload_n 1, 1) := by decide +kernel
theorem D_Fit_enters_100 : decode cX2_enters 100 = .ok (.aload_n 0, 1) := by decide +kernel
theorem D_Fit_enters_101 : decode cX2_enters 101 = .ok (.getfield 87, 3) := by decide +kernel
theorem D_Fit_enters_104 : decode cX2_enters 104 = .ok (.getfield 94, 3) := by decide +kernel
theorem D_Fit_enters_107 : decode cX2_enters 107 = .ok (.arraylength, 1) := by decide +kernel
theorem D_Fit_enters_108 : decode cX2_enters 108 = .ok (.iconst (1), 1) := by decide +kernel
theorem D_Fit_enters_109 : decode cX2_enters 109 = .ok (.isub, 1) := by decide +kernel
theorem D_Fit_enters_110 : decode cX2_enters 110 = .ok (.if_icmp .ne (18), 3) := by decide +kernel
theorem D_Fit_enters_113 : decode cX2_enters 113 = .ok (.aload_n 0, 1) := by decide +kernel
theorem D_Fit_enters_114 : decode cX2_enters 114 = .ok (.getfield 27, 3) := by decide +kernel
theorem D_Fit_enters_117 : decode cX2_enters 117 = .ok (.iload_n 1, 1) := by decide +kernel
theorem D_Fit_enters_118 : decode cX2_enters 118 = .ok (.dup2, 1) := by decide +kernel
theorem D_Fit_enters_119 : decode cX2_enters 119 = .ok (.iaload, 1) := by decide +kernel
theorem D_Fit_enters_120 : decode cX2_enters 120 = .ok (.iconst (1), 1) := by decide +kernel
theorem D_Fit_enters_121 : decode cX2_enters 121 = .ok (.aload_n 0, 1) := by decide +kernel
theorem D_Fit_enters_122 : decode cX2_enters 122 = .ok (.getfield 49, 3) := by decide +kernel
theorem D_Fit_enters_125 : decode cX2_enters 125 = .ok (.ishl, 1) := by decide +kernel
theorem D_Fit_enters_126 : decode cX2_enters 126 = .ok (.iand, 1) := by decide +kernel
theorem D_Fit_enters_127 : decode cX2_enters 127 = .ok (.iastore, 1) := by decide +kernel
theorem D_Fit_enters_128 : decode cX2_enters 128 = .ok (.aload_n 0, 1) := by decide +kernel
theorem D_Fit_enters_129 : decode cX2_enters 129 = .ok (.iload_n 1, 1) := by decide +kernel
theorem D_Fit_enters_130 : decode cX2_enters 130 = .ok (.invokevirtual 115, 3) := by decide +kernel
theorem D_Fit_enters_133 : decode cX2_enters 133 = .ok (.ireturn, 1) := by decide +kernel
def K_Fit_enters : SC := (cX2_enters, "TwoLevels$Fit", 5, 3, false, [45, 46], NoQ)
def d_Fit_enters : MD Int32 := mth zz 5 (sq (sI1 2 (eh2 (aI .int) (eh1 (gR 7 0) (eh1 (gR 3 6) (lR 0))) (lI 1)))
 (sq (sI1 3 (eh2 (aI .int) (eh1 (gR 3 8) (lR 0)) (lI 1)))
 (sq (sIf (eh2 c_lt (lI 2) (eC (nI 32))) (sq (sh3 (stI [45]) (eh1 (gR 3 8) (lR 0)) (eh2 iaddF (lI 1) (eC (nI 1))) (eh2 iaddF (lI 3) (eC (nI 1))))
 (rtn (eIf (eh2 c_eq (eh2 iandF (eh2 ishrF (eh2 (aI .int) (eh1 (gR 3 3) (lR 0)) (lI 2)) (lI 3)) (eC (nI 1))) (eC (nI 1))) (eC (nI 1)) (eC (nI 0))))) sk)
 (sq (sI1 4 (eh2 (aI .int) (eh1 (gR 7 2) (eh1 (gR 3 6) (lR 0))) (lI 1)))
 (sq (sIf (eh2 c_lt (lI 4) (lI 1)) (rtn (kV 3 d_Fit_repeats (lR 0) [vI (lI 1), vI (lI 4)])) sk)
 (sq (sh3 (stI [46]) (eh1 (gR 3 9) (lR 0)) (lI 1) (eh2 (aI .int) (eh1 (gR 3 4) (lR 0)) (eh2 iaddF (eh2 imulF (eh2 isubF (lI 2) (eC (nI 32))) (eC (nI 11))) (lI 3))))
 (sq (sIf (eh2 c_eq (lI 1) (eh2 isubF (eh1 aL (eh1 (gR 7 0) (eh1 (gR 3 6) (lR 0)))) (eC (nI 1)))) (su3 (aI .int) (uA [46] (fun x y => x &&& y)) (eh1 (gR 3 9) (lR 0)) (lI 1) (eh2 ishlF (eC (nI 1)) (eh1 (gI 3 2) (lR 0)))) sk)
 (rtn (kV 3 d_Fit_endsElsewhere (lR 0) [vI (lI 1)])))))))))
theorem m_Fit_enters : MJ 3 [45, 46] yX2_enters (some .boolean) eI (d_Fit_enters) := MJ_of (K := K_Fit_enters) (ri := .ireturn) (n1 := 0) (n2 := 0) (n3 := 0)
 (SJ_sq (p0 := 0) (p1 := 10) (nN := 0) (nB := 0) (nC := 0) (SJ_istore_n (i := 2) (j := 2) (p0 := 0) (p1 := 9) (EJ_iald (p0 := 0) (p1 := 7) (p2 := 8) (EJ_getR (t := 7) (c := 6) (kf := 0) (r := (RX6, TX6, 5)) (p0 := 0) (p1 := 4) (EJ_getR (t := 3) (c := 2) (kf := 6) (r := (RX2, TX2, 12)) (p0 := 0) (p1 := 1) (EJ_aload_n (j := 0) (i := 0) (pc := 0) D_Fit_enters_0 rfl) D_Fit_enters_1 ⟨rfl, rfl, by decide, q_201⟩ (fun _ _ => rfl)) D_Fit_enters_4 ⟨rfl, rfl, by decide, q_389⟩ (fun _ _ => rfl)) (EJ_iload_n (j := 1) (i := 1) (pc := 7) D_Fit_enters_7 rfl) D_Fit_enters_8) D_Fit_enters_9 rfl)
 (SJ_sq (p0 := 10) (p1 := 17) (nN := 0) (nB := 0) (nC := 0) (SJ_istore_n (i := 3) (j := 3) (p0 := 10) (p1 := 16) (EJ_iald (p0 := 10) (p1 := 14) (p2 := 15) (EJ_getR (t := 3) (c := 2) (kf := 8) (r := (RX2, TX2, 12)) (p0 := 10) (p1 := 11) (EJ_aload_n (j := 0) (i := 0) (pc := 10) D_Fit_enters_10 rfl) D_Fit_enters_11 ⟨rfl, rfl, by decide, q_203⟩ (fun _ _ => rfl)) (EJ_iload_n (j := 1) (i := 1) (pc := 14) D_Fit_enters_14 rfl) D_Fit_enters_15) D_Fit_enters_16 rfl)
 (SJ_sq (p0 := 17) (p1 := 54) (nN := 0) (nB := 0) (nC := 0) (SJ_if (p0 := 17) (pT := 23) (pF := 54) (nN := 54) (nB := 0) (nC := 0) (CJ_lt' (off := 34) (tgt := 54) (p0 := 17) (p1 := 18) (p2 := 20) (EJ_iload_n (j := 2) (i := 2) (pc := 17) D_Fit_enters_17 rfl) (EJ_bipush (n := 32) (v := (nI 32)) (pc := 18) D_Fit_enters_18 (by decide +kernel)) D_Fit_enters_20 rfl) (SJ_sq (p0 := 23) (p1 := 34) (nN := 54) (nB := 0) (nC := 0) (SJ_iast (ws := [45]) (p0 := 23) (p1 := 27) (p2 := 30) (p3 := 33) (EJ_getR (t := 3) (c := 2) (kf := 8) (r := (RX2, TX2, 12)) (p0 := 23) (p1 := 24) (EJ_aload_n (j := 0) (i := 0) (pc := 23) D_Fit_enters_23 rfl) D_Fit_enters_24 ⟨rfl, rfl, by decide, q_203⟩ (fun _ _ => rfl)) (EJ_iadd (p0 := 27) (p1 := 28) (p2 := 29) (EJ_iload_n (j := 1) (i := 1) (pc := 27) D_Fit_enters_27 rfl) (EJ_iconst (n := 1) (v := (nI 1)) (pc := 28) D_Fit_enters_28 (by decide +kernel)) D_Fit_enters_29) (EJ_iadd (p0 := 30) (p1 := 31) (p2 := 32) (EJ_iload_n (j := 3) (i := 3) (pc := 30) D_Fit_enters_30 rfl) (EJ_iconst (n := 1) (v := (nI 1)) (pc := 31) D_Fit_enters_31 (by decide +kernel)) D_Fit_enters_32) D_Fit_enters_33 (show ∀ x_ ∈ ([45] : List Nat), x_ ∈ ([45, 46] : List Nat) from by decide))
 (SJ_ret (p0 := 34) (p1 := 53) (EJ_if (p0 := 34) (pT := 48) (pF := 52) (pE := 49) (p1 := 53) (CJ_eq' (off := 7) (tgt := 52) (p0 := 34) (p1 := 44) (p2 := 45) (EJ_iand (p0 := 34) (p1 := 42) (p2 := 43) (EJ_ishr (p0 := 34) (p1 := 40) (p2 := 41) (EJ_iald (p0 := 34) (p1 := 38) (p2 := 39) (EJ_getR (t := 3) (c := 2) (kf := 3) (r := (RX2, TX2, 12)) (p0 := 34) (p1 := 35) (EJ_aload_n (j := 0) (i := 0) (pc := 34) D_Fit_enters_34 rfl) D_Fit_enters_35 ⟨rfl, rfl, by decide, q_198⟩ (fun _ _ => rfl)) (EJ_iload_n (j := 2) (i := 2) (pc := 38) D_Fit_enters_38 rfl) D_Fit_enters_39) (EJ_iload_n (j := 3) (i := 3) (pc := 40) D_Fit_enters_40 rfl) D_Fit_enters_41) (EJ_iconst (n := 1) (v := (nI 1)) (pc := 42) D_Fit_enters_42 (by decide +kernel)) D_Fit_enters_43) (EJ_iconst (n := 1) (v := (nI 1)) (pc := 44) D_Fit_enters_44 (by decide +kernel)) D_Fit_enters_45 rfl) (EJ_iconst (n := 1) (v := (nI 1)) (pc := 48) D_Fit_enters_48 (by decide +kernel)) (Lead.goto (K := K_Fit_enters) (pc := 49) (tgt := 53) D_Fit_enters_49 rfl) (EJ_iconst (n := 0) (v := (nI 0)) (pc := 52) D_Fit_enters_52 (by decide +kernel))) D_Fit_enters_53)) SJ_sk)
 (SJ_sq (p0 := 54) (p1 := 65) (nN := 0) (nB := 0) (nC := 0) (SJ_istore (i := 4) (p0 := 54) (p1 := 63) (EJ_iald (p0 := 54) (p1 := 61) (p2 := 62) (EJ_getR (t := 7) (c := 6) (kf := 2) (r := (RX6, TX6, 5)) (p0 := 54) (p1 := 58) (EJ_getR (t := 3) (c := 2) (kf := 6) (r := (RX2, TX2, 12)) (p0 := 54) (p1 := 55) (EJ_aload_n (j := 0) (i := 0) (pc := 54) D_Fit_enters_54 rfl) D_Fit_enters_55 ⟨rfl, rfl, by decide, q_201⟩ (fun _ _ => rfl)) D_Fit_enters_58 ⟨rfl, rfl, by decide, q_396⟩ (fun _ _ => rfl)) (EJ_iload_n (j := 1) (i := 1) (pc := 61) D_Fit_enters_61 rfl) D_Fit_enters_62) D_Fit_enters_63)
 (SJ_sq (p0 := 65) (p1 := 79) (nN := 0) (nB := 0) (nC := 0) (SJ_if (p0 := 65) (pT := 71) (pF := 79) (nN := 79) (nB := 0) (nC := 0) (CJ_lt' (off := 11) (tgt := 79) (p0 := 65) (p1 := 67) (p2 := 68) (EJ_iload (i := 4) (pc := 65) D_Fit_enters_65) (EJ_iload_n (j := 1) (i := 1) (pc := 67) D_Fit_enters_67 rfl) D_Fit_enters_68 rfl) (SJ_ret (p0 := 71) (p1 := 78) (EJ_callV (t := 3) (c := 2) (r := (RX2, TX2, 12)) (p0 := 71) (p1 := 72) (p2 := 75) (EJ_aload_n (j := 0) (i := 0) (pc := 71) D_Fit_enters_71 rfl) (AJ_I (p0 := 72) (p1 := 73) (p2 := 75) (EJ_iload_n (j := 1) (i := 1) (pc := 72) D_Fit_enters_72 rfl) (AJ_I (p0 := 73) (p1 := 75) (p2 := 75) (EJ_iload (i := 4) (pc := 73) D_Fit_enters_73) AJ_nil)) m_Fit_repeats E1_I D_Fit_enters_75 rfl rfl rfl q_751 q_752 q_22 q_95 ⟨by decide +kernel, by decide +kernel, by decide +kernel⟩ (by decide) (show 2 + 1 ≤ 3 from by decide) (show ∀ x_ ∈ ([45] : List Nat), x_ ∈ ([45, 46] : List Nat) from by decide)) D_Fit_enters_78) SJ_sk)
 (SJ_sq (p0 := 79) (p1 := 99) (nN := 0) (nB := 0) (nC := 0) (SJ_iast (ws := [46]) (p0 := 79) (p1 := 83) (p2 := 84) (p3 := 98) (EJ_getR (t := 3) (c := 2) (kf := 9) (r := (RX2, TX2, 12)) (p0 := 79) (p1 := 80) (EJ_aload_n (j := 0) (i := 0) (pc := 79) D_Fit_enters_79 rfl) D_Fit_enters_80 ⟨rfl, rfl, by decide, q_204⟩ (fun _ _ => rfl)) (EJ_iload_n (j := 1) (i := 1) (pc := 83) D_Fit_enters_83 rfl) (EJ_iald (p0 := 84) (p1 := 88) (p2 := 97) (EJ_getR (t := 3) (c := 2) (kf := 4) (r := (RX2, TX2, 12)) (p0 := 84) (p1 := 85) (EJ_aload_n (j := 0) (i := 0) (pc := 84) D_Fit_enters_84 rfl) D_Fit_enters_85 ⟨rfl, rfl, by decide, q_199⟩ (fun _ _ => rfl)) (EJ_iadd (p0 := 88) (p1 := 95) (p2 := 96) (EJ_imul (p0 := 88) (p1 := 92) (p2 := 94) (EJ_isub (p0 := 88) (p1 := 89) (p2 := 91) (EJ_iload_n (j := 2) (i := 2) (pc := 88) D_Fit_enters_88 rfl) (EJ_bipush (n := 32) (v := (nI 32)) (pc := 89) D_Fit_enters_89 (by decide +kernel)) D_Fit_enters_91) (EJ_bipush (n := 11) (v := (nI 11)) (pc := 92) D_Fit_enters_92 (by decide +kernel)) D_Fit_enters_94) (EJ_iload_n (j := 3) (i := 3) (pc := 95) D_Fit_enters_95 rfl) D_Fit_enters_96) D_Fit_enters_97) D_Fit_enters_98 (show ∀ x_ ∈ ([46] : List Nat), x_ ∈ ([45, 46] : List Nat) from by decide))
 (SJ_sq (p0 := 99) (p1 := 128) (nN := 0) (nB := 0) (nC := 0) (SJ_if (p0 := 99) (pT := 113) (pF := 128) (nN := 128) (nB := 0) (nC := 0) (CJ_eq' (off := 18) (tgt := 128) (p0 := 99) (p1 := 100) (p2 := 110) (EJ_iload_n (j := 1) (i := 1) (pc := 99) D_Fit_enters_99 rfl) (EJ_isub (p0 := 100) (p1 := 108) (p2 := 109) (EJ_alen (p0 := 100) (p1 := 107) (EJ_getR (t := 7) (c := 6) (kf := 0) (r := (RX6, TX6, 5)) (p0 := 100) (p1 := 104) (EJ_getR (t := 3) (c := 2) (kf := 6) (r := (RX2, TX2, 12)) (p0 := 100) (p1 := 101) (EJ_aload_n (j := 0) (i := 0) (pc := 100) D_Fit_enters_100 rfl) D_Fit_enters_101 ⟨rfl, rfl, by decide, q_201⟩ (fun _ _ => rfl)) D_Fit_enters_104 ⟨rfl, rfl, by decide, q_389⟩ (fun _ _ => rfl)) D_Fit_enters_107) (EJ_iconst (n := 1) (v := (nI 1)) (pc := 108) D_Fit_enters_108 (by decide +kernel)) D_Fit_enters_109) D_Fit_enters_110 rfl) (SJ_upA (ws := [46]) (f := (fun x y => x &&& y)) (p0 := 113) (p1 := 117) (p2 := 118) (p4 := 126) (EJ_getR (t := 3) (c := 2) (kf := 9) (r := (RX2, TX2, 12)) (p0 := 113) (p1 := 114) (EJ_aload_n (j := 0) (i := 0) (pc := 113) D_Fit_enters_113 rfl) D_Fit_enters_114 ⟨rfl, rfl, by decide, q_204⟩ (fun _ _ => rfl)) (EJ_iload_n (j := 1) (i := 1) (pc := 117) D_Fit_enters_117 rfl) D_Fit_enters_118 D_Fit_enters_119 (EJ_ishl (p0 := 120) (p1 := 121) (p2 := 125) (EJ_iconst (n := 1) (v := (nI 1)) (pc := 120) D_Fit_enters_120 (by decide +kernel)) (EJ_getI (t := 3) (c := 2) (kf := 2) (r := (RX2, TX2, 12)) (p0 := 121) (p1 := 122) (EJ_aload_n (j := 0) (i := 0) (pc := 121) D_Fit_enters_121 rfl) D_Fit_enters_122 ⟨rfl, rfl, by decide, q_197⟩ (fun _ _ => rfl)) D_Fit_enters_125) (Op2_iand D_Fit_enters_126) D_Fit_enters_127 (show ∀ x_ ∈ ([46] : List Nat), x_ ∈ ([45, 46] : List Nat) from by decide)) SJ_sk)
 (SJ_ret (p0 := 128) (p1 := 133) (EJ_callV (t := 3) (c := 2) (r := (RX2, TX2, 12)) (p0 := 128) (p1 := 129) (p2 := 130) (EJ_aload_n (j := 0) (i := 0) (pc := 128) D_Fit_enters_128 rfl) (AJ_I (p0 := 129) (p1 := 130) (p2 := 130) (EJ_iload_n (j := 1) (i := 1) (pc := 129) D_Fit_enters_129 rfl) AJ_nil) m_Fit_endsElsewhere E1_I D_Fit_enters_130 rfl rfl rfl q_754 q_755 q_23 q_95 ⟨by decide +kernel, by decide +kernel, by decide +kernel⟩ (by decide) (show 2 + 1 ≤ 3 from by decide) (show ∀ x_ ∈ ([45, 46] : List Nat), x_ ∈ ([45, 46] : List Nat) from by decide)) D_Fit_enters_133))))))))
 RTm_bool q_750 (by decide +kernel) rfl (fun h => by cases h) (show 5 ≤ 40 from by decide) (fun _ => trivial)
theorem D_Fit_init_0 : decode cX2_init 0 = .ok (.aload_n 0, 1) := by decide +kernel
theorem D_Fit_init_1 : decode cX2_init 1 = .ok (.invokespecial 5, 3) := by decide +kernel
theorem D_Fit_init_4 : decode cX2_init 4 = .ok (.aload_n 0, 1) := by decide +kernel
theorem D_Fit_init_5 : decode cX2_init 5 = .ok (.bipush (32), 2) := by decide +kernel
theorem D_Fit_init_7 : decode cX2_init 7 = .ok (.newarray .int, 2) := by decide +kernel
theorem D_Fit_init_9 : decode cX2_init 9 = .ok (.putfield 13, 3) := by decide +kernel
theorem D_Fit_init_12 : decode cX2_init 12 = .ok (.aload_n 0, 1) := by decide +kernel
theorem D_Fit_init_13 : decode cX2_init 13 = .ok (.bipush (66), 2) := by decide +kernel
theorem D_Fit_init_15 : decode cX2_init 15 = .ok (.newarray .int, 2) := by decide +kernel
theorem D_Fit_init_17 : decode cX2_init 17 = .ok (.putfield 19, 3) := by decide +kernel
theorem D_Fit_init_20 : decode cX2_init 20 = .ok (.aload_n 0, 1) := by decide +kernel
theorem D_Fit_init_21 : decode cX2_init 21 = .ok (.bipush (7), 2) := by decide +kernel
theorem D_Fit_init_23 : decode cX2_init 23 = .ok (.newarray .int, 2) := by decide +kernel
theorem D_Fit_init_25 : decode cX2_init 25 = .ok (.putfield 24, 3) := by decide +kernel
theorem D_Fit_init_28 : decode cX2_init 28 = .ok (.aload_n 0, 1) := by decide +kernel
theorem D_Fit_init_29 : decode cX2_init 29 = .ok (.bipush (6), 2) := by decide +kernel
theorem D_Fit_init_31 : decode cX2_init 31 = .ok (.newarray .int, 2) := by decide +kernel
theorem D_Fit_init_33 : decode cX2_init 33 = .ok (.putfield 27, 3) := by decide +kernel
theorem D_Fit_init_36 : decode cX2_init 36 = .ok (.aload_n 0, 1) := by decide +kernel
theorem D_Fit_init_37 : decode cX2_init 37 = .ok (.bipush (6), 2) := by decide +kernel
theorem D_Fit_init_39 : decode cX2_init 39 = .ok (.newarray .long, 2) := by decide +kernel
theorem D_Fit_init_41 : decode cX2_init 41 = .ok (.putfield 30, 3) := by decide +kernel
theorem D_Fit_init_44 : decode cX2_init 44 = .ok (.aload_n 0, 1) := by decide +kernel
theorem D_Fit_init_45 : decode cX2_init 45 = .ok (.bipush (6), 2) := by decide +kernel
theorem D_Fit_init_47 : decode cX2_init 47 = .ok (.newarray .int, 2) := by decide +kernel
theorem D_Fit_init_49 : decode cX2_init 49 = .ok (.putfield 34, 3) := by decide +kernel
theorem D_Fit_init_52 : decode cX2_init 52 = .ok (.aload_n 0, 1) := by decide +kernel
theorem D_Fit_init_53 : decode cX2_init 53 = .ok (.aload_n 1, 1) := by decide +kernel
theorem D_Fit_init_54 : decode cX2_init 54 = .ok (.putfield 37, 3) := by decide +kernel
theorem D_Fit_init_57 : decode cX2_init 57 = .ok (.return_, 1) := by decide +kernel
def K_Fit_init : SC := (cX2_init, "TwoLevels$Fit", 2, 1, true, [3], NoQ)
def d_Fit_init : MD Unit := mth tt 2 (sq sObj
 (sq (sh2 (pR 3 3) (lR 0) (nA 43 (eC (nI 32))))
 (sq (sh2 (pR 3 4) (lR 0) (nA 44 (eC (nI 66))))
 (sq (sh2 (pR 3 8) (lR 0) (nA 45 (eC (nI 7))))
 (sq (sh2 (pR 3 9) (lR 0) (nA 46 (eC (nI 6))))
 (sq (sh2 (pR 3 10) (lR 0) (nA 47 (eC (nI 6))))
 (sq (sh2 (pR 3 11) (lR 0) (nA 48 (eC (nI 6))))
 (sq (sh2 (pR 3 0) (lR 0) (lR 1))
 rtnU))))))))
theorem m_Fit_init : MJ 1 [3] yX2_init none eU (d_Fit_init) := MJ_of (K := K_Fit_init) (ri := .return_) (n1 := 0) (n2 := 0) (n3 := 0)
 (SJ_sq (p0 := 0) (p1 := 4) (nN := 0) (nB := 0) (nC := 0) (SJ_obj (pc := 0) (idx := 5) D_Fit_init_0 D_Fit_init_1 q_194 q_114 q_115 (show 1 ≤ 1 from by decide))
 (SJ_sq (p0 := 4) (p1 := 12) (nN := 0) (nB := 0) (nC := 0) (SJ_putR (t := 3) (c := 2) (kf := 3) (r := (RX2, TX2, 12)) (p0 := 4) (p1 := 5) (p2 := 9) (EJ_aload_n (j := 0) (i := 0) (pc := 4) D_Fit_init_4 rfl) (EJ_newarr (atype := .int) (ty := .int) (t := 43) (p0 := 5) (p1 := 7) (EJ_bipush (n := 32) (v := (nI 32)) (pc := 5) D_Fit_init_5 (by decide +kernel)) D_Fit_init_7 rfl (by decide) q_145 rfl) D_Fit_init_9 ⟨rfl, rfl, by decide, q_198⟩ (Or.inr ⟨rfl, rfl⟩) (Or.inr ⟨_, rfl⟩) (fun _ _ => rfl) (show (3 : Nat) ∈ ([3] : List Nat) from by decide))
 (SJ_sq (p0 := 12) (p1 := 20) (nN := 0) (nB := 0) (nC := 0) (SJ_putR (t := 3) (c := 2) (kf := 4) (r := (RX2, TX2, 12)) (p0 := 12) (p1 := 13) (p2 := 17) (EJ_aload_n (j := 0) (i := 0) (pc := 12) D_Fit_init_12 rfl) (EJ_newarr (atype := .int) (ty := .int) (t := 44) (p0 := 13) (p1 := 15) (EJ_bipush (n := 66) (v := (nI 66)) (pc := 13) D_Fit_init_13 (by decide +kernel)) D_Fit_init_15 rfl (by decide) q_145 rfl) D_Fit_init_17 ⟨rfl, rfl, by decide, q_199⟩ (Or.inr ⟨rfl, rfl⟩) (Or.inr ⟨_, rfl⟩) (fun _ _ => rfl) (show (3 : Nat) ∈ ([3] : List Nat) from by decide))
 (SJ_sq (p0 := 20) (p1 := 28) (nN := 0) (nB := 0) (nC := 0) (SJ_putR (t := 3) (c := 2) (kf := 8) (r := (RX2, TX2, 12)) (p0 := 20) (p1 := 21) (p2 := 25) (EJ_aload_n (j := 0) (i := 0) (pc := 20) D_Fit_init_20 rfl) (EJ_newarr (atype := .int) (ty := .int) (t := 45) (p0 := 21) (p1 := 23) (EJ_bipush (n := 7) (v := (nI 7)) (pc := 21) D_Fit_init_21 (by decide +kernel)) D_Fit_init_23 rfl (by decide) q_145 rfl) D_Fit_init_25 ⟨rfl, rfl, by decide, q_203⟩ (Or.inr ⟨rfl, rfl⟩) (Or.inr ⟨_, rfl⟩) (fun _ _ => rfl) (show (3 : Nat) ∈ ([3] : List Nat) from by decide))
 (SJ_sq (p0 := 28) (p1 := 36) (nN := 0) (nB := 0) (nC := 0) (SJ_putR (t := 3) (c := 2) (kf := 9) (r := (RX2, TX2, 12)) (p0 := 28) (p1 := 29) (p2 := 33) (EJ_aload_n (j := 0) (i := 0) (pc := 28) D_Fit_init_28 rfl) (EJ_newarr (atype := .int) (ty := .int) (t := 46) (p0 := 29) (p1 := 31) (EJ_bipush (n := 6) (v := (nI 6)) (pc := 29) D_Fit_init_29 (by decide +kernel)) D_Fit_init_31 rfl (by decide) q_145 rfl) D_Fit_init_33 ⟨rfl, rfl, by decide, q_204⟩ (Or.inr ⟨rfl, rfl⟩) (Or.inr ⟨_, rfl⟩) (fun _ _ => rfl) (show (3 : Nat) ∈ ([3] : List Nat) from by decide))
 (SJ_sq (p0 := 36) (p1 := 44) (nN := 0) (nB := 0) (nC := 0) (SJ_putR (t := 3) (c := 2) (kf := 10) (r := (RX2, TX2, 12)) (p0 := 36) (p1 := 37) (p2 := 41) (EJ_aload_n (j := 0) (i := 0) (pc := 36) D_Fit_init_36 rfl) (EJ_newarr (atype := .long) (ty := .long) (t := 47) (p0 := 37) (p1 := 39) (EJ_bipush (n := 6) (v := (nI 6)) (pc := 37) D_Fit_init_37 (by decide +kernel)) D_Fit_init_39 rfl (by decide) q_220 rfl) D_Fit_init_41 ⟨rfl, rfl, by decide, q_205⟩ (Or.inr ⟨rfl, rfl⟩) (Or.inr ⟨_, rfl⟩) (fun _ _ => rfl) (show (3 : Nat) ∈ ([3] : List Nat) from by decide))
 (SJ_sq (p0 := 44) (p1 := 52) (nN := 0) (nB := 0) (nC := 0) (SJ_putR (t := 3) (c := 2) (kf := 11) (r := (RX2, TX2, 12)) (p0 := 44) (p1 := 45) (p2 := 49) (EJ_aload_n (j := 0) (i := 0) (pc := 44) D_Fit_init_44 rfl) (EJ_newarr (atype := .int) (ty := .int) (t := 48) (p0 := 45) (p1 := 47) (EJ_bipush (n := 6) (v := (nI 6)) (pc := 45) D_Fit_init_45 (by decide +kernel)) D_Fit_init_47 rfl (by decide) q_145 rfl) D_Fit_init_49 ⟨rfl, rfl, by decide, q_207⟩ (Or.inr ⟨rfl, rfl⟩) (Or.inr ⟨_, rfl⟩) (fun _ _ => rfl) (show (3 : Nat) ∈ ([3] : List Nat) from by decide))
 (SJ_sq (p0 := 52) (p1 := 57) (nN := 0) (nB := 0) (nC := 0) (SJ_putR (t := 3) (c := 2) (kf := 0) (r := (RX2, TX2, 12)) (p0 := 52) (p1 := 53) (p2 := 54) (EJ_aload_n (j := 0) (i := 0) (pc := 52) D_Fit_init_52 rfl) (EJ_aload_n (j := 1) (i := 1) (pc := 53) D_Fit_init_53 rfl) D_Fit_init_54 ⟨rfl, rfl, by decide, q_195⟩ (Or.inl rfl) (Or.inl ⟨_, rfl⟩) (fun _ _ => rfl) (show (3 : Nat) ∈ ([3] : List Nat) from by decide))
 (SJ_retU (pc := 57) D_Fit_init_57)))))))))
 RTm_void q_193 (by decide +kernel) rfl (fun _ => rfl) (show 2 ≤ 40 from by decide) (fun _ => trivial)
theorem D_Fit_isWord_0 : decode cX2_isWord 0 = .ok (.aload_n 0, 1) := by decide +kernel
theorem D_Fit_isWord_1 : decode cX2_isWord 1 = .ok (.invokevirtual 66, 3) := by decide +kernel
theorem D_Fit_isWord_4 : decode cX2_isWord 4 = .ok (.aload_n 0, 1) := by decide +kernel
theorem D_Fit_isWord_5 : decode cX2_isWord 5 = .ok (.getfield 19, 3) := by decide +kernel
theorem D_Fit_isWord_8 : decode cX2_isWord 8 = .ok (.iload_n 1, 1) := by decide +kernel
theorem D_Fit_isWord_9 : decode cX2_isWord 9 = .ok (.bipush (11), 2) := by decide +kernel
theorem D_Fit_isWord_11 : decode cX2_isWord 11 = .ok (.imul, 1) := by decide +kernel
theorem D_Fit_isWord_12 : decode cX2_isWord 12 = .ok (.iload_n 2, 1) := by decide +kernel
theorem D_Fit_isWord_13 : decode cX2_isWord 13 = .ok (.iadd, 1) := by decide +kernel
theorem D_Fit_isWord_14 : decode cX2_isWord 14 = .ok (.iaload, 1) := by decide +kernel
theorem D_Fit_isWord_15 : decode cX2_isWord 15 = .ok (.iload_n 3, 1) := by decide +kernel
theorem D_Fit_isWord_16 : decode cX2_isWord 16 = .ok (.ishr, 1) := by decide +kernel
theorem D_Fit_isWord_17 : decode cX2_isWord 17 = .ok (.iconst (1), 1) := by decide +kernel
theorem D_Fit_isWord_18 : decode cX2_isWord 18 = .ok (.iand, 1) := by decide +kernel
theorem D_Fit_isWord_19 : decode cX2_isWord 19 = .ok (.iconst (1), 1) := by decide +kernel
theorem D_Fit_isWord_20 : decode cX2_isWord 20 = .ok (.if_icmp .ne (7), 3) := by decide +kernel
theorem D_Fit_isWord_23 : decode cX2_isWord 23 = .ok (.iconst (1), 1) := by decide +kernel
theorem D_Fit_isWord_24 : decode cX2_isWord 24 = .ok (.goto (4), 3) := by decide +kernel
theorem D_Fit_isWord_27 : decode cX2_isWord 27 = .ok (.iconst (0), 1) := by decide +kernel
theorem D_Fit_isWord_28 : decode cX2_isWord 28 = .ok (.ireturn, 1) := by decide +kernel
def K_Fit_isWord : SC := (cX2_isWord, "TwoLevels$Fit", 4, 4, false, [3, 43, 44, 46], NoQ)
def d_Fit_isWord : MD Int32 := mth zz 4 (sq (sE (kV 3 d_Fit_findSpans (lR 0) []))
 (rtn (eIf (eh2 c_eq (eh2 iandF (eh2 ishrF (eh2 (aI .int) (eh1 (gR 3 4) (lR 0)) (eh2 iaddF (eh2 imulF (lI 1) (eC (nI 11))) (lI 2))) (lI 3)) (eC (nI 1))) (eC (nI 1))) (eC (nI 1)) (eC (nI 0)))))
theorem m_Fit_isWord : MJ 4 [3, 43, 44, 46] yX2_isWord (some .boolean) eI (d_Fit_isWord) := MJ_of (K := K_Fit_isWord) (ri := .ireturn) (n1 := 0) (n2 := 0) (n3 := 0)
 (SJ_sq (p0 := 0) (p1 := 4) (nN := 0) (nB := 0) (nC := 0) (SJ_void (p0 := 0) (p1 := 4) (EJ_callV (t := 3) (c := 2) (r := (RX2, TX2, 12)) (p0 := 0) (p1 := 1) (p2 := 1) (EJ_aload_n (j := 0) (i := 0) (pc := 0) D_Fit_isWord_0 rfl) AJ_nil m_Fit_findSpans E1_U D_Fit_isWord_1 rfl rfl rfl q_680 q_681 q_17 q_95 ⟨by decide +kernel, by decide +kernel, by decide +kernel⟩ (by decide) (show 3 + 1 ≤ 4 from by decide) (show ∀ x_ ∈ ([3, 43, 44, 46] : List Nat), x_ ∈ ([3, 43, 44, 46] : List Nat) from by decide)))
 (SJ_ret (p0 := 4) (p1 := 28) (EJ_if (p0 := 4) (pT := 23) (pF := 27) (pE := 24) (p1 := 28) (CJ_eq' (off := 7) (tgt := 27) (p0 := 4) (p1 := 19) (p2 := 20) (EJ_iand (p0 := 4) (p1 := 17) (p2 := 18) (EJ_ishr (p0 := 4) (p1 := 15) (p2 := 16) (EJ_iald (p0 := 4) (p1 := 8) (p2 := 14) (EJ_getR (t := 3) (c := 2) (kf := 4) (r := (RX2, TX2, 12)) (p0 := 4) (p1 := 5) (EJ_aload_n (j := 0) (i := 0) (pc := 4) D_Fit_isWord_4 rfl) D_Fit_isWord_5 ⟨rfl, rfl, by decide, q_199⟩ (fun _ _ => rfl)) (EJ_iadd (p0 := 8) (p1 := 12) (p2 := 13) (EJ_imul (p0 := 8) (p1 := 9) (p2 := 11) (EJ_iload_n (j := 1) (i := 1) (pc := 8) D_Fit_isWord_8 rfl) (EJ_bipush (n := 11) (v := (nI 11)) (pc := 9) D_Fit_isWord_9 (by decide +kernel)) D_Fit_isWord_11) (EJ_iload_n (j := 2) (i := 2) (pc := 12) D_Fit_isWord_12 rfl) D_Fit_isWord_13) D_Fit_isWord_14) (EJ_iload_n (j := 3) (i := 3) (pc := 15) D_Fit_isWord_15 rfl) D_Fit_isWord_16) (EJ_iconst (n := 1) (v := (nI 1)) (pc := 17) D_Fit_isWord_17 (by decide +kernel)) D_Fit_isWord_18) (EJ_iconst (n := 1) (v := (nI 1)) (pc := 19) D_Fit_isWord_19 (by decide +kernel)) D_Fit_isWord_20 rfl) (EJ_iconst (n := 1) (v := (nI 1)) (pc := 23) D_Fit_isWord_23 (by decide +kernel)) (Lead.goto (K := K_Fit_isWord) (pc := 24) (tgt := 28) D_Fit_isWord_24 rfl) (EJ_iconst (n := 0) (v := (nI 0)) (pc := 27) D_Fit_isWord_27 (by decide +kernel))) D_Fit_isWord_28))
 RTm_bool q_679 (by decide +kernel) rfl (fun h => by cases h) (show 4 ≤ 40 from by decide) (fun _ => trivial)
theorem D_Rows_numberAt_0 : decode cX5_numberAt 0 = .ok (.lload_n 0, 1) := by decide +kernel
theorem D_Rows_numberAt_1 : decode cX5_numberAt 1 = .ok (.iconst (5), 1) := by decide +kernel
theorem D_Rows_numberAt_2 : decode cX5_numberAt 2 = .ok (.iload_n 2, 1) := by decide +kernel
theorem D_Rows_numberAt_3 : decode cX5_numberAt 3 = .ok (.iconst (1), 1) := by decide +kernel
theorem D_Rows_numberAt_4 : decode cX5_numberAt 4 = .ok (.isub, 1) := by decide +kernel
theorem D_Rows_numberAt_5 : decode cX5_numberAt 5 = .ok (.iload_n 3, 1) := by decide +kernel
theorem D_Rows_numberAt_6 : decode cX5_numberAt 6 = .ok (.isub, 1) := by decide +kernel
theorem D_Rows_numberAt_7 : decode cX5_numberAt 7 = .ok (.imul, 1) := by decide +kernel
theorem D_Rows_numberAt_8 : decode cX5_numberAt 8 = .ok (.lshr, 1) := by decide +kernel
theorem D_Rows_numberAt_9 : decode cX5_numberAt 9 = .ok (.l2i, 1) := by decide +kernel
theorem D_Rows_numberAt_10 : decode cX5_numberAt 10 = .ok (.bipush (31), 2) := by decide +kernel
theorem D_Rows_numberAt_12 : decode cX5_numberAt 12 = .ok (.iand, 1) := by decide +kernel
theorem D_Rows_numberAt_13 : decode cX5_numberAt 13 = .ok (.ireturn, 1) := by decide +kernel
def K_Rows_numberAt : SC := (cX5_numberAt, "TwoLevels$Rows", 4, 1, false, [], NoQ)
def d_Rows_numberAt : MD Int32 := mth tt 4 (rtn (eh2 iandF (eh1 l2iF (eh2 lshrF (lJ 0) (eh2 imulF (eC (nI 5)) (eh2 isubF (eh2 isubF (lI 2) (eC (nI 1))) (lI 3))))) (eC (nI 31))))
theorem m_Rows_numberAt : MJ 1 [] yX5_numberAt (some .int) eI (d_Rows_numberAt) := MJ_of (K := K_Rows_numberAt) (ri := .ireturn) (n1 := 0) (n2 := 0) (n3 := 0)
 (SJ_ret (p0 := 0) (p1 := 13) (EJ_iand (p0 := 0) (p1 := 10) (p2 := 12) (EJ_l2i (p0 := 0) (p1 := 9) (EJ_lshr (p0 := 0) (p1 := 1) (p2 := 8) (EJ_lload_n (j := 0) (i := 0) (pc := 0) D_Rows_numberAt_0 rfl) (EJ_imul (p0 := 1) (p1 := 2) (p2 := 7) (EJ_iconst (n := 5) (v := (nI 5)) (pc := 1) D_Rows_numberAt_1 (by decide +kernel)) (EJ_isub (p0 := 2) (p1 := 5) (p2 := 6) (EJ_isub (p0 := 2) (p1 := 3) (p2 := 4) (EJ_iload_n (j := 2) (i := 2) (pc := 2) D_Rows_numberAt_2 rfl) (EJ_iconst (n := 1) (v := (nI 1)) (pc := 3) D_Rows_numberAt_3 (by decide +kernel)) D_Rows_numberAt_4) (EJ_iload_n (j := 3) (i := 3) (pc := 5) D_Rows_numberAt_5 rfl) D_Rows_numberAt_6) D_Rows_numberAt_7) D_Rows_numberAt_8) D_Rows_numberAt_9) (EJ_bipush (n := 31) (v := (nI 31)) (pc := 10) D_Rows_numberAt_10 (by decide +kernel)) D_Rows_numberAt_12) D_Rows_numberAt_13)
 RTm_int q_619 (by decide +kernel) rfl (fun h => by cases h) (show 4 ≤ 40 from by decide) (fun _ => trivial)
theorem D_Fit_load_0 : decode cX2_load 0 = .ok (.aload_n 0, 1) := by decide +kernel
theorem D_Fit_load_1 : decode cX2_load 1 = .ok (.getfield 37, 3) := by decide +kernel
theorem D_Fit_load_4 : decode cX2_load 4 = .ok (.aload_n 1, 1) := by decide +kernel
theorem D_Fit_load_5 : decode cX2_load 5 = .ok (.if_acmp .ne (13), 3) := by decide +kernel
theorem D_Fit_load_8 : decode cX2_load 8 = .ok (.aload_n 0, 1) := by decide +kernel
theorem D_Fit_load_9 : decode cX2_load 9 = .ok (.getfield 41, 3) := by decide +kernel
theorem D_Fit_load_12 : decode cX2_load 12 = .ok (.lload_n 2, 1) := by decide +kernel
theorem D_Fit_load_13 : decode cX2_load 13 = .ok (.lcmp, 1) := by decide +kernel
theorem D_Fit_load_14 : decode cX2_load 14 = .ok (.ifCond .ne (4), 3) := by decide +kernel
theorem D_Fit_load_17 : decode cX2_load 17 = .ok (.return_, 1) := by decide +kernel
theorem D_Fit_load_18 : decode cX2_load 18 = .ok (.aload_n 0, 1) := by decide +kernel
theorem D_Fit_load_19 : decode cX2_load 19 = .ok (.aload_n 1, 1) := by decide +kernel
theorem D_Fit_load_20 : decode cX2_load 20 = .ok (.putfield 37, 3) := by decide +kernel
theorem D_Fit_load_23 : decode cX2_load 23 = .ok (.aload_n 0, 1) := by decide +kernel
theorem D_Fit_load_24 : decode cX2_load 24 = .ok (.lload_n 2, 1) := by decide +kernel
theorem D_Fit_load_25 : decode cX2_load 25 = .ok (.putfield 41, 3) := by decide +kernel
theorem D_Fit_load_28 : decode cX2_load 28 = .ok (.aload_n 0, 1) := by decide +kernel
theorem D_Fit_load_29 : decode cX2_load 29 = .ok (.lload_n 2, 1) := by decide +kernel
theorem D_Fit_load_30 : decode cX2_load 30 = .ok (.invokestatic 45, 3) := by decide +kernel
theorem D_Fit_load_33 : decode cX2_load 33 = .ok (.putfield 49, 3) := by decide +kernel
theorem D_Fit_load_36 : decode cX2_load 36 = .ok (.aload_n 0, 1) := by decide +kernel
theorem D_Fit_load_37 : decode cX2_load 37 = .ok (.iconst (0), 1) := by decide +kernel
theorem D_Fit_load_38 : decode cX2_load 38 = .ok (.putfield 52, 3) := by decide +kernel
theorem D_Fit_load_41 : decode cX2_load 41 = .ok (.aload_n 0, 1) := by decide +kernel
theorem D_Fit_load_42 : decode cX2_load 42 = .ok (.getfield 13, 3) := by decide +kernel
theorem D_Fit_load_45 : decode cX2_load 45 = .ok (.iconst (0), 1) := by decide +kernel
theorem D_Fit_load_46 : decode cX2_load 46 = .ok (.invokestatic 56, 3) := by decide +kernel
theorem D_Fit_load_49 : decode cX2_load 49 = .ok (.iconst (0), 1) := by decide +kernel
theorem D_Fit_load_50 : decode cX2_load 50 = .ok (.istore 4, 2) := by decide +kernel
theorem D_Fit_load_52 : decode cX2_load 52 = .ok (.iload 4, 2) := by decide +kernel
theorem D_Fit_load_54 : decode cX2_load 54 = .ok (.aload_n 0, 1) := by decide +kernel
theorem D_Fit_load_55 : decode cX2_load 55 = .ok (.getfield 49, 3) := by decide +kernel
theorem D_Fit_load_58 : decode cX2_load 58 = .ok (.if_icmp .ge (34), 3) := by decide +kernel
theorem D_Fit_load_61 : decode cX2_load 61 = .ok (.aload_n 0, 1) := by decide +kernel
theorem D_Fit_load_62 : decode cX2_load 62 = .ok (.getfield 13, 3) := by decide +kernel
theorem D_Fit_load_65 : decode cX2_load 65 = .ok (.aload_n 0, 1) := by decide +kernel
theorem D_Fit_load_66 : decode cX2_load 66 = .ok (.getfield 41, 3) := by decide +kernel
theorem D_Fit_load_69 : decode cX2_load 69 = .ok (.aload_n 0, 1) := by decide +kernel
theorem D_Fit_load_70 : decode cX2_load 70 = .ok (.getfield 49, 3) := by decide +kernel
theorem D_Fit_load_73 : decode cX2_load 73 = .ok (.iload 4, 2) := by decide +kernel
theorem D_Fit_load_75 : decode cX2_load 75 = .ok (.invokestatic 62, 3) := by decide +kernel
theorem D_Fit_load_78 : decode cX2_load 78 = .ok (.dup2, 1) := by decide +kernel
theorem D_Fit_load_79 : decode cX2_load 79 = .ok (.iaload, 1) := by decide +kernel
theorem D_Fit_load_80 : decode cX2_load 80 = .ok (.iconst (1), 1) := by decide +kernel
theorem D_Fit_load_81 : decode cX2_load 81 = .ok (.iload 4, 2) := by decide +kernel
theorem D_Fit_load_83 : decode cX2_load 83 = .ok (.ishl, 1) := by decide +kernel
theorem D_Fit_load_84 : decode cX2_load 84 = .ok (.ior, 1) := by decide +kernel
theorem D_Fit_load_85 : decode cX2_load 85 = .ok (.iastore, 1) := by decide +kernel
theorem D_Fit_load_86 : decode cX2_load 86 = .ok (.iinc 4 (1), 3) := by decide +kernel
theorem D_Fit_load_89 : decode cX2_load 89 = .ok (.goto (-37), 3) := by decide +kernel
theorem D_Fit_load_92 : decode cX2_load 92 = .ok (.return_, 1) := by decide +kernel
def K_Fit_load : SC := (cX2_load, "TwoLevels$Fit", 5, 2, false, [3, 43, 44, 46], NoQ)
def d_Fit_load : MD Unit := mth tt 5 (sq (sIf (cAnd (eh2 a_eq (eh1 (gR 3 0) (lR 0)) (lR 1)) (eh2 j_eq (eh1 (gJ 3 1) (lR 0)) (lJ 2))) rtnU sk)
 (sq (sh2 (pR 3 0) (lR 0) (lR 1))
 (sq (sh2 (pJ 3 1) (lR 0) (lJ 2))
 (sq (sh2 (pI false 3 2) (lR 0) (kS d_Rows_size [vJ (lJ 2)]))
 (sq (sh2 (pI true 3 5) (lR 0) (eC (nI 0)))
 (sq (sE (kS d_Arrays_fill [vR (eh1 (gR 3 3) (lR 0)), vI (eC (nI 0))]))
 (sq (sq (sI1 4 (eC (nI 0)))
 (loop (eh2 c_lt (lI 4) (eh1 (gI 3 2) (lR 0)))
 (su3 (aI .int) (uA [43] (fun x y => x ||| y)) (eh1 (gR 3 3) (lR 0)) (kS d_Rows_numberAt [vJ (eh1 (gJ 3 1) (lR 0)), vI (eh1 (gI 3 2) (lR 0)), vI (lI 4)]) (eh2 ishlF (eC (nI 1)) (lI 4)))
 (sInc 4 (nI 1))))
 rtnU)))))))
theorem m_Fit_load : MJ 2 [3, 43, 44, 46] yX2_load none eU (d_Fit_load) := MJ_of (K := K_Fit_load) (ri := .return_) (n1 := 0) (n2 := 0) (n3 := 0)
 (SJ_sq (p0 := 0) (p1 := 18) (nN := 0) (nB := 0) (nC := 0) (SJ_if (p0 := 0) (pT := 17) (pF := 18) (nN := 18) (nB := 0) (nC := 0) (CJ_and (p0 := 0) (pM := 8) (pT := 17) (pF := 18) (CA_eq' (off := 13) (tgt := 18) (p0 := 0) (p1 := 4) (p2 := 5) (EJ_getR (t := 3) (c := 2) (kf := 0) (r := (RX2, TX2, 12)) (p0 := 0) (p1 := 1) (EJ_aload_n (j := 0) (i := 0) (pc := 0) D_Fit_load_0 rfl) D_Fit_load_1 ⟨rfl, rfl, by decide, q_195⟩ (fun _ _ => rfl)) (EJ_aload_n (j := 1) (i := 1) (pc := 4) D_Fit_load_4 rfl) D_Fit_load_5 rfl) (CL_eq' (off := 4) (tgt := 18) (p0 := 8) (p1 := 12) (p2 := 13) (EJ_getJ (t := 3) (c := 2) (kf := 1) (r := (RX2, TX2, 12)) (p0 := 8) (p1 := 9) (EJ_aload_n (j := 0) (i := 0) (pc := 8) D_Fit_load_8 rfl) D_Fit_load_9 ⟨rfl, rfl, by decide, q_196⟩ (fun _ _ => rfl)) (EJ_lload_n (j := 2) (i := 2) (pc := 12) D_Fit_load_12 rfl) D_Fit_load_13 D_Fit_load_14 rfl)) (SJ_retU (pc := 17) D_Fit_load_17) SJ_sk)
 (SJ_sq (p0 := 18) (p1 := 23) (nN := 0) (nB := 0) (nC := 0) (SJ_putR (t := 3) (c := 2) (kf := 0) (r := (RX2, TX2, 12)) (p0 := 18) (p1 := 19) (p2 := 20) (EJ_aload_n (j := 0) (i := 0) (pc := 18) D_Fit_load_18 rfl) (EJ_aload_n (j := 1) (i := 1) (pc := 19) D_Fit_load_19 rfl) D_Fit_load_20 ⟨rfl, rfl, by decide, q_195⟩ (Or.inl rfl) (Or.inl ⟨_, rfl⟩) (fun _ _ => rfl) (show (3 : Nat) ∈ ([3, 43, 44, 46] : List Nat) from by decide))
 (SJ_sq (p0 := 23) (p1 := 28) (nN := 0) (nB := 0) (nC := 0) (SJ_putJ (t := 3) (c := 2) (kf := 1) (r := (RX2, TX2, 12)) (p0 := 23) (p1 := 24) (p2 := 25) (EJ_aload_n (j := 0) (i := 0) (pc := 23) D_Fit_load_23 rfl) (EJ_lload_n (j := 2) (i := 2) (pc := 24) D_Fit_load_24 rfl) D_Fit_load_25 ⟨rfl, rfl, by decide, q_196⟩ (Or.inl rfl) rfl (fun _ _ => rfl) (show (3 : Nat) ∈ ([3, 43, 44, 46] : List Nat) from by decide))
 (SJ_sq (p0 := 28) (p1 := 36) (nN := 0) (nB := 0) (nC := 0) (SJ_putI (z := false) (t := 3) (c := 2) (kf := 2) (r := (RX2, TX2, 12)) (p0 := 28) (p1 := 29) (p2 := 33) (EJ_aload_n (j := 0) (i := 0) (pc := 28) D_Fit_load_28 rfl) (EJ_callS (p0 := 29) (p1 := 30) (AJ_J (p0 := 29) (p1 := 30) (p2 := 30) (EJ_lload_n (j := 2) (i := 2) (pc := 29) D_Fit_load_29 rfl) AJ_nil) m_Rows_size E1_I D_Fit_load_30 q_671 q_504 q_104 ⟨by decide +kernel, by decide +kernel, by decide +kernel⟩ (by decide) (show 1 + 1 ≤ 2 from by decide) (fun _ h => absurd h List.not_mem_nil)) D_Fit_load_33 ⟨rfl, rfl, by decide, q_197⟩ (Or.inl rfl) (fun _ _ => ⟨rfl, rfl⟩) (fun _ _ => rfl) (show (3 : Nat) ∈ ([3, 43, 44, 46] : List Nat) from by decide))
 (SJ_sq (p0 := 36) (p1 := 41) (nN := 0) (nB := 0) (nC := 0) (SJ_putI (z := true) (t := 3) (c := 2) (kf := 5) (r := (RX2, TX2, 12)) (p0 := 36) (p1 := 37) (p2 := 38) (EJ_aload_n (j := 0) (i := 0) (pc := 36) D_Fit_load_36 rfl) (EJ_iconst (n := 0) (v := (nI 0)) (pc := 37) D_Fit_load_37 (by decide +kernel)) D_Fit_load_38 ⟨rfl, rfl, by decide, q_200⟩ (Or.inl rfl) (okZ_bool rfl) (fun _ _ => rfl) (show (3 : Nat) ∈ ([3, 43, 44, 46] : List Nat) from by decide))
 (SJ_sq (p0 := 41) (p1 := 49) (nN := 0) (nB := 0) (nC := 0) (SJ_void (p0 := 41) (p1 := 49) (EJ_callS (p0 := 41) (p1 := 46) (AJ_R (p0 := 41) (p1 := 45) (p2 := 46) (EJ_getR (t := 3) (c := 2) (kf := 3) (r := (RX2, TX2, 12)) (p0 := 41) (p1 := 42) (EJ_aload_n (j := 0) (i := 0) (pc := 41) D_Fit_load_41 rfl) D_Fit_load_42 ⟨rfl, rfl, by decide, q_198⟩ (fun _ _ => rfl)) (AJ_I (p0 := 45) (p1 := 46) (p2 := 46) (EJ_iconst (n := 0) (v := (nI 0)) (pc := 45) D_Fit_load_45 (by decide +kernel)) AJ_nil)) m_Arrays_fill E1_U D_Fit_load_46 q_672 q_673 q_100 ⟨by decide +kernel, by decide +kernel, by decide +kernel⟩ (by decide) (show 1 + 1 ≤ 2 from by decide) (show ∀ x_ ∈ ([43, 44, 46] : List Nat), x_ ∈ ([3, 43, 44, 46] : List Nat) from by decide)))
 (SJ_sq (p0 := 49) (p1 := 92) (nN := 0) (nB := 0) (nC := 0) (SJ_sq (p0 := 49) (p1 := 52) (nN := 92) (nB := 0) (nC := 0) (SJ_istore (i := 4) (p0 := 49) (p1 := 50) (EJ_iconst (n := 0) (v := (nI 0)) (pc := 49) D_Fit_load_49 (by decide +kernel)) D_Fit_load_50)
 (SJ_loop (p0 := 52) (pB := 61) (pS := 86) (pE := 92) (CJ_lt' (off := 34) (tgt := 92) (p0 := 52) (p1 := 54) (p2 := 58) (EJ_iload (i := 4) (pc := 52) D_Fit_load_52) (EJ_getI (t := 3) (c := 2) (kf := 2) (r := (RX2, TX2, 12)) (p0 := 54) (p1 := 55) (EJ_aload_n (j := 0) (i := 0) (pc := 54) D_Fit_load_54 rfl) D_Fit_load_55 ⟨rfl, rfl, by decide, q_197⟩ (fun _ _ => rfl)) D_Fit_load_58 rfl)
 (SJ_upA (ws := [43]) (f := (fun x y => x ||| y)) (p0 := 61) (p1 := 65) (p2 := 78) (p4 := 84) (EJ_getR (t := 3) (c := 2) (kf := 3) (r := (RX2, TX2, 12)) (p0 := 61) (p1 := 62) (EJ_aload_n (j := 0) (i := 0) (pc := 61) D_Fit_load_61 rfl) D_Fit_load_62 ⟨rfl, rfl, by decide, q_198⟩ (fun _ _ => rfl)) (EJ_callS (p0 := 65) (p1 := 75) (AJ_J (p0 := 65) (p1 := 69) (p2 := 75) (EJ_getJ (t := 3) (c := 2) (kf := 1) (r := (RX2, TX2, 12)) (p0 := 65) (p1 := 66) (EJ_aload_n (j := 0) (i := 0) (pc := 65) D_Fit_load_65 rfl) D_Fit_load_66 ⟨rfl, rfl, by decide, q_196⟩ (fun _ _ => rfl)) (AJ_I (p0 := 69) (p1 := 73) (p2 := 75) (EJ_getI (t := 3) (c := 2) (kf := 2) (r := (RX2, TX2, 12)) (p0 := 69) (p1 := 70) (EJ_aload_n (j := 0) (i := 0) (pc := 69) D_Fit_load_69 rfl) D_Fit_load_70 ⟨rfl, rfl, by decide, q_197⟩ (fun _ _ => rfl)) (AJ_I (p0 := 73) (p1 := 75) (p2 := 75) (EJ_iload (i := 4) (pc := 73) D_Fit_load_73) AJ_nil))) m_Rows_numberAt E1_I D_Fit_load_75 q_675 q_618 q_104 ⟨by decide +kernel, by decide +kernel, by decide +kernel⟩ (by decide) (show 1 + 1 ≤ 2 from by decide) (fun _ h => absurd h List.not_mem_nil)) D_Fit_load_78 D_Fit_load_79 (EJ_ishl (p0 := 80) (p1 := 81) (p2 := 83) (EJ_iconst (n := 1) (v := (nI 1)) (pc := 80) D_Fit_load_80 (by decide +kernel)) (EJ_iload (i := 4) (pc := 81) D_Fit_load_81) D_Fit_load_83) (Op2_ior D_Fit_load_84) D_Fit_load_85 (show ∀ x_ ∈ ([43] : List Nat), x_ ∈ ([3, 43, 44, 46] : List Nat) from by decide))
 (SJ_post (SJ_iinc (i := 4) (n := 1) (v := (nI 1)) (pc := 86) D_Fit_load_86 (by decide +kernel)) (Lead.goto (K := K_Fit_load) (pc := 89) (tgt := 52) D_Fit_load_89 rfl))))
 (SJ_retU (pc := 92) D_Fit_load_92))))))))
 RTm_void q_670 (by decide +kernel) rfl (fun h => by cases h) (show 5 ≤ 40 from by decide) (fun _ => trivial)
theorem D_Fit_put_0 : decode cX2_put 0 = .ok (.aload_n 0, 1) := by decide +kernel
theorem D_Fit_put_1 : decode cX2_put 1 = .ok (.getfield 30, 3) := by decide +kernel
theorem D_Fit_put_4 : decode cX2_put 4 = .ok (.iload_n 1, 1) := by decide +kernel
theorem D_Fit_put_5 : decode cX2_put 5 = .ok (.lload_n 2, 1) := by decide +kernel
theorem D_Fit_put_6 : decode cX2_put 6 = .ok (.lastore, 1) := by decide +kernel
theorem D_Fit_put_7 : decode cX2_put 7 = .ok (.aload_n 0, 1) := by decide +kernel
theorem D_Fit_put_8 : decode cX2_put 8 = .ok (.getfield 34, 3) := by decide +kernel
theorem D_Fit_put_11 : decode cX2_put 11 = .ok (.iload_n 1, 1) := by decide +kernel
theorem D_Fit_put_12 : decode cX2_put 12 = .ok (.lload_n 2, 1) := by decide +kernel
theorem D_Fit_put_13 : decode cX2_put 13 = .ok (.invokestatic 45, 3) := by decide +kernel
theorem D_Fit_put_16 : decode cX2_put 16 = .ok (.iastore, 1) := by decide +kernel
theorem D_Fit_put_17 : decode cX2_put 17 = .ok (.return_, 1) := by decide +kernel
def K_Fit_put : SC := (cX2_put, "TwoLevels$Fit", 4, 2, false, [47, 48], NoQ)
def d_Fit_put : MD Unit := mth tt 4 (sq (sh3 (stJ [47]) (eh1 (gR 3 10) (lR 0)) (lI 1) (lJ 2))
 (sq (sh3 (stI [48]) (eh1 (gR 3 11) (lR 0)) (lI 1) (kS d_Rows_size [vJ (lJ 2)]))
 rtnU))
theorem m_Fit_put : MJ 2 [47, 48] yX2_put none eU (d_Fit_put) := MJ_of (K := K_Fit_put) (ri := .return_) (n1 := 0) (n2 := 0) (n3 := 0)
 (SJ_sq (p0 := 0) (p1 := 7) (nN := 0) (nB := 0) (nC := 0) (SJ_last (ws := [47]) (p0 := 0) (p1 := 4) (p2 := 5) (p3 := 6) (EJ_getR (t := 3) (c := 2) (kf := 10) (r := (RX2, TX2, 12)) (p0 := 0) (p1 := 1) (EJ_aload_n (j := 0) (i := 0) (pc := 0) D_Fit_put_0 rfl) D_Fit_put_1 ⟨rfl, rfl, by decide, q_205⟩ (fun _ _ => rfl)) (EJ_iload_n (j := 1) (i := 1) (pc := 4) D_Fit_put_4 rfl) (EJ_lload_n (j := 2) (i := 2) (pc := 5) D_Fit_put_5 rfl) D_Fit_put_6 (show ∀ x_ ∈ ([47] : List Nat), x_ ∈ ([47, 48] : List Nat) from by decide))
 (SJ_sq (p0 := 7) (p1 := 17) (nN := 0) (nB := 0) (nC := 0) (SJ_iast (ws := [48]) (p0 := 7) (p1 := 11) (p2 := 12) (p3 := 16) (EJ_getR (t := 3) (c := 2) (kf := 11) (r := (RX2, TX2, 12)) (p0 := 7) (p1 := 8) (EJ_aload_n (j := 0) (i := 0) (pc := 7) D_Fit_put_7 rfl) D_Fit_put_8 ⟨rfl, rfl, by decide, q_207⟩ (fun _ _ => rfl)) (EJ_iload_n (j := 1) (i := 1) (pc := 11) D_Fit_put_11 rfl) (EJ_callS (p0 := 12) (p1 := 13) (AJ_J (p0 := 12) (p1 := 13) (p2 := 13) (EJ_lload_n (j := 2) (i := 2) (pc := 12) D_Fit_put_12 rfl) AJ_nil) m_Rows_size E1_I D_Fit_put_13 q_671 q_504 q_104 ⟨by decide +kernel, by decide +kernel, by decide +kernel⟩ (by decide) (show 1 + 1 ≤ 2 from by decide) (fun _ h => absurd h List.not_mem_nil)) D_Fit_put_16 (show ∀ x_ ∈ ([48] : List Nat), x_ ∈ ([47, 48] : List Nat) from by decide))
 (SJ_retU (pc := 17) D_Fit_put_17)))
 RTm_void q_747 (by decide +kernel) rfl (fun h => by cases h) (show 4 ≤ 40 from by decide) (fun _ => trivial)
theorem D_Fit_setValues_0 : decode cX2_setValues 0 = .ok (.iconst (0), 1) := by decide +kernel
theorem D_Fit_setValues_1 : decode cX2_setValues 1 = .ok (.istore_n 1, 1) := by decide +kernel
theorem D_Fit_setValues_2 : decode cX2_setValues 2 = .ok (.iload_n 1, 1) := by decide +kernel
theorem D_Fit_setValues_3 : decode cX2_setValues 3 = .ok (.aload_n 0, 1) := by decide +kernel
theorem D_Fit_setValues_4 : decode cX2_setValues 4 = .ok (.getfield 87, 3) := by decide +kernel
theorem D_Fit_setValues_7 : decode cX2_setValues 7 = .ok (.getfield 94, 3) := by decide +kernel
theorem D_Fit_setValues_10 : decode cX2_setValues 10 = .ok (.arraylength, 1) := by decide +kernel
theorem D_Fit_setValues_11 : decode cX2_setValues 11 = .ok (.if_icmp .ge (69), 3) := by decide +kernel
theorem D_Fit_setValues_14 : decode cX2_setValues 14 = .ok (.aload_n 0, 1) := by decide +kernel
theorem D_Fit_setValues_15 : decode cX2_setValues 15 = .ok (.getfield 87, 3) := by decide +kernel
theorem D_Fit_setValues_18 : decode cX2_setValues 18 = .ok (.getfield 94, 3) := by decide +kernel
theorem D_Fit_setValues_21 : decode cX2_setValues 21 = .ok (.iload_n 1, 1) := by decide +kernel
theorem D_Fit_setValues_22 : decode cX2_setValues 22 = .ok (.iaload, 1) := by decide +kernel
theorem D_Fit_setValues_23 : decode cX2_setValues 23 = .ok (.bipush (32), 2) := by decide +kernel
theorem D_Fit_setValues_25 : decode cX2_setValues 25 = .ok (.isub, 1) := by decide +kernel
theorem D_Fit_setValues_26 : decode cX2_setValues 26 = .ok (.istore_n 2, 1) := by decide +kernel
theorem D_Fit_setValues_27 : decode cX2_setValues 27 = .ok (.iload_n 2, 1) := by decide +kernel
theorem D_Fit_setValues_28 : decode cX2_setValues 28 = .ok (.ifCond .lt (46), 3) := by decide +kernel
theorem D_Fit_setValues_31 : decode cX2_setValues 31 = .ok (.aload_n 0, 1) := by decide +kernel
theorem D_Fit_setValues_32 : decode cX2_setValues 32 = .ok (.getfield 87, 3) := by decide +kernel
theorem D_Fit_setValues_35 : decode cX2_setValues 35 = .ok (.getfield 118, 3) := by decide +kernel
theorem D_Fit_setValues_38 : decode cX2_setValues 38 = .ok (.iload_n 1, 1) := by decide +kernel
theorem D_Fit_setValues_39 : decode cX2_setValues 39 = .ok (.iaload, 1) := by decide +kernel
theorem D_Fit_setValues_40 : decode cX2_setValues 40 = .ok (.iload_n 1, 1) := by decide +kernel
theorem D_Fit_setValues_41 : decode cX2_setValues 41 = .ok (.if_icmp .ne (33), 3) := by decide +kernel
theorem D_Fit_setValues_44 : decode cX2_setValues 44 = .ok (.aload_n 0, 1) := by decide +kernel
theorem D_Fit_setValues_45 : decode cX2_setValues 45 = .ok (.iload_n 2, 1) := by decide +kernel
theorem D_Fit_setValues_46 : decode cX2_setValues 46 = .ok (.aload_n 0, 1) := by decide +kernel
theorem D_Fit_setValues_47 : decode cX2_setValues 47 = .ok (.getfield 41, 3) := by decide +kernel
theorem D_Fit_setValues_50 : decode cX2_setValues 50 = .ok (.aload_n 0, 1) := by decide +kernel
theorem D_Fit_setValues_51 : decode cX2_setValues 51 = .ok (.getfield 49, 3) := by decide +kernel
theorem D_Fit_setValues_54 : decode cX2_setValues 54 = .ok (.aload_n 0, 1) := by decide +kernel
theorem D_Fit_setValues_55 : decode cX2_setValues 55 = .ok (.getfield 24, 3) := by decide +kernel
theorem D_Fit_setValues_58 : decode cX2_setValues 58 = .ok (.iload_n 1, 1) := by decide +kernel
theorem D_Fit_setValues_59 : decode cX2_setValues 59 = .ok (.iaload, 1) := by decide +kernel
theorem D_Fit_setValues_60 : decode cX2_setValues 60 = .ok (.aload_n 0, 1) := by decide +kernel
theorem D_Fit_setValues_61 : decode cX2_setValues 61 = .ok (.getfield 24, 3) := by decide +kernel
theorem D_Fit_setValues_64 : decode cX2_setValues 64 = .ok (.iload_n 1, 1) := by decide +kernel
theorem D_Fit_setValues_65 : decode cX2_setValues 65 = .ok (.iconst (1), 1) := by decide +kernel
theorem D_Fit_setValues_66 : decode cX2_setValues 66 = .ok (.iadd, 1) := by decide +kernel
theorem D_Fit_setValues_67 : decode cX2_setValues 67 = .ok (.iaload, 1) := by decide +kernel
theorem D_Fit_setValues_68 : decode cX2_setValues 68 = .ok (.invokestatic 124, 3) := by decide +kernel
theorem D_Fit_setValues_71 : decode cX2_setValues 71 = .ok (.invokevirtual 133, 3) := by decide +kernel
theorem D_Fit_setValues_74 : decode cX2_setValues 74 = .ok (.iinc 1 (1), 3) := by decide +kernel
theorem D_Fit_setValues_77 : decode cX2_setValues 77 = .ok (.goto (-75), 3) := by decide +kernel
theorem D_Fit_setValues_80 : decode cX2_setValues 80 = .ok (.return_, 1) := by decide +kernel
def K_Fit_setValues : SC := (cX2_setValues, "TwoLevels$Fit", 3, 3, false, [47, 48], NoQ)
def d_Fit_setValues : MD Unit := mth tt 3 (sq (sq (sI1 1 (eC (nI 0)))
 (loop (eh2 c_lt (lI 1) (eh1 aL (eh1 (gR 7 0) (eh1 (gR 3 6) (lR 0)))))
 (sq (sI1 2 (eh2 isubF (eh2 (aI .int) (eh1 (gR 7 0) (eh1 (gR 3 6) (lR 0))) (lI 1)) (eC (nI 32))))
 (sIf (cAnd (eh1 z_ge (lI 2)) (eh2 c_eq (eh2 (aI .int) (eh1 (gR 7 2) (eh1 (gR 3 6) (lR 0))) (lI 1)) (lI 1))) (sE (kV 3 d_Fit_put (lR 0) [vI (lI 2), vJ (kS d_Rows_part [vJ (eh1 (gJ 3 1) (lR 0)), vI (eh1 (gI 3 2) (lR 0)), vI (eh2 (aI .int) (eh1 (gR 3 8) (lR 0)) (lI 1)), vI (eh2 (aI .int) (eh1 (gR 3 8) (lR 0)) (eh2 iaddF (lI 1) (eC (nI 1))))])])) sk))
 (sInc 1 (nI 1))))
 rtnU)
theorem m_Fit_setValues : MJ 3 [47, 48] yX2_setValues none eU (d_Fit_setValues) := MJ_of (K := K_Fit_setValues) (ri := .return_) (n1 := 0) (n2 := 0) (n3 := 0)
 (SJ_sq (p0 := 0) (p1 := 80) (nN := 0) (nB := 0) (nC := 0) (SJ_sq (p0 := 0) (p1 := 2) (nN := 80) (nB := 0) (nC := 0) (SJ_istore_n (i := 1) (j := 1) (p0 := 0) (p1 := 1) (EJ_iconst (n := 0) (v := (nI 0)) (pc := 0) D_Fit_setValues_0 (by decide +kernel)) D_Fit_setValues_1 rfl)
 (SJ_loop (p0 := 2) (pB := 14) (pS := 74) (pE := 80) (CJ_lt' (off := 69) (tgt := 80) (p0 := 2) (p1 := 3) (p2 := 11) (EJ_iload_n (j := 1) (i := 1) (pc := 2) D_Fit_setValues_2 rfl) (EJ_alen (p0 := 3) (p1 := 10) (EJ_getR (t := 7) (c := 6) (kf := 0) (r := (RX6, TX6, 5)) (p0 := 3) (p1 := 7) (EJ_getR (t := 3) (c := 2) (kf := 6) (r := (RX2, TX2, 12)) (p0 := 3) (p1 := 4) (EJ_aload_n (j := 0) (i := 0) (pc := 3) D_Fit_setValues_3 rfl) D_Fit_setValues_4 ⟨rfl, rfl, by decide, q_201⟩ (fun _ _ => rfl)) D_Fit_setValues_7 ⟨rfl, rfl, by decide, q_389⟩ (fun _ _ => rfl)) D_Fit_setValues_10) D_Fit_setValues_11 rfl)
 (SJ_sq (p0 := 14) (p1 := 27) (nN := 74) (nB := 80) (nC := 74) (SJ_istore_n (i := 2) (j := 2) (p0 := 14) (p1 := 26) (EJ_isub (p0 := 14) (p1 := 23) (p2 := 25) (EJ_iald (p0 := 14) (p1 := 21) (p2 := 22) (EJ_getR (t := 7) (c := 6) (kf := 0) (r := (RX6, TX6, 5)) (p0 := 14) (p1 := 18) (EJ_getR (t := 3) (c := 2) (kf := 6) (r := (RX2, TX2, 12)) (p0 := 14) (p1 := 15) (EJ_aload_n (j := 0) (i := 0) (pc := 14) D_Fit_setValues_14 rfl) D_Fit_setValues_15 ⟨rfl, rfl, by decide, q_201⟩ (fun _ _ => rfl)) D_Fit_setValues_18 ⟨rfl, rfl, by decide, q_389⟩ (fun _ _ => rfl)) (EJ_iload_n (j := 1) (i := 1) (pc := 21) D_Fit_setValues_21 rfl) D_Fit_setValues_22) (EJ_bipush (n := 32) (v := (nI 32)) (pc := 23) D_Fit_setValues_23 (by decide +kernel)) D_Fit_setValues_25) D_Fit_setValues_26 rfl)
 (SJ_if (p0 := 27) (pT := 44) (pF := 74) (nN := 74) (nB := 80) (nC := 74) (CJ_and (p0 := 27) (pM := 31) (pT := 44) (pF := 74) (CZ_ge' (off := 46) (tgt := 74) (p0 := 27) (p1 := 28) (EJ_iload_n (j := 2) (i := 2) (pc := 27) D_Fit_setValues_27 rfl) D_Fit_setValues_28 rfl) (CJ_eq' (off := 33) (tgt := 74) (p0 := 31) (p1 := 40) (p2 := 41) (EJ_iald (p0 := 31) (p1 := 38) (p2 := 39) (EJ_getR (t := 7) (c := 6) (kf := 2) (r := (RX6, TX6, 5)) (p0 := 31) (p1 := 35) (EJ_getR (t := 3) (c := 2) (kf := 6) (r := (RX2, TX2, 12)) (p0 := 31) (p1 := 32) (EJ_aload_n (j := 0) (i := 0) (pc := 31) D_Fit_setValues_31 rfl) D_Fit_setValues_32 ⟨rfl, rfl, by decide, q_201⟩ (fun _ _ => rfl)) D_Fit_setValues_35 ⟨rfl, rfl, by decide, q_396⟩ (fun _ _ => rfl)) (EJ_iload_n (j := 1) (i := 1) (pc := 38) D_Fit_setValues_38 rfl) D_Fit_setValues_39) (EJ_iload_n (j := 1) (i := 1) (pc := 40) D_Fit_setValues_40 rfl) D_Fit_setValues_41 rfl)) (SJ_void (p0 := 44) (p1 := 74) (EJ_callV (t := 3) (c := 2) (r := (RX2, TX2, 12)) (p0 := 44) (p1 := 45) (p2 := 71) (EJ_aload_n (j := 0) (i := 0) (pc := 44) D_Fit_setValues_44 rfl) (AJ_I (p0 := 45) (p1 := 46) (p2 := 71) (EJ_iload_n (j := 2) (i := 2) (pc := 45) D_Fit_setValues_45 rfl) (AJ_J (p0 := 46) (p1 := 71) (p2 := 71) (EJ_callS (p0 := 46) (p1 := 68) (AJ_J (p0 := 46) (p1 := 50) (p2 := 68) (EJ_getJ (t := 3) (c := 2) (kf := 1) (r := (RX2, TX2, 12)) (p0 := 46) (p1 := 47) (EJ_aload_n (j := 0) (i := 0) (pc := 46) D_Fit_setValues_46 rfl) D_Fit_setValues_47 ⟨rfl, rfl, by decide, q_196⟩ (fun _ _ => rfl)) (AJ_I (p0 := 50) (p1 := 54) (p2 := 68) (EJ_getI (t := 3) (c := 2) (kf := 2) (r := (RX2, TX2, 12)) (p0 := 50) (p1 := 51) (EJ_aload_n (j := 0) (i := 0) (pc := 50) D_Fit_setValues_50 rfl) D_Fit_setValues_51 ⟨rfl, rfl, by decide, q_197⟩ (fun _ _ => rfl)) (AJ_I (p0 := 54) (p1 := 60) (p2 := 68) (EJ_iald (p0 := 54) (p1 := 58) (p2 := 59) (EJ_getR (t := 3) (c := 2) (kf := 8) (r := (RX2, TX2, 12)) (p0 := 54) (p1 := 55) (EJ_aload_n (j := 0) (i := 0) (pc := 54) D_Fit_setValues_54 rfl) D_Fit_setValues_55 ⟨rfl, rfl, by decide, q_203⟩ (fun _ _ => rfl)) (EJ_iload_n (j := 1) (i := 1) (pc := 58) D_Fit_setValues_58 rfl) D_Fit_setValues_59) (AJ_I (p0 := 60) (p1 := 68) (p2 := 68) (EJ_iald (p0 := 60) (p1 := 64) (p2 := 67) (EJ_getR (t := 3) (c := 2) (kf := 8) (r := (RX2, TX2, 12)) (p0 := 60) (p1 := 61) (EJ_aload_n (j := 0) (i := 0) (pc := 60) D_Fit_setValues_60 rfl) D_Fit_setValues_61 ⟨rfl, rfl, by decide, q_203⟩ (fun _ _ => rfl)) (EJ_iadd (p0 := 64) (p1 := 65) (p2 := 66) (EJ_iload_n (j := 1) (i := 1) (pc := 64) D_Fit_setValues_64 rfl) (EJ_iconst (n := 1) (v := (nI 1)) (pc := 65) D_Fit_setValues_65 (by decide +kernel)) D_Fit_setValues_66) D_Fit_setValues_67) AJ_nil)))) m_Rows_part E1_J D_Fit_setValues_68 q_741 q_742 q_104 ⟨by decide +kernel, by decide +kernel, by decide +kernel⟩ (by decide) (show 1 + 1 ≤ 3 from by decide) (fun _ h => absurd h List.not_mem_nil)) AJ_nil)) m_Fit_put E1_U D_Fit_setValues_71 rfl rfl rfl q_744 q_745 q_746 q_95 ⟨by decide +kernel, by decide +kernel, by decide +kernel⟩ (by decide) (show 2 + 1 ≤ 3 from by decide) (show ∀ x_ ∈ ([47, 48] : List Nat), x_ ∈ ([47, 48] : List Nat) from by decide))) SJ_sk))
 (SJ_post (SJ_iinc (i := 1) (n := 1) (v := (nI 1)) (pc := 74) D_Fit_setValues_74 (by decide +kernel)) (Lead.goto (K := K_Fit_setValues) (pc := 77) (tgt := 2) D_Fit_setValues_77 rfl))))
 (SJ_retU (pc := 80) D_Fit_setValues_80))
 RTm_void q_740 (by decide +kernel) rfl (fun h => by cases h) (show 3 ≤ 40 from by decide) (fun _ => trivial)
theorem D_Fit_next_0 : decode cX2_next 0 = .ok (.aload_n 0, 1) := by decide +kernel
theorem D_Fit_next_1 : decode cX2_next 1 = .ok (.getfield 87, 3) := by decide +kernel
theorem D_Fit_next_4 : decode cX2_next 4 = .ok (.ifnonnull (5), 3) := by decide +kernel
theorem D_Fit_next_7 : decode cX2_next 7 = .ok (.iconst (0), 1) := by decide +kernel
theorem D_Fit_next_8 : decode cX2_next 8 = .ok (.ireturn, 1) := by decide +kernel
theorem D_Fit_next_9 : decode cX2_next 9 = .ok (.aload_n 0, 1) := by decide +kernel
theorem D_Fit_next_10 : decode cX2_next 10 = .ok (.getfield 87, 3) := by decide +kernel
theorem D_Fit_next_13 : decode cX2_next 13 = .ok (.getfield 94, 3) := by decide +kernel
theorem D_Fit_next_16 : decode cX2_next 16 = .ok (.arraylength, 1) := by decide +kernel
theorem D_Fit_next_17 : decode cX2_next 17 = .ok (.istore_n 1, 1) := by decide +kernel
theorem D_Fit_next_18 : decode cX2_next 18 = .ok (.aload_n 0, 1) := by decide +kernel
theorem D_Fit_next_19 : decode cX2_next 19 = .ok (.getfield 91, 3) := by decide +kernel
theorem D_Fit_next_22 : decode cX2_next 22 = .ok (.istore_n 2, 1) := by decide +kernel
theorem D_Fit_next_23 : decode cX2_next 23 = .ok (.aload_n 0, 1) := by decide +kernel
theorem D_Fit_next_24 : decode cX2_next 24 = .ok (.getfield 91, 3) := by decide +kernel
theorem D_Fit_next_27 : decode cX2_next 27 = .ok (.ifCond .eq (7), 3) := by decide +kernel
theorem D_Fit_next_30 : decode cX2_next 30 = .ok (.iconst (0), 1) := by decide +kernel
theorem D_Fit_next_31 : decode cX2_next 31 = .ok (.goto (6), 3) := by decide +kernel
theorem D_Fit_next_34 : decode cX2_next 34 = .ok (.iload_n 1, 1) := by decide +kernel
theorem D_Fit_next_35 : decode cX2_next 35 = .ok (.iconst (1), 1) := by decide +kernel
theorem D_Fit_next_36 : decode cX2_next 36 = .ok (.isub, 1) := by decide +kernel
theorem D_Fit_next_37 : decode cX2_next 37 = .ok (.istore_n 3, 1) := by decide +kernel
theorem D_Fit_next_38 : decode cX2_next 38 = .ok (.aload_n 0, 1) := by decide +kernel
theorem D_Fit_next_39 : decode cX2_next 39 = .ok (.iconst (0), 1) := by decide +kernel
theorem D_Fit_next_40 : decode cX2_next 40 = .ok (.putfield 91, 3) := by decide +kernel
theorem D_Fit_next_43 : decode cX2_next 43 = .ok (.iconst (0), 1) := by decide +kernel
theorem D_Fit_next_44 : decode cX2_next 44 = .ok (.istore 4, 2) := by decide +kernel
theorem D_Fit_next_46 : decode cX2_next 46 = .ok (.iload_n 3, 1) := by decide +kernel
theorem D_Fit_next_47 : decode cX2_next 47 = .ok (.ifCond .lt (75), 3) := by decide +kernel
theorem D_Fit_next_50 : decode cX2_next 50 = .ok (.iload 4, 2) := by decide +kernel
theorem D_Fit_next_52 : decode cX2_next 52 = .ok (.ldc 69, 2) := by decide +kernel
theorem D_Fit_next_54 : decode cX2_next 54 = .ok (.if_icmp .ge (68), 3) := by decide +kernel
theorem D_Fit_next_57 : decode cX2_next 57 = .ok (.iload_n 3, 1) := by decide +kernel
theorem D_Fit_next_58 : decode cX2_next 58 = .ok (.iload_n 1, 1) := by decide +kernel
theorem D_Fit_next_59 : decode cX2_next 59 = .ok (.if_icmp .ne (27), 3) := by decide +kernel
theorem D_Fit_next_62 : decode cX2_next 62 = .ok (.aload_n 0, 1) := by decide +kernel
theorem D_Fit_next_63 : decode cX2_next 63 = .ok (.getfield 24, 3) := by decide +kernel
theorem D_Fit_next_66 : decode cX2_next 66 = .ok (.iload_n 3, 1) := by decide +kernel
theorem D_Fit_next_67 : decode cX2_next 67 = .ok (.iaload, 1) := by decide +kernel
theorem D_Fit_next_68 : decode cX2_next 68 = .ok (.aload_n 0, 1) := by decide +kernel
theorem D_Fit_next_69 : decode cX2_next 69 = .ok (.getfield 49, 3) := by decide +kernel
theorem D_Fit_next_72 : decode cX2_next 72 = .ok (.if_icmp .ne (9), 3) := by decide +kernel
theorem D_Fit_next_75 : decode cX2_next 75 = .ok (.aload_n 0, 1) := by decide +kernel
theorem D_Fit_next_76 : decode cX2_next 76 = .ok (.invokevirtual 108, 3) := by decide +kernel
theorem D_Fit_next_79 : decode cX2_next 79 = .ok (.iconst (1), 1) := by decide +kernel
theorem D_Fit_next_80 : decode cX2_next 80 = .ok (.ireturn, 1) := by decide +kernel
theorem D_Fit_next_81 : decode cX2_next 81 = .ok (.iconst (0), 1) := by decide +kernel
theorem D_Fit_next_82 : decode cX2_next 82 = .ok (.istore_n 2, 1) := by decide +kernel
theorem D_Fit_next_83 : decode cX2_next 83 = .ok (.goto (21), 3) := by decide +kernel
theorem D_Fit_next_86 : decode cX2_next 86 = .ok (.iload_n 2, 1) := by decide +kernel
theorem D_Fit_next_87 : decode cX2_next 87 = .ok (.ifCond .eq (11), 3) := by decide +kernel
theorem D_Fit_next_90 : decode cX2_next 90 = .ok (.aload_n 0, 1) := by decide +kernel
theorem D_Fit_next_91 : decode cX2_next 91 = .ok (.iload_n 3, 1) := by decide +kernel
theorem D_Fit_next_92 : decode cX2_next 92 = .ok (.invokevirtual 111, 3) := by decide +kernel
theorem D_Fit_next_95 : decode cX2_next 95 = .ok (.goto (8), 3) := by decide +kernel
theorem D_Fit_next_98 : decode cX2_next 98 = .ok (.aload_n 0, 1) := by decide +kernel
theorem D_Fit_next_99 : decode cX2_next 99 = .ok (.iload_n 3, 1) := by decide +kernel
theorem D_Fit_next_100 : decode cX2_next 100 = .ok (.invokevirtual 115, 3) := by decide +kernel
theorem D_Fit_next_103 : decode cX2_next 103 = .ok (.istore_n 2, 1) := by decide +kernel
theorem D_Fit_next_104 : decode cX2_next 104 = .ok (.iload_n 3, 1) := by decide +kernel
theorem D_Fit_next_105 : decode cX2_next 105 = .ok (.iload_n 2, 1) := by decide +kernel
theorem D_Fit_next_106 : decode cX2_next 106 = .ok (.ifCond .eq (7), 3) := by decide +kernel
theorem D_Fit_next_109 : decode cX2_next 109 = .ok (.iconst (1), 1) := by decide +kernel
theorem D_Fit_next_110 : decode cX2_next 110 = .ok (.goto (4), 3) := by decide +kernel
theorem D_Fit_next_113 : decode cX2_next 113 = .ok (.iconst (-1), 1) := by decide +kernel
theorem D_Fit_next_114 : decode cX2_next 114 = .ok (.iadd, 1) := by decide +kernel
theorem D_Fit_next_115 : decode cX2_next 115 = .ok (.istore_n 3, 1) := by decide +kernel
theorem D_Fit_next_116 : decode cX2_next 116 = .ok (.iinc 4 (1), 3) := by decide +kernel
theorem D_Fit_next_119 : decode cX2_next 119 = .ok (.goto (-73), 3) := by decide +kernel
theorem D_Fit_next_122 : decode cX2_next 122 = .ok (.iconst (0), 1) := by decide +kernel
theorem D_Fit_next_123 : decode cX2_next 123 = .ok (.ireturn, 1) := by decide +kernel
def K_Fit_next : SC := (cX2_next, "TwoLevels$Fit", 5, 4, false, [3, 45, 46, 47, 48], NoQ)
def d_Fit_next : MD Int32 := mth zz 5 (sq (sIf (eh1 n_nul (eh1 (gR 3 6) (lR 0))) (rtn (eC (nI 0))) sk)
 (sq (sI1 1 (eh1 aL (eh1 (gR 7 0) (eh1 (gR 3 6) (lR 0)))))
 (sq (sI1 2 (eh1 (gI 3 7) (lR 0)))
 (sq (sI1 3 (eIf (eh1 z_ne (eh1 (gI 3 7) (lR 0))) (eC (nI 0)) (eh2 isubF (lI 1) (eC (nI 1)))))
 (sq (sh2 (pI true 3 7) (lR 0) (eC (nI 0)))
 (sq (sq (sI1 4 (eC (nI 0)))
 (loop (cAnd (eh1 z_ge (lI 3)) (eh2 c_lt (lI 4) (eC (nI 1000000))))
 (sq (sIf (eh2 c_eq (lI 3) (lI 1)) (sq (sIf (eh2 c_eq (eh2 (aI .int) (eh1 (gR 3 8) (lR 0)) (lI 3)) (eh1 (gI 3 2) (lR 0))) (sq (sE (kV 3 d_Fit_setValues (lR 0) []))
 (rtn (eC (nI 1)))) sk)
 (sI1 2 (eC (nI 0)))) (sI1 2 (eIf (eh1 z_ne (lI 2)) (kV 3 d_Fit_enters (lR 0) [vI (lI 3)]) (kV 3 d_Fit_endsElsewhere (lR 0) [vI (lI 3)]))))
 (sI1 3 (eh2 iaddF (lI 3) (eIf (eh1 z_ne (lI 2)) (eC (nI 1)) (eC (-1))))))
 (sInc 4 (nI 1))))
 (rtn (eC (nI 0)))))))))
theorem m_Fit_next : MJ 4 [3, 45, 46, 47, 48] yX2_next (some .boolean) eI (d_Fit_next) := MJ_of (K := K_Fit_next) (ri := .ireturn) (n1 := 0) (n2 := 0) (n3 := 0)
 (SJ_sq (p0 := 0) (p1 := 9) (nN := 0) (nB := 0) (nC := 0) (SJ_if (p0 := 0) (pT := 7) (pF := 9) (nN := 9) (nB := 0) (nC := 0) (CN_nul' (off := 5) (tgt := 9) (p0 := 0) (p1 := 4) (EJ_getR (t := 3) (c := 2) (kf := 6) (r := (RX2, TX2, 12)) (p0 := 0) (p1 := 1) (EJ_aload_n (j := 0) (i := 0) (pc := 0) D_Fit_next_0 rfl) D_Fit_next_1 ⟨rfl, rfl, by decide, q_201⟩ (fun _ _ => rfl)) D_Fit_next_4 rfl) (SJ_ret (p0 := 7) (p1 := 8) (EJ_iconst (n := 0) (v := (nI 0)) (pc := 7) D_Fit_next_7 (by decide +kernel)) D_Fit_next_8) SJ_sk)
 (SJ_sq (p0 := 9) (p1 := 18) (nN := 0) (nB := 0) (nC := 0) (SJ_istore_n (i := 1) (j := 1) (p0 := 9) (p1 := 17) (EJ_alen (p0 := 9) (p1 := 16) (EJ_getR (t := 7) (c := 6) (kf := 0) (r := (RX6, TX6, 5)) (p0 := 9) (p1 := 13) (EJ_getR (t := 3) (c := 2) (kf := 6) (r := (RX2, TX2, 12)) (p0 := 9) (p1 := 10) (EJ_aload_n (j := 0) (i := 0) (pc := 9) D_Fit_next_9 rfl) D_Fit_next_10 ⟨rfl, rfl, by decide, q_201⟩ (fun _ _ => rfl)) D_Fit_next_13 ⟨rfl, rfl, by decide, q_389⟩ (fun _ _ => rfl)) D_Fit_next_16) D_Fit_next_17 rfl)
 (SJ_sq (p0 := 18) (p1 := 23) (nN := 0) (nB := 0) (nC := 0) (SJ_istore_n (i := 2) (j := 2) (p0 := 18) (p1 := 22) (EJ_getI (t := 3) (c := 2) (kf := 7) (r := (RX2, TX2, 12)) (p0 := 18) (p1 := 19) (EJ_aload_n (j := 0) (i := 0) (pc := 18) D_Fit_next_18 rfl) D_Fit_next_19 ⟨rfl, rfl, by decide, q_202⟩ (fun _ _ => rfl)) D_Fit_next_22 rfl)
 (SJ_sq (p0 := 23) (p1 := 38) (nN := 0) (nB := 0) (nC := 0) (SJ_istore_n (i := 3) (j := 3) (p0 := 23) (p1 := 37) (EJ_if (p0 := 23) (pT := 30) (pF := 34) (pE := 31) (p1 := 37) (CZ_ne' (off := 7) (tgt := 34) (p0 := 23) (p1 := 27) (EJ_getI (t := 3) (c := 2) (kf := 7) (r := (RX2, TX2, 12)) (p0 := 23) (p1 := 24) (EJ_aload_n (j := 0) (i := 0) (pc := 23) D_Fit_next_23 rfl) D_Fit_next_24 ⟨rfl, rfl, by decide, q_202⟩ (fun _ _ => rfl)) D_Fit_next_27 rfl) (EJ_iconst (n := 0) (v := (nI 0)) (pc := 30) D_Fit_next_30 (by decide +kernel)) (Lead.goto (K := K_Fit_next) (pc := 31) (tgt := 37) D_Fit_next_31 rfl) (EJ_isub (p0 := 34) (p1 := 35) (p2 := 36) (EJ_iload_n (j := 1) (i := 1) (pc := 34) D_Fit_next_34 rfl) (EJ_iconst (n := 1) (v := (nI 1)) (pc := 35) D_Fit_next_35 (by decide +kernel)) D_Fit_next_36)) D_Fit_next_37 rfl)
 (SJ_sq (p0 := 38) (p1 := 43) (nN := 0) (nB := 0) (nC := 0) (SJ_putI (z := true) (t := 3) (c := 2) (kf := 7) (r := (RX2, TX2, 12)) (p0 := 38) (p1 := 39) (p2 := 40) (EJ_aload_n (j := 0) (i := 0) (pc := 38) D_Fit_next_38 rfl) (EJ_iconst (n := 0) (v := (nI 0)) (pc := 39) D_Fit_next_39 (by decide +kernel)) D_Fit_next_40 ⟨rfl, rfl, by decide, q_202⟩ (Or.inl rfl) (okZ_bool rfl) (fun _ _ => rfl) (show (3 : Nat) ∈ ([3, 45, 46, 47, 48] : List Nat) from by decide))
 (SJ_sq (p0 := 43) (p1 := 122) (nN := 0) (nB := 0) (nC := 0) (SJ_sq (p0 := 43) (p1 := 46) (nN := 122) (nB := 0) (nC := 0) (SJ_istore (i := 4) (p0 := 43) (p1 := 44) (EJ_iconst (n := 0) (v := (nI 0)) (pc := 43) D_Fit_next_43 (by decide +kernel)) D_Fit_next_44)
 (SJ_loop (p0 := 46) (pB := 57) (pS := 116) (pE := 122) (CJ_and (p0 := 46) (pM := 50) (pT := 57) (pF := 122) (CZ_ge' (off := 75) (tgt := 122) (p0 := 46) (p1 := 47) (EJ_iload_n (j := 3) (i := 3) (pc := 46) D_Fit_next_46 rfl) D_Fit_next_47 rfl) (CJ_lt' (off := 68) (tgt := 122) (p0 := 50) (p1 := 52) (p2 := 54) (EJ_iload (i := 4) (pc := 50) D_Fit_next_50) (EJ_ldc (i := 69) (v := (nI 1000000)) (pc := 52) D_Fit_next_52 q_683) D_Fit_next_54 rfl))
 (SJ_sq (p0 := 57) (p1 := 104) (nN := 116) (nB := 122) (nC := 116) (SJ_if (p0 := 57) (pT := 62) (pF := 86) (nN := 104) (nB := 122) (nC := 116) (CJ_eq' (off := 27) (tgt := 86) (p0 := 57) (p1 := 58) (p2 := 59) (EJ_iload_n (j := 3) (i := 3) (pc := 57) D_Fit_next_57 rfl) (EJ_iload_n (j := 1) (i := 1) (pc := 58) D_Fit_next_58 rfl) D_Fit_next_59 rfl) (SJ_sq (p0 := 62) (p1 := 81) (nN := 104) (nB := 122) (nC := 116) (SJ_if (p0 := 62) (pT := 75) (pF := 81) (nN := 81) (nB := 122) (nC := 116) (CJ_eq' (off := 9) (tgt := 81) (p0 := 62) (p1 := 68) (p2 := 72) (EJ_iald (p0 := 62) (p1 := 66) (p2 := 67) (EJ_getR (t := 3) (c := 2) (kf := 8) (r := (RX2, TX2, 12)) (p0 := 62) (p1 := 63) (EJ_aload_n (j := 0) (i := 0) (pc := 62) D_Fit_next_62 rfl) D_Fit_next_63 ⟨rfl, rfl, by decide, q_203⟩ (fun _ _ => rfl)) (EJ_iload_n (j := 3) (i := 3) (pc := 66) D_Fit_next_66 rfl) D_Fit_next_67) (EJ_getI (t := 3) (c := 2) (kf := 2) (r := (RX2, TX2, 12)) (p0 := 68) (p1 := 69) (EJ_aload_n (j := 0) (i := 0) (pc := 68) D_Fit_next_68 rfl) D_Fit_next_69 ⟨rfl, rfl, by decide, q_197⟩ (fun _ _ => rfl)) D_Fit_next_72 rfl) (SJ_sq (p0 := 75) (p1 := 79) (nN := 81) (nB := 122) (nC := 116) (SJ_void (p0 := 75) (p1 := 79) (EJ_callV (t := 3) (c := 2) (r := (RX2, TX2, 12)) (p0 := 75) (p1 := 76) (p2 := 76) (EJ_aload_n (j := 0) (i := 0) (pc := 75) D_Fit_next_75 rfl) AJ_nil m_Fit_setValues E1_U D_Fit_next_76 rfl rfl rfl q_738 q_739 q_20 q_95 ⟨by decide +kernel, by decide +kernel, by decide +kernel⟩ (by decide) (show 3 + 1 ≤ 4 from by decide) (show ∀ x_ ∈ ([47, 48] : List Nat), x_ ∈ ([3, 45, 46, 47, 48] : List Nat) from by decide)))
 (SJ_ret (p0 := 79) (p1 := 80) (EJ_iconst (n := 1) (v := (nI 1)) (pc := 79) D_Fit_next_79 (by decide +kernel)) D_Fit_next_80)) SJ_sk)
 (SJ_post (SJ_istore_n (i := 2) (j := 2) (p0 := 81) (p1 := 82) (EJ_iconst (n := 0) (v := (nI 0)) (pc := 81) D_Fit_next_81 (by decide +kernel)) D_Fit_next_82 rfl) (Lead.goto (K := K_Fit_next) (pc := 83) (tgt := 104) D_Fit_next_83 rfl))) (SJ_istore_n (i := 2) (j := 2) (p0 := 86) (p1 := 103) (EJ_if (p0 := 86) (pT := 90) (pF := 98) (pE := 95) (p1 := 103) (CZ_ne' (off := 11) (tgt := 98) (p0 := 86) (p1 := 87) (EJ_iload_n (j := 2) (i := 2) (pc := 86) D_Fit_next_86 rfl) D_Fit_next_87 rfl) (EJ_callV (t := 3) (c := 2) (r := (RX2, TX2, 12)) (p0 := 90) (p1 := 91) (p2 := 92) (EJ_aload_n (j := 0) (i := 0) (pc := 90) D_Fit_next_90 rfl) (AJ_I (p0 := 91) (p1 := 92) (p2 := 92) (EJ_iload_n (j := 3) (i := 3) (pc := 91) D_Fit_next_91 rfl) AJ_nil) m_Fit_enters E1_I D_Fit_next_92 rfl rfl rfl q_748 q_749 q_21 q_95 ⟨by decide +kernel, by decide +kernel, by decide +kernel⟩ (by decide) (show 3 + 1 ≤ 4 from by decide) (show ∀ x_ ∈ ([45, 46] : List Nat), x_ ∈ ([3, 45, 46, 47, 48] : List Nat) from by decide)) (Lead.goto (K := K_Fit_next) (pc := 95) (tgt := 103) D_Fit_next_95 rfl) (EJ_callV (t := 3) (c := 2) (r := (RX2, TX2, 12)) (p0 := 98) (p1 := 99) (p2 := 100) (EJ_aload_n (j := 0) (i := 0) (pc := 98) D_Fit_next_98 rfl) (AJ_I (p0 := 99) (p1 := 100) (p2 := 100) (EJ_iload_n (j := 3) (i := 3) (pc := 99) D_Fit_next_99 rfl) AJ_nil) m_Fit_endsElsewhere E1_I D_Fit_next_100 rfl rfl rfl q_754 q_755 q_23 q_95 ⟨by decide +kernel, by decide +kernel, by decide +kernel⟩ (by decide) (show 2 + 1 ≤ 4 from by decide) (show ∀ x_ ∈ ([45, 46] : List Nat), x_ ∈ ([3, 45, 46, 47, 48] : List Nat) from by decide))) D_Fit_next_103 rfl))
 (SJ_istore_n (i := 3) (j := 3) (p0 := 104) (p1 := 115) (EJ_iadd (p0 := 104) (p1 := 105) (p2 := 114) (EJ_iload_n (j := 3) (i := 3) (pc := 104) D_Fit_next_104 rfl) (EJ_if (p0 := 105) (pT := 109) (pF := 113) (pE := 110) (p1 := 114) (CZ_ne' (off := 7) (tgt := 113) (p0 := 105) (p1 := 106) (EJ_iload_n (j := 2) (i := 2) (pc := 105) D_Fit_next_105 rfl) D_Fit_next_106 rfl) (EJ_iconst (n := 1) (v := (nI 1)) (pc := 109) D_Fit_next_109 (by decide +kernel)) (Lead.goto (K := K_Fit_next) (pc := 110) (tgt := 114) D_Fit_next_110 rfl) (EJ_iconst (n := -1) (v := (-1)) (pc := 113) D_Fit_next_113 (by decide +kernel))) D_Fit_next_114) D_Fit_next_115 rfl))
 (SJ_post (SJ_iinc (i := 4) (n := 1) (v := (nI 1)) (pc := 116) D_Fit_next_116 (by decide +kernel)) (Lead.goto (K := K_Fit_next) (pc := 119) (tgt := 46) D_Fit_next_119 rfl))))
 (SJ_ret (p0 := 122) (p1 := 123) (EJ_iconst (n := 0) (v := (nI 0)) (pc := 122) D_Fit_next_122 (by decide +kernel)) D_Fit_next_123)))))))
 RTm_bool q_737 (by decide +kernel) rfl (fun h => by cases h) (show 5 ≤ 40 from by decide) (fun _ => trivial)
