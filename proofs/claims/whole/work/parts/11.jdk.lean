/-! the JDK methods that are called -/
theorem D_Math_min_0 : decode cJ9_min_7cf53 0 = .ok (.iload_n 0, 1) := by decide +kernel
theorem D_Math_min_1 : decode cJ9_min_7cf53 1 = .ok (.iload_n 1, 1) := by decide +kernel
theorem D_Math_min_2 : decode cJ9_min_7cf53 2 = .ok (.if_icmp .gt (7), 3) := by decide +kernel
theorem D_Math_min_5 : decode cJ9_min_7cf53 5 = .ok (.iload_n 0, 1) := by decide +kernel
theorem D_Math_min_6 : decode cJ9_min_7cf53 6 = .ok (.goto (4), 3) := by decide +kernel
theorem D_Math_min_9 : decode cJ9_min_7cf53 9 = .ok (.iload_n 1, 1) := by decide +kernel
theorem D_Math_min_10 : decode cJ9_min_7cf53 10 = .ok (.ireturn, 1) := by decide +kernel
def K_Math_min : SC := (cJ9_min_7cf53, "java/lang/Math", 2, 1, false, [], NoQ)
def d_Math_min : MD Int32 := mth tt 2 (rtn (eIf (eh2 c_le (lI 0) (lI 1)) (lI 0) (lI 1)))
theorem m_Math_min : MJ 1 [] yJ9_min_7cf53 (some .int) eI (d_Math_min) := MJ_of (K := K_Math_min) (ri := .ireturn) (n1 := 0) (n2 := 0) (n3 := 0)
 (SJ_ret (p0 := 0) (p1 := 10) (EJ_if (p0 := 0) (pT := 5) (pF := 9) (pE := 6) (p1 := 10) (CJ_le' (off := 7) (tgt := 9) (p0 := 0) (p1 := 1) (p2 := 2) (EJ_iload_n (j := 0) (i := 0) (pc := 0) D_Math_min_0 rfl) (EJ_iload_n (j := 1) (i := 1) (pc := 1) D_Math_min_1 rfl) D_Math_min_2 rfl) (EJ_iload_n (j := 0) (i := 0) (pc := 5) D_Math_min_5 rfl) (Lead.goto (K := K_Math_min) (pc := 6) (tgt := 10) D_Math_min_6 rfl) (EJ_iload_n (j := 1) (i := 1) (pc := 9) D_Math_min_9 rfl)) D_Math_min_10)
 RTm_int q_308 (by decide +kernel) rfl (fun h => by cases h) (show 2 ≤ 40 from by decide) (fun _ => trivial)
theorem D_Arrays_copyOfI_0 : decode cJ7_copyOf_59c91 0 = .ok (.iload_n 1, 1) := by decide +kernel
theorem D_Arrays_copyOfI_1 : decode cJ7_copyOf_59c91 1 = .ok (.aload_n 0, 1) := by decide +kernel
theorem D_Arrays_copyOfI_2 : decode cJ7_copyOf_59c91 2 = .ok (.arraylength, 1) := by decide +kernel
theorem D_Arrays_copyOfI_3 : decode cJ7_copyOf_59c91 3 = .ok (.if_icmp .ne (11), 3) := by decide +kernel
theorem D_Arrays_copyOfI_6 : decode cJ7_copyOf_59c91 6 = .ok (.aload_n 0, 1) := by decide +kernel
theorem D_Arrays_copyOfI_7 : decode cJ7_copyOf_59c91 7 = .ok (.invokevirtual 316, 3) := by decide +kernel
theorem D_Arrays_copyOfI_10 : decode cJ7_copyOf_59c91 10 = .ok (.checkcast 317, 3) := by decide +kernel
theorem D_Arrays_copyOfI_13 : decode cJ7_copyOf_59c91 13 = .ok (.areturn, 1) := by decide +kernel
theorem D_Arrays_copyOfI_14 : decode cJ7_copyOf_59c91 14 = .ok (.iload_n 1, 1) := by decide +kernel
theorem D_Arrays_copyOfI_15 : decode cJ7_copyOf_59c91 15 = .ok (.newarray .int, 2) := by decide +kernel
theorem D_Arrays_copyOfI_17 : decode cJ7_copyOf_59c91 17 = .ok (.astore_n 2, 1) := by decide +kernel
theorem D_Arrays_copyOfI_18 : decode cJ7_copyOf_59c91 18 = .ok (.aload_n 0, 1) := by decide +kernel
theorem D_Arrays_copyOfI_19 : decode cJ7_copyOf_59c91 19 = .ok (.iconst (0), 1) := by decide +kernel
theorem D_Arrays_copyOfI_20 : decode cJ7_copyOf_59c91 20 = .ok (.aload_n 2, 1) := by decide +kernel
theorem D_Arrays_copyOfI_21 : decode cJ7_copyOf_59c91 21 = .ok (.iconst (0), 1) := by decide +kernel
theorem D_Arrays_copyOfI_22 : decode cJ7_copyOf_59c91 22 = .ok (.aload_n 0, 1) := by decide +kernel
theorem D_Arrays_copyOfI_23 : decode cJ7_copyOf_59c91 23 = .ok (.arraylength, 1) := by decide +kernel
theorem D_Arrays_copyOfI_24 : decode cJ7_copyOf_59c91 24 = .ok (.iload_n 1, 1) := by decide +kernel
theorem D_Arrays_copyOfI_25 : decode cJ7_copyOf_59c91 25 = .ok (.invokestatic 304, 3) := by decide +kernel
theorem D_Arrays_copyOfI_28 : decode cJ7_copyOf_59c91 28 = .ok (.invokestatic 150, 3) := by decide +kernel
theorem D_Arrays_copyOfI_31 : decode cJ7_copyOf_59c91 31 = .ok (.aload_n 2, 1) := by decide +kernel
theorem D_Arrays_copyOfI_32 : decode cJ7_copyOf_59c91 32 = .ok (.areturn, 1) := by decide +kernel
def K_Arrays_copyOfI (t : Nat) : SC := (cJ7_copyOf_59c91, "java/util/Arrays", 3, 2, false, [t], NoQ)
def d_Arrays_copyOfI (t : Nat) : MD (Option Nat) := mth tt 3 (sq (sIf (eh2 c_eq (lI 1) (eh1 aL (lR 0))) (rtn (eCl .int t (lR 0))) sk)
 (sq (sR1 2 (nA t (lI 1)))
 (sq (sAr (cpI [t]) [vR (lR 0), vI (eC (nI 0)), vR (lR 2), vI (eC (nI 0)), vI (kS d_Math_min [vI (eh1 aL (lR 0)), vI (lI 1)])])
 (rtn (lR 2)))))
theorem m_Arrays_copyOfI (t : Nat) (ht : sA t = some .int) : MJ 2 [t] yJ7_copyOf_59c91 (some (.array .int)) eR (d_Arrays_copyOfI t) := MJ_of (K := (K_Arrays_copyOfI t)) (ri := .areturn) (n1 := 0) (n2 := 0) (n3 := 0)
 (SJ_sq (p0 := 0) (p1 := 14) (nN := 0) (nB := 0) (nC := 0) (SJ_if (p0 := 0) (pT := 6) (pF := 14) (nN := 14) (nB := 0) (nC := 0) (CJ_eq' (off := 11) (tgt := 14) (p0 := 0) (p1 := 1) (p2 := 3) (EJ_iload_n (j := 1) (i := 1) (pc := 0) D_Arrays_copyOfI_0 rfl) (EJ_alen (p0 := 1) (p1 := 2) (EJ_aload_n (j := 0) (i := 0) (pc := 1) D_Arrays_copyOfI_1 rfl) D_Arrays_copyOfI_2) D_Arrays_copyOfI_3 rfl) (SJ_ret (p0 := 6) (p1 := 13) (EJ_clone (ty := .int) (t := t) (ad := "[I") (p0 := 6) (p1 := 7) (EJ_aload_n (j := 0) (i := 0) (pc := 6) D_Arrays_copyOfI_6 rfl) D_Arrays_copyOfI_7 D_Arrays_copyOfI_10 (by decide +kernel) ht q_359 q_360 q_361 q_362 q_363 (by decide) q_364 (fun _ _ _ => rfl) (by decide) (show 1 ≤ 2 from by decide)) D_Arrays_copyOfI_13) SJ_sk)
 (SJ_sq (p0 := 14) (p1 := 18) (nN := 0) (nB := 0) (nC := 0) (SJ_astore_n (i := 2) (j := 2) (p0 := 14) (p1 := 17) (EJ_newarr (atype := .int) (ty := .int) (t := t) (p0 := 14) (p1 := 15) (EJ_iload_n (j := 1) (i := 1) (pc := 14) D_Arrays_copyOfI_14 rfl) D_Arrays_copyOfI_15 rfl (by decide) q_145 ht) D_Arrays_copyOfI_17 rfl)
 (SJ_sq (p0 := 18) (p1 := 31) (nN := 0) (nB := 0) (nC := 0) (SJ_cpI (ws := [t]) (p0 := 18) (p1 := 28) (AJ_R (p0 := 18) (p1 := 19) (p2 := 28) (EJ_aload_n (j := 0) (i := 0) (pc := 18) D_Arrays_copyOfI_18 rfl) (AJ_I (p0 := 19) (p1 := 20) (p2 := 28) (EJ_iconst (n := 0) (v := (nI 0)) (pc := 19) D_Arrays_copyOfI_19 (by decide +kernel)) (AJ_R (p0 := 20) (p1 := 21) (p2 := 28) (EJ_aload_n (j := 2) (i := 2) (pc := 20) D_Arrays_copyOfI_20 rfl) (AJ_I (p0 := 21) (p1 := 22) (p2 := 28) (EJ_iconst (n := 0) (v := (nI 0)) (pc := 21) D_Arrays_copyOfI_21 (by decide +kernel)) (AJ_I (p0 := 22) (p1 := 28) (p2 := 28) (EJ_callS (p0 := 22) (p1 := 25) (AJ_I (p0 := 22) (p1 := 24) (p2 := 25) (EJ_alen (p0 := 22) (p1 := 23) (EJ_aload_n (j := 0) (i := 0) (pc := 22) D_Arrays_copyOfI_22 rfl) D_Arrays_copyOfI_23) (AJ_I (p0 := 24) (p1 := 25) (p2 := 25) (EJ_iload_n (j := 1) (i := 1) (pc := 24) D_Arrays_copyOfI_24 rfl) AJ_nil)) m_Math_min E1_I D_Arrays_copyOfI_25 q_365 q_307 q_98 ⟨by decide +kernel, by decide +kernel, by decide +kernel⟩ (by decide) (show 1 + 1 ≤ 2 from by decide) (fun _ h => absurd h List.not_mem_nil)) AJ_nil))))) D_Arrays_copyOfI_28 q_366 q_368 q_367 q_101 (fun _ h => h) (show 1 ≤ 2 from by decide) (by decide +kernel))
 (SJ_ret (p0 := 31) (p1 := 32) (EJ_aload_n (j := 2) (i := 2) (pc := 31) D_Arrays_copyOfI_31 rfl) D_Arrays_copyOfI_32))))
 (RTm_ref (Or.inr ⟨_, rfl⟩)) q_358 (by decide +kernel) rfl (fun h => by cases h) (show 3 ≤ 40 from by decide) (fun _ => trivial)
theorem D_Arrays_copyOfJ_0 : decode cJ7_copyOf_c38d5 0 = .ok (.iload_n 1, 1) := by decide +kernel
theorem D_Arrays_copyOfJ_1 : decode cJ7_copyOf_c38d5 1 = .ok (.aload_n 0, 1) := by decide +kernel
theorem D_Arrays_copyOfJ_2 : decode cJ7_copyOf_c38d5 2 = .ok (.arraylength, 1) := by decide +kernel
theorem D_Arrays_copyOfJ_3 : decode cJ7_copyOf_c38d5 3 = .ok (.if_icmp .ne (11), 3) := by decide +kernel
theorem D_Arrays_copyOfJ_6 : decode cJ7_copyOf_c38d5 6 = .ok (.aload_n 0, 1) := by decide +kernel
theorem D_Arrays_copyOfJ_7 : decode cJ7_copyOf_c38d5 7 = .ok (.invokevirtual 319, 3) := by decide +kernel
theorem D_Arrays_copyOfJ_10 : decode cJ7_copyOf_c38d5 10 = .ok (.checkcast 320, 3) := by decide +kernel
theorem D_Arrays_copyOfJ_13 : decode cJ7_copyOf_c38d5 13 = .ok (.areturn, 1) := by decide +kernel
theorem D_Arrays_copyOfJ_14 : decode cJ7_copyOf_c38d5 14 = .ok (.iload_n 1, 1) := by decide +kernel
theorem D_Arrays_copyOfJ_15 : decode cJ7_copyOf_c38d5 15 = .ok (.newarray .long, 2) := by decide +kernel
theorem D_Arrays_copyOfJ_17 : decode cJ7_copyOf_c38d5 17 = .ok (.astore_n 2, 1) := by decide +kernel
theorem D_Arrays_copyOfJ_18 : decode cJ7_copyOf_c38d5 18 = .ok (.aload_n 0, 1) := by decide +kernel
theorem D_Arrays_copyOfJ_19 : decode cJ7_copyOf_c38d5 19 = .ok (.iconst (0), 1) := by decide +kernel
theorem D_Arrays_copyOfJ_20 : decode cJ7_copyOf_c38d5 20 = .ok (.aload_n 2, 1) := by decide +kernel
theorem D_Arrays_copyOfJ_21 : decode cJ7_copyOf_c38d5 21 = .ok (.iconst (0), 1) := by decide +kernel
theorem D_Arrays_copyOfJ_22 : decode cJ7_copyOf_c38d5 22 = .ok (.aload_n 0, 1) := by decide +kernel
theorem D_Arrays_copyOfJ_23 : decode cJ7_copyOf_c38d5 23 = .ok (.arraylength, 1) := by decide +kernel
theorem D_Arrays_copyOfJ_24 : decode cJ7_copyOf_c38d5 24 = .ok (.iload_n 1, 1) := by decide +kernel
theorem D_Arrays_copyOfJ_25 : decode cJ7_copyOf_c38d5 25 = .ok (.invokestatic 304, 3) := by decide +kernel
theorem D_Arrays_copyOfJ_28 : decode cJ7_copyOf_c38d5 28 = .ok (.invokestatic 150, 3) := by decide +kernel
theorem D_Arrays_copyOfJ_31 : decode cJ7_copyOf_c38d5 31 = .ok (.aload_n 2, 1) := by decide +kernel
theorem D_Arrays_copyOfJ_32 : decode cJ7_copyOf_c38d5 32 = .ok (.areturn, 1) := by decide +kernel
def K_Arrays_copyOfJ (t : Nat) : SC := (cJ7_copyOf_c38d5, "java/util/Arrays", 3, 2, false, [t], NoQ)
def d_Arrays_copyOfJ (t : Nat) : MD (Option Nat) := mth tt 3 (sq (sIf (eh2 c_eq (lI 1) (eh1 aL (lR 0))) (rtn (eCl .long t (lR 0))) sk)
 (sq (sR1 2 (nA t (lI 1)))
 (sq (sAr (cpJ [t]) [vR (lR 0), vI (eC (nI 0)), vR (lR 2), vI (eC (nI 0)), vI (kS d_Math_min [vI (eh1 aL (lR 0)), vI (lI 1)])])
 (rtn (lR 2)))))
theorem m_Arrays_copyOfJ (t : Nat) (ht : sA t = some .long) : MJ 2 [t] yJ7_copyOf_c38d5 (some (.array .long)) eR (d_Arrays_copyOfJ t) := MJ_of (K := (K_Arrays_copyOfJ t)) (ri := .areturn) (n1 := 0) (n2 := 0) (n3 := 0)
 (SJ_sq (p0 := 0) (p1 := 14) (nN := 0) (nB := 0) (nC := 0) (SJ_if (p0 := 0) (pT := 6) (pF := 14) (nN := 14) (nB := 0) (nC := 0) (CJ_eq' (off := 11) (tgt := 14) (p0 := 0) (p1 := 1) (p2 := 3) (EJ_iload_n (j := 1) (i := 1) (pc := 0) D_Arrays_copyOfJ_0 rfl) (EJ_alen (p0 := 1) (p1 := 2) (EJ_aload_n (j := 0) (i := 0) (pc := 1) D_Arrays_copyOfJ_1 rfl) D_Arrays_copyOfJ_2) D_Arrays_copyOfJ_3 rfl) (SJ_ret (p0 := 6) (p1 := 13) (EJ_clone (ty := .long) (t := t) (ad := "[J") (p0 := 6) (p1 := 7) (EJ_aload_n (j := 0) (i := 0) (pc := 6) D_Arrays_copyOfJ_6 rfl) D_Arrays_copyOfJ_7 D_Arrays_copyOfJ_10 (by decide +kernel) ht q_541 q_542 q_361 q_362 q_543 (by decide) q_544 (fun _ _ _ => rfl) (by decide) (show 1 ≤ 2 from by decide)) D_Arrays_copyOfJ_13) SJ_sk)
 (SJ_sq (p0 := 14) (p1 := 18) (nN := 0) (nB := 0) (nC := 0) (SJ_astore_n (i := 2) (j := 2) (p0 := 14) (p1 := 17) (EJ_newarr (atype := .long) (ty := .long) (t := t) (p0 := 14) (p1 := 15) (EJ_iload_n (j := 1) (i := 1) (pc := 14) D_Arrays_copyOfJ_14 rfl) D_Arrays_copyOfJ_15 rfl (by decide) q_220 ht) D_Arrays_copyOfJ_17 rfl)
 (SJ_sq (p0 := 18) (p1 := 31) (nN := 0) (nB := 0) (nC := 0) (SJ_cpJ (ws := [t]) (p0 := 18) (p1 := 28) (AJ_R (p0 := 18) (p1 := 19) (p2 := 28) (EJ_aload_n (j := 0) (i := 0) (pc := 18) D_Arrays_copyOfJ_18 rfl) (AJ_I (p0 := 19) (p1 := 20) (p2 := 28) (EJ_iconst (n := 0) (v := (nI 0)) (pc := 19) D_Arrays_copyOfJ_19 (by decide +kernel)) (AJ_R (p0 := 20) (p1 := 21) (p2 := 28) (EJ_aload_n (j := 2) (i := 2) (pc := 20) D_Arrays_copyOfJ_20 rfl) (AJ_I (p0 := 21) (p1 := 22) (p2 := 28) (EJ_iconst (n := 0) (v := (nI 0)) (pc := 21) D_Arrays_copyOfJ_21 (by decide +kernel)) (AJ_I (p0 := 22) (p1 := 28) (p2 := 28) (EJ_callS (p0 := 22) (p1 := 25) (AJ_I (p0 := 22) (p1 := 24) (p2 := 25) (EJ_alen (p0 := 22) (p1 := 23) (EJ_aload_n (j := 0) (i := 0) (pc := 22) D_Arrays_copyOfJ_22 rfl) D_Arrays_copyOfJ_23) (AJ_I (p0 := 24) (p1 := 25) (p2 := 25) (EJ_iload_n (j := 1) (i := 1) (pc := 24) D_Arrays_copyOfJ_24 rfl) AJ_nil)) m_Math_min E1_I D_Arrays_copyOfJ_25 q_365 q_307 q_98 ⟨by decide +kernel, by decide +kernel, by decide +kernel⟩ (by decide) (show 1 + 1 ≤ 2 from by decide) (fun _ h => absurd h List.not_mem_nil)) AJ_nil))))) D_Arrays_copyOfJ_28 q_366 q_368 q_367 q_101 (fun _ h => h) (show 1 ≤ 2 from by decide) (by decide +kernel))
 (SJ_ret (p0 := 31) (p1 := 32) (EJ_aload_n (j := 2) (i := 2) (pc := 31) D_Arrays_copyOfJ_31 rfl) D_Arrays_copyOfJ_32))))
 (RTm_ref (Or.inr ⟨_, rfl⟩)) q_540 (by decide +kernel) rfl (fun h => by cases h) (show 3 ≤ 40 from by decide) (fun _ => trivial)
theorem D_Arrays_fill_0 : decode cJ7_fill_53178 0 = .ok (.iconst (0), 1) := by decide +kernel
theorem D_Arrays_fill_1 : decode cJ7_fill_53178 1 = .ok (.istore_n 2, 1) := by decide +kernel
theorem D_Arrays_fill_2 : decode cJ7_fill_53178 2 = .ok (.aload_n 0, 1) := by decide +kernel
theorem D_Arrays_fill_3 : decode cJ7_fill_53178 3 = .ok (.arraylength, 1) := by decide +kernel
theorem D_Arrays_fill_4 : decode cJ7_fill_53178 4 = .ok (.istore_n 3, 1) := by decide +kernel
theorem D_Arrays_fill_5 : decode cJ7_fill_53178 5 = .ok (.iload_n 2, 1) := by decide +kernel
theorem D_Arrays_fill_6 : decode cJ7_fill_53178 6 = .ok (.iload_n 3, 1) := by decide +kernel
theorem D_Arrays_fill_7 : decode cJ7_fill_53178 7 = .ok (.if_icmp .ge (13), 3) := by decide +kernel
theorem D_Arrays_fill_10 : decode cJ7_fill_53178 10 = .ok (.aload_n 0, 1) := by decide +kernel
theorem D_Arrays_fill_11 : decode cJ7_fill_53178 11 = .ok (.iload_n 2, 1) := by decide +kernel
theorem D_Arrays_fill_12 : decode cJ7_fill_53178 12 = .ok (.iload_n 1, 1) := by decide +kernel
theorem D_Arrays_fill_13 : decode cJ7_fill_53178 13 = .ok (.iastore, 1) := by decide +kernel
theorem D_Arrays_fill_14 : decode cJ7_fill_53178 14 = .ok (.iinc 2 (1), 3) := by decide +kernel
theorem D_Arrays_fill_17 : decode cJ7_fill_53178 17 = .ok (.goto (-12), 3) := by decide +kernel
theorem D_Arrays_fill_20 : decode cJ7_fill_53178 20 = .ok (.return_, 1) := by decide +kernel
def K_Arrays_fill : SC := (cJ7_fill_53178, "java/util/Arrays", 4, 1, false, [43, 44, 46], NoQ)
def d_Arrays_fill : MD Unit := mth tt 4 (sq (sq (sq (sI1 2 (eC (nI 0)))
 (sI1 3 (eh1 aL (lR 0))))
 (loop (eh2 c_lt (lI 2) (lI 3))
 (sh3 (stI [43, 44, 46]) (lR 0) (lI 2) (lI 1))
 (sInc 2 (nI 1))))
 rtnU)
theorem m_Arrays_fill : MJ 1 [43, 44, 46] yJ7_fill_53178 none eU (d_Arrays_fill) := MJ_of (K := K_Arrays_fill) (ri := .return_) (n1 := 0) (n2 := 0) (n3 := 0)
 (SJ_sq (p0 := 0) (p1 := 20) (nN := 0) (nB := 0) (nC := 0) (SJ_sq (p0 := 0) (p1 := 5) (nN := 20) (nB := 0) (nC := 0) (SJ_sq (p0 := 0) (p1 := 2) (nN := 5) (nB := 0) (nC := 0) (SJ_istore_n (i := 2) (j := 2) (p0 := 0) (p1 := 1) (EJ_iconst (n := 0) (v := (nI 0)) (pc := 0) D_Arrays_fill_0 (by decide +kernel)) D_Arrays_fill_1 rfl)
 (SJ_istore_n (i := 3) (j := 3) (p0 := 2) (p1 := 4) (EJ_alen (p0 := 2) (p1 := 3) (EJ_aload_n (j := 0) (i := 0) (pc := 2) D_Arrays_fill_2 rfl) D_Arrays_fill_3) D_Arrays_fill_4 rfl))
 (SJ_loop (p0 := 5) (pB := 10) (pS := 14) (pE := 20) (CJ_lt' (off := 13) (tgt := 20) (p0 := 5) (p1 := 6) (p2 := 7) (EJ_iload_n (j := 2) (i := 2) (pc := 5) D_Arrays_fill_5 rfl) (EJ_iload_n (j := 3) (i := 3) (pc := 6) D_Arrays_fill_6 rfl) D_Arrays_fill_7 rfl)
 (SJ_iast (ws := [43, 44, 46]) (p0 := 10) (p1 := 11) (p2 := 12) (p3 := 13) (EJ_aload_n (j := 0) (i := 0) (pc := 10) D_Arrays_fill_10 rfl) (EJ_iload_n (j := 2) (i := 2) (pc := 11) D_Arrays_fill_11 rfl) (EJ_iload_n (j := 1) (i := 1) (pc := 12) D_Arrays_fill_12 rfl) D_Arrays_fill_13 (show ∀ x_ ∈ ([43, 44, 46] : List Nat), x_ ∈ ([43, 44, 46] : List Nat) from by decide))
 (SJ_post (SJ_iinc (i := 2) (n := 1) (v := (nI 1)) (pc := 14) D_Arrays_fill_14 (by decide +kernel)) (Lead.goto (K := K_Arrays_fill) (pc := 17) (tgt := 5) D_Arrays_fill_17 rfl))))
 (SJ_retU (pc := 20) D_Arrays_fill_20))
 RTm_void q_674 (by decide +kernel) rfl (fun h => by cases h) (show 4 ≤ 40 from by decide) (fun _ => trivial)
theorem D_Integer_bitCount_0 : decode cJ6_bitCount_0f7a4 0 = .ok (.iload_n 0, 1) := by decide +kernel
theorem D_Integer_bitCount_1 : decode cJ6_bitCount_0f7a4 1 = .ok (.iload_n 0, 1) := by decide +kernel
theorem D_Integer_bitCount_2 : decode cJ6_bitCount_0f7a4 2 = .ok (.iconst (1), 1) := by decide +kernel
theorem D_Integer_bitCount_3 : decode cJ6_bitCount_0f7a4 3 = .ok (.iushr, 1) := by decide +kernel
theorem D_Integer_bitCount_4 : decode cJ6_bitCount_0f7a4 4 = .ok (.ldc_w 265, 3) := by decide +kernel
theorem D_Integer_bitCount_7 : decode cJ6_bitCount_0f7a4 7 = .ok (.iand, 1) := by decide +kernel
theorem D_Integer_bitCount_8 : decode cJ6_bitCount_0f7a4 8 = .ok (.isub, 1) := by decide +kernel
theorem D_Integer_bitCount_9 : decode cJ6_bitCount_0f7a4 9 = .ok (.istore_n 0, 1) := by decide +kernel
theorem D_Integer_bitCount_10 : decode cJ6_bitCount_0f7a4 10 = .ok (.iload_n 0, 1) := by decide +kernel
theorem D_Integer_bitCount_11 : decode cJ6_bitCount_0f7a4 11 = .ok (.ldc_w 266, 3) := by decide +kernel
theorem D_Integer_bitCount_14 : decode cJ6_bitCount_0f7a4 14 = .ok (.iand, 1) := by decide +kernel
theorem D_Integer_bitCount_15 : decode cJ6_bitCount_0f7a4 15 = .ok (.iload_n 0, 1) := by decide +kernel
theorem D_Integer_bitCount_16 : decode cJ6_bitCount_0f7a4 16 = .ok (.iconst (2), 1) := by decide +kernel
theorem D_Integer_bitCount_17 : decode cJ6_bitCount_0f7a4 17 = .ok (.iushr, 1) := by decide +kernel
theorem D_Integer_bitCount_18 : decode cJ6_bitCount_0f7a4 18 = .ok (.ldc_w 266, 3) := by decide +kernel
theorem D_Integer_bitCount_21 : decode cJ6_bitCount_0f7a4 21 = .ok (.iand, 1) := by decide +kernel
theorem D_Integer_bitCount_22 : decode cJ6_bitCount_0f7a4 22 = .ok (.iadd, 1) := by decide +kernel
theorem D_Integer_bitCount_23 : decode cJ6_bitCount_0f7a4 23 = .ok (.istore_n 0, 1) := by decide +kernel
theorem D_Integer_bitCount_24 : decode cJ6_bitCount_0f7a4 24 = .ok (.iload_n 0, 1) := by decide +kernel
theorem D_Integer_bitCount_25 : decode cJ6_bitCount_0f7a4 25 = .ok (.iload_n 0, 1) := by decide +kernel
theorem D_Integer_bitCount_26 : decode cJ6_bitCount_0f7a4 26 = .ok (.iconst (4), 1) := by decide +kernel
theorem D_Integer_bitCount_27 : decode cJ6_bitCount_0f7a4 27 = .ok (.iushr, 1) := by decide +kernel
theorem D_Integer_bitCount_28 : decode cJ6_bitCount_0f7a4 28 = .ok (.iadd, 1) := by decide +kernel
theorem D_Integer_bitCount_29 : decode cJ6_bitCount_0f7a4 29 = .ok (.ldc_w 267, 3) := by decide +kernel
theorem D_Integer_bitCount_32 : decode cJ6_bitCount_0f7a4 32 = .ok (.iand, 1) := by decide +kernel
theorem D_Integer_bitCount_33 : decode cJ6_bitCount_0f7a4 33 = .ok (.istore_n 0, 1) := by decide +kernel
theorem D_Integer_bitCount_34 : decode cJ6_bitCount_0f7a4 34 = .ok (.iload_n 0, 1) := by decide +kernel
theorem D_Integer_bitCount_35 : decode cJ6_bitCount_0f7a4 35 = .ok (.iload_n 0, 1) := by decide +kernel
theorem D_Integer_bitCount_36 : decode cJ6_bitCount_0f7a4 36 = .ok (.bipush (8), 2) := by decide +kernel
theorem D_Integer_bitCount_38 : decode cJ6_bitCount_0f7a4 38 = .ok (.iushr, 1) := by decide +kernel
theorem D_Integer_bitCount_39 : decode cJ6_bitCount_0f7a4 39 = .ok (.iadd, 1) := by decide +kernel
theorem D_Integer_bitCount_40 : decode cJ6_bitCount_0f7a4 40 = .ok (.istore_n 0, 1) := by decide +kernel
theorem D_Integer_bitCount_41 : decode cJ6_bitCount_0f7a4 41 = .ok (.iload_n 0, 1) := by decide +kernel
theorem D_Integer_bitCount_42 : decode cJ6_bitCount_0f7a4 42 = .ok (.iload_n 0, 1) := by decide +kernel
theorem D_Integer_bitCount_43 : decode cJ6_bitCount_0f7a4 43 = .ok (.bipush (16), 2) := by decide +kernel
theorem D_Integer_bitCount_45 : decode cJ6_bitCount_0f7a4 45 = .ok (.iushr, 1) := by decide +kernel
theorem D_Integer_bitCount_46 : decode cJ6_bitCount_0f7a4 46 = .ok (.iadd, 1) := by decide +kernel
theorem D_Integer_bitCount_47 : decode cJ6_bitCount_0f7a4 47 = .ok (.istore_n 0, 1) := by decide +kernel
theorem D_Integer_bitCount_48 : decode cJ6_bitCount_0f7a4 48 = .ok (.iload_n 0, 1) := by decide +kernel
theorem D_Integer_bitCount_49 : decode cJ6_bitCount_0f7a4 49 = .ok (.bipush (63), 2) := by decide +kernel
theorem D_Integer_bitCount_51 : decode cJ6_bitCount_0f7a4 51 = .ok (.iand, 1) := by decide +kernel
theorem D_Integer_bitCount_52 : decode cJ6_bitCount_0f7a4 52 = .ok (.ireturn, 1) := by decide +kernel
def K_Integer_bitCount : SC := (cJ6_bitCount_0f7a4, "java/lang/Integer", 1, 1, false, [], NoQ)
def d_Integer_bitCount : MD Int32 := mth tt 1 (sq (sI1 0 (eh2 isubF (lI 0) (eh2 iandF (eh2 iushrF (lI 0) (eC (nI 1))) (eC (nI 1431655765)))))
 (sq (sI1 0 (eh2 iaddF (eh2 iandF (lI 0) (eC (nI 858993459))) (eh2 iandF (eh2 iushrF (lI 0) (eC (nI 2))) (eC (nI 858993459)))))
 (sq (sI1 0 (eh2 iandF (eh2 iaddF (lI 0) (eh2 iushrF (lI 0) (eC (nI 4)))) (eC (nI 252645135))))
 (sq (sI1 0 (eh2 iaddF (lI 0) (eh2 iushrF (lI 0) (eC (nI 8)))))
 (sq (sI1 0 (eh2 iaddF (lI 0) (eh2 iushrF (lI 0) (eC (nI 16)))))
 (rtn (eh2 iandF (lI 0) (eC (nI 63)))))))))
theorem m_Integer_bitCount : MJ 1 [] yJ6_bitCount_0f7a4 (some .int) eI (d_Integer_bitCount) := MJ_of (K := K_Integer_bitCount) (ri := .ireturn) (n1 := 0) (n2 := 0) (n3 := 0)
 (SJ_sq (p0 := 0) (p1 := 10) (nN := 0) (nB := 0) (nC := 0) (SJ_istore_n (i := 0) (j := 0) (p0 := 0) (p1 := 9) (EJ_isub (p0 := 0) (p1 := 1) (p2 := 8) (EJ_iload_n (j := 0) (i := 0) (pc := 0) D_Integer_bitCount_0 rfl) (EJ_iand (p0 := 1) (p1 := 4) (p2 := 7) (EJ_iushr (p0 := 1) (p1 := 2) (p2 := 3) (EJ_iload_n (j := 0) (i := 0) (pc := 1) D_Integer_bitCount_1 rfl) (EJ_iconst (n := 1) (v := (nI 1)) (pc := 2) D_Integer_bitCount_2 (by decide +kernel)) D_Integer_bitCount_3) (EJ_ldcw (i := 265) (v := (nI 1431655765)) (pc := 4) D_Integer_bitCount_4 q_349) D_Integer_bitCount_7) D_Integer_bitCount_8) D_Integer_bitCount_9 rfl)
 (SJ_sq (p0 := 10) (p1 := 24) (nN := 0) (nB := 0) (nC := 0) (SJ_istore_n (i := 0) (j := 0) (p0 := 10) (p1 := 23) (EJ_iadd (p0 := 10) (p1 := 15) (p2 := 22) (EJ_iand (p0 := 10) (p1 := 11) (p2 := 14) (EJ_iload_n (j := 0) (i := 0) (pc := 10) D_Integer_bitCount_10 rfl) (EJ_ldcw (i := 266) (v := (nI 858993459)) (pc := 11) D_Integer_bitCount_11 q_350) D_Integer_bitCount_14) (EJ_iand (p0 := 15) (p1 := 18) (p2 := 21) (EJ_iushr (p0 := 15) (p1 := 16) (p2 := 17) (EJ_iload_n (j := 0) (i := 0) (pc := 15) D_Integer_bitCount_15 rfl) (EJ_iconst (n := 2) (v := (nI 2)) (pc := 16) D_Integer_bitCount_16 (by decide +kernel)) D_Integer_bitCount_17) (EJ_ldcw (i := 266) (v := (nI 858993459)) (pc := 18) D_Integer_bitCount_18 q_350) D_Integer_bitCount_21) D_Integer_bitCount_22) D_Integer_bitCount_23 rfl)
 (SJ_sq (p0 := 24) (p1 := 34) (nN := 0) (nB := 0) (nC := 0) (SJ_istore_n (i := 0) (j := 0) (p0 := 24) (p1 := 33) (EJ_iand (p0 := 24) (p1 := 29) (p2 := 32) (EJ_iadd (p0 := 24) (p1 := 25) (p2 := 28) (EJ_iload_n (j := 0) (i := 0) (pc := 24) D_Integer_bitCount_24 rfl) (EJ_iushr (p0 := 25) (p1 := 26) (p2 := 27) (EJ_iload_n (j := 0) (i := 0) (pc := 25) D_Integer_bitCount_25 rfl) (EJ_iconst (n := 4) (v := (nI 4)) (pc := 26) D_Integer_bitCount_26 (by decide +kernel)) D_Integer_bitCount_27) D_Integer_bitCount_28) (EJ_ldcw (i := 267) (v := (nI 252645135)) (pc := 29) D_Integer_bitCount_29 q_351) D_Integer_bitCount_32) D_Integer_bitCount_33 rfl)
 (SJ_sq (p0 := 34) (p1 := 41) (nN := 0) (nB := 0) (nC := 0) (SJ_istore_n (i := 0) (j := 0) (p0 := 34) (p1 := 40) (EJ_iadd (p0 := 34) (p1 := 35) (p2 := 39) (EJ_iload_n (j := 0) (i := 0) (pc := 34) D_Integer_bitCount_34 rfl) (EJ_iushr (p0 := 35) (p1 := 36) (p2 := 38) (EJ_iload_n (j := 0) (i := 0) (pc := 35) D_Integer_bitCount_35 rfl) (EJ_bipush (n := 8) (v := (nI 8)) (pc := 36) D_Integer_bitCount_36 (by decide +kernel)) D_Integer_bitCount_38) D_Integer_bitCount_39) D_Integer_bitCount_40 rfl)
 (SJ_sq (p0 := 41) (p1 := 48) (nN := 0) (nB := 0) (nC := 0) (SJ_istore_n (i := 0) (j := 0) (p0 := 41) (p1 := 47) (EJ_iadd (p0 := 41) (p1 := 42) (p2 := 46) (EJ_iload_n (j := 0) (i := 0) (pc := 41) D_Integer_bitCount_41 rfl) (EJ_iushr (p0 := 42) (p1 := 43) (p2 := 45) (EJ_iload_n (j := 0) (i := 0) (pc := 42) D_Integer_bitCount_42 rfl) (EJ_bipush (n := 16) (v := (nI 16)) (pc := 43) D_Integer_bitCount_43 (by decide +kernel)) D_Integer_bitCount_45) D_Integer_bitCount_46) D_Integer_bitCount_47 rfl)
 (SJ_ret (p0 := 48) (p1 := 52) (EJ_iand (p0 := 48) (p1 := 49) (p2 := 51) (EJ_iload_n (j := 0) (i := 0) (pc := 48) D_Integer_bitCount_48 rfl) (EJ_bipush (n := 63) (v := (nI 63)) (pc := 49) D_Integer_bitCount_49 (by decide +kernel)) D_Integer_bitCount_51) D_Integer_bitCount_52))))))
 RTm_int q_348 (by decide +kernel) rfl (fun h => by cases h) (show 1 ≤ 40 from by decide) (fun _ => trivial)
theorem D_Math_max_0 : decode cJ9_max_7cf53 0 = .ok (.iload_n 0, 1) := by decide +kernel
theorem D_Math_max_1 : decode cJ9_max_7cf53 1 = .ok (.iload_n 1, 1) := by decide +kernel
theorem D_Math_max_2 : decode cJ9_max_7cf53 2 = .ok (.if_icmp .lt (7), 3) := by decide +kernel
theorem D_Math_max_5 : decode cJ9_max_7cf53 5 = .ok (.iload_n 0, 1) := by decide +kernel
theorem D_Math_max_6 : decode cJ9_max_7cf53 6 = .ok (.goto (4), 3) := by decide +kernel
theorem D_Math_max_9 : decode cJ9_max_7cf53 9 = .ok (.iload_n 1, 1) := by decide +kernel
theorem D_Math_max_10 : decode cJ9_max_7cf53 10 = .ok (.ireturn, 1) := by decide +kernel
def K_Math_max : SC := (cJ9_max_7cf53, "java/lang/Math", 2, 1, false, [], NoQ)
def d_Math_max : MD Int32 := mth tt 2 (rtn (eIf (eh2 c_ge (lI 0) (lI 1)) (lI 0) (lI 1)))
theorem m_Math_max : MJ 1 [] yJ9_max_7cf53 (some .int) eI (d_Math_max) := MJ_of (K := K_Math_max) (ri := .ireturn) (n1 := 0) (n2 := 0) (n3 := 0)
 (SJ_ret (p0 := 0) (p1 := 10) (EJ_if (p0 := 0) (pT := 5) (pF := 9) (pE := 6) (p1 := 10) (CJ_ge' (off := 7) (tgt := 9) (p0 := 0) (p1 := 1) (p2 := 2) (EJ_iload_n (j := 0) (i := 0) (pc := 0) D_Math_max_0 rfl) (EJ_iload_n (j := 1) (i := 1) (pc := 1) D_Math_max_1 rfl) D_Math_max_2 rfl) (EJ_iload_n (j := 0) (i := 0) (pc := 5) D_Math_max_5 rfl) (Lead.goto (K := K_Math_max) (pc := 6) (tgt := 10) D_Math_max_6 rfl) (EJ_iload_n (j := 1) (i := 1) (pc := 9) D_Math_max_9 rfl)) D_Math_max_10)
 RTm_int q_786 (by decide +kernel) rfl (fun h => by cases h) (show 2 ≤ 40 from by decide) (fun _ => trivial)
