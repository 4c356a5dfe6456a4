/-! ===== the class: a new Upper, the loop over PARTS ===== -/
theorem rdP_len {tp : List Nat} {s s' : Told} {a a' : Nat} (he : rdP tp s a = .inr (s', a')) : s'.1.length + s'.2.length = s.1.length + s.2.length + 1 := by
  unfold rdP at he
  generalize hr : rdS tp false [] 7 (nx tp a) [] [] = r at he
  match r, he with
  | .inl F, he => cases he
  | .inr (ft, fr1, a1), he =>
    dsimp only at he
    split at he
    · generalize ht : rdT tp (nmL s.1) (ft.getD 0 0) (nx tp a) (nx tp a1) = t at he
      match t, he with
      | .inl F, he => cases he
      | .inr (rows, _, a2), he =>
        obtain ⟨rfl, h2⟩ := Prod.mk.inj (Sum.inr.inj he)
        dsimp only
        rw [List.length_append, List.length_singleton]; omega
    · split at he
      · generalize ht : rdR tp ft s.2.length (nx tp a) (nx tp a1) = t at he
        match t, he with
        | .inl F, he => cases he
        | .inr (chs, _, a2), he =>
          obtain ⟨rfl, h2⟩ := Prod.mk.inj (Sum.inr.inj he)
          dsimp only
          rw [List.length_append, List.length_singleton]; omega
      · cases he
def nwUp (h : AH) : AH := sR (nw (sR (nw (sR (nw (sR (nw (sR (nw (nw h 11 0 7) 29 26 26) (hN h) 0 (some (hN h + 1))) 30 26 26) (hN h) 1 (some (hN h + 2))) 31 24 24) (hN h) 2 (some (hN h + 3))) 32 6 6) (hN h) 3 (some (hN h + 4))) 33 0 0) (hN h) 4 (some (hN h + 5))
theorem nwUp_at {h : AH} : UpO (nwUp h) (hN h) ∧ (∀ k, hI (nwUp h) (hN h) k = nI 0) ∧ (∀ k, hI (nwUp h) (hN h + 1) k = nI 0) ∧ (∀ k, hI (nwUp h) (hN h + 4) k = nI 0) ∧ Fx (fun _ => False) 6 89 h (nwUp h) ∧ hN (nwUp h) = hN h + 6 := by
  unfold nwUp UpO
  refine ⟨⟨?_, ⟨?_, ?_, ?_⟩, ⟨?_, ?_, ?_⟩, ⟨?_, ?_, ?_⟩, ?_, ?_, ?_⟩, fun k => ?_, fun k => ?_, fun k => ?_, ⟨⟨?_, ?_⟩, ⟨?_, ?_⟩, fun a ha => ⟨?_, ?_, fun _ => ⟨?_, ?_, ?_⟩⟩⟩, ?_⟩
  all_goals simp (disch := omega) only [hN_sI, hU_sI, hT_sI, hL_sI, hI_sI, hJ_sI, hR_sI, hN_sJ, hU_sJ, hT_sJ, hL_sJ, hI_sJ, hJ_sJ, hR_sJ, hN_sR, hU_sR, hT_sR, hL_sR, hI_sR, hJ_sR, hR_sR, hN_nw, hU_nw, hT_nw, hL_nw, hI_nw, hJ_nw, hR_nw, vu_s, vu_n, u2_s, u2_n, u2_o]
  all_goals first | rfl | omega
theorem WF_nwUp {h : AH} (w : WF h) : WF (nwUp h) := WF_nw (t := 33) (n := 0) (u := 0) (h := sR (nw (sR (nw (sR (nw (sR (nw (nw h 11 0 7) 29 26 26) (hN h) 0 (some (hN h + 1))) 30 26 26) (hN h) 1 (some (hN h + 2))) 31 24 24) (hN h) 2 (some (hN h + 3))) 32 6 6) (hN h) 3 (some (hN h + 4))) (WF_nw (t := 32) (n := 6) (u := 6) (h := sR (nw (sR (nw (sR (nw (nw h 11 0 7) 29 26 26) (hN h) 0 (some (hN h + 1))) 30 26 26) (hN h) 1 (some (hN h + 2))) 31 24 24) (hN h) 2 (some (hN h + 3))) (WF_nw (t := 31) (n := 24) (u := 24) (h := sR (nw (sR (nw (nw h 11 0 7) 29 26 26) (hN h) 0 (some (hN h + 1))) 30 26 26) (hN h) 1 (some (hN h + 2))) (WF_nw (t := 30) (n := 26) (u := 26) (h := sR (nw (nw h 11 0 7) 29 26 26) (hN h) 0 (some (hN h + 1))) (WF_nw (t := 29) (n := 26) (u := 26) (WF_nw (t := 11) (n := 0) (u := 7) w)))))
theorem e_nwUp {σ : List Value} {h : AH} {Q : Option Nat → AH → Prop} (k : Q (some (hN h)) (nwUp h)) : wpe (kN 11 7 d_Upper_init []) σ h Q := by
  rw [e_kN, a_nil]
  unfold d_Upper_init
  simp (disch := omega) only [m_mth, s_sk, s_brk, s_cnt, s_sq, s_if, s_rtn, s_rtnU, s_E, s_I1, s_R1, s_J1, s_Inc, s_h2, s_h3, s_u2, s_u3, e_C, e_h1, e_h2, e_lI, e_lJ, e_lR, e_if, e_and, e_or, e_not, a_nil, a_I, a_J, a_R, e_kS, e_kV, e_kN, e_nA, ok_some, ok_none, ok_bind, ok_guard, ok_guardN, asI_int, asJ_long, asR_ref, asR_rf, asR_null, entL, ent, sto, sto2, ok1, Value.category, va_rf, List.length_cons, List.length_nil, List.length_append, List.length_replicate, List.nil_append, List.cons_append, List.append_nil, List.replicate_succ, List.replicate_zero, List.getElem?_cons_zero, List.getElem?_cons_succ, List.set_cons_zero, List.set_cons_succ, gI, gJ, gR, pI, pJ, pR, aI, aJ, aR, aL, stI, stB, stZ, stJ, uF, uA, Option.bind_some, iaddF, isubF, imulF, iandF, iorF, ixorF, ishlF, ishrF, iushrF, inegF, i2bF, i2lF, l2iF, c_eq, c_ne, c_lt, c_le, c_gt, c_ge, z_eq, z_ne, z_lt, z_le, z_gt, z_ge, j_eq, j_ne, j_gt, n_nul, n_non, tt, zz, hN_u, hU_u, hT_u, hL_u, hI_u, hJ_u, hR_u, sI_u, decide_eq_true_eq, true_and, and_true, if_true, reduceIte, beq_self_eq_true, Bool.true_or, Bool.and_self, Nat.reduceAdd, Nat.reduceSub, Nat.reduceLT, Nat.reduceLeDiff, Nat.reduceBEq, Nat.reduceEqDiff, Bool.or_true, Bool.false_or, List.mem_cons, List.mem_singleton, true_or, or_true, mh_N, mh_U, mh_T, mh_L, mh_R, mh_J, mh_0, mh_s0, mh_I, mh_s, sa_20, sa_21, sa_22, sa_23, sa_24, sa_25, sa_26, sa_27, sa_28, sa_29, sa_30, sa_31, sa_32, sa_33, sa_34, sa_35, sa_36, sa_37, sa_38, sa_39, sa_40, sa_41, sa_42, sa_43, sa_44, sa_45, sa_46, sa_47, sa_48, sa_49, sa_50, sa_51, sa_52, sa_70, sa_71, sa_72, sa_73, sa_74, sa_75, sa_76, sa_77, sa_78, sa_79, sa_80, sa_81, sa_82, sa_83, sa_84, sa_85, sa_86, sa_87, sa_88, sa_89, sa_90, sa_91, sa_92, sa_93, sa_94, sa_95, sa_96, sa_97, sa_98, sa_99, sa_100, sa_101, decide_eq_false_iff_not, s_obj, e_cl, s_ar, e_st, stO, stA, lshrF, lshlF, lorF, landF, lsubF, a_eq, a_ne, ov_N, ov_U, ov_T, ov_L, ov_I, ov_I0, ov_J, ov_J0, ov_R, ov_R0, ov_sI, ov_sI0, ov_sJ, ov_sJ0, ov_sR, ov_sR0, sa_53, sa_54, hN_sI, hU_sI, hT_sI, hL_sI, hI_sI, hJ_sI, hR_sI, hN_sJ, hU_sJ, hT_sJ, hL_sJ, hI_sJ, hJ_sJ, hR_sJ, hN_sR, hU_sR, hT_sR, hL_sR, hI_sR, hJ_sR, hR_sR, hN_nw, hU_nw, hT_nw, hL_nw, hI_nw, hJ_nw, hR_nw, vu_s, vu_n]
  exact ⟨by decide, by decide, by decide, by decide, by decide, k⟩
theorem UpP_0 {h : AH} : UpP (nwUp h) (hN h) [] [] := by
  obtain ⟨u1, u2', u3, u4, -, -⟩ := nwUp_at (h := h)
  refine ⟨⟨u1, u2' 6, fun c _ _ => by rw [u3, if_neg (by simp)], fun i hi => (by cases hi), fun i _ => ⟨u4 i, fun k hk => (by cases hk)⟩⟩, ⟨0, u2' 5, Nat.two_pow_pos _, fun q => by simp⟩, List.nodup_nil, fun c hc => (by cases hc), fun c hc => (by cases hc), fun c row hr => (by cases hr)⟩
def RgR (h' : AH) (D TP U : Nat) (tp nm' : List Nat) : Prop := (∃ F, RdE h' D F ∧ rdTell tp = .inl F) ∨ (∃ s a', RdQ h' D TP U tp nm' s.1 a' 0 ∧ ¬ a' < tp.length ∧ nx tp a' = a' ∧ TdOK s ∧ TdC h' D nm' s.2 ∧ rdA tp = .inr (s, a'))
theorem q_readLoop {h : AH} {D TP U B : Nat} {tp nm : List Nat} {x1 : Value} {y2 : Int32} (q : RdQ h D TP U tp nm [] (nx tp 0) 0) (td : TdC h D nm []) (hBN : B ≤ hN h) {N Bk Cn : List Value → AH → Prop} {Rt : Int32 → AH → Prop} (hN' : ∀ y3 y4 h' nm', RFp D U B 680 3417 h h' → RgR h' D TP U tp nm' → N [.ref D, x1, .int y2, y3, y4] h') : wps (loop (cAnd (eh1 z_ne (lI 3)) (eh2 c_le (lI 4) (eC (nI 500)))) (sI1 3 (kV 5 d_Reader_readPart (lR 0) [])) (sInc 4 (nI 1))) [.ref D, x1, .int y2, .int (bI (decide (nx tp 0 < tp.length))), .int (nI 0)] h N Bk Cn Rt := by
  have l500 := q.2.2.1.2
  refine s_whl (fun n σ h' => ∃ i mr nm1, n = 18 - i ∧ i ≤ 17 ∧ σ = [.ref D, x1, .int y2, .int (bI mr), .int (nI i)] ∧ RFp D U B (40 * i) (201 * i) h h' ∧ ((mr = true ∧ ∃ s p, s.1.length + s.2.length = i ∧ RdQ h' D TP U tp nm1 s.1 p 0 ∧ TdOK s ∧ TdC h' D nm1 s.2 ∧ rdA tp = rdG tp (17 - i) p s) ∨ (mr = false ∧ RgR h' D TP U tp nm1))) 18 (by omega) ⟨0, decide (nx tp 0 < tp.length), nm, rfl, by omega, rfl, RFp.rf, ?_⟩ ?_
  · by_cases z : nx tp 0 < tp.length
    · exact Or.inl ⟨decide_eq_true z, ([], []), nx tp 0, rfl, q, ⟨by decide, by decide, List.nodup_nil, fun x hx => (by cases hx), fun x hx => (by cases hx)⟩, td, by unfold rdA; rw [if_pos z]⟩
    · exact Or.inr ⟨decide_eq_false z, Or.inr ⟨([], []), nx tp 0, q, z, nx_nx, ⟨by decide, by decide, List.nodup_nil, fun x hx => (by cases hx), fun x hx => (by cases hx)⟩, td, by unfold rdA; rw [if_neg z]⟩⟩
  rintro n σ h' ⟨i, mr, nm1, rfl, i17, rfl, rf, hcs⟩
  rcases hcs with ⟨rfl, s, p, sl, w1, w2, w3, w4⟩ | ⟨rfl, w⟩
  · have i16 : i ≤ 16 := by have := w2.1; have := w2.2.1; omega
    have kk : nI i ≤ nI 500 := (nI_leI (by omega) (by omega)).mpr (by omega)
    refine wpe_to true h' ?_ ⟨fun _ => ?_, fun y => (by cases y)⟩
    · simp (disch := omega) only [m_mth, s_sk, s_brk, s_cnt, s_sq, s_if, s_rtn, s_rtnU, s_E, s_I1, s_R1, s_J1, s_Inc, s_h2, s_h3, s_u2, s_u3, e_C, e_h1, e_h2, e_lI, e_lJ, e_lR, e_if, e_and, e_or, e_not, a_nil, a_I, a_J, a_R, e_kS, e_kV, e_kN, e_nA, ok_some, ok_none, ok_bind, ok_guard, ok_guardN, asI_int, asJ_long, asR_ref, asR_rf, asR_null, entL, ent, sto, sto2, ok1, Value.category, va_rf, List.length_cons, List.length_nil, List.length_append, List.length_replicate, List.nil_append, List.cons_append, List.append_nil, List.replicate_succ, List.replicate_zero, List.getElem?_cons_zero, List.getElem?_cons_succ, List.set_cons_zero, List.set_cons_succ, gI, gJ, gR, pI, pJ, pR, aI, aJ, aR, aL, stI, stB, stZ, stJ, uF, uA, Option.bind_some, iaddF, isubF, imulF, iandF, iorF, ixorF, ishlF, ishrF, iushrF, inegF, i2bF, i2lF, l2iF, c_eq, c_ne, c_lt, c_le, c_gt, c_ge, z_eq, z_ne, z_lt, z_le, z_gt, z_ge, j_eq, j_ne, j_gt, n_nul, n_non, tt, zz, hN_u, hU_u, hT_u, hL_u, hI_u, hJ_u, hR_u, sI_u, decide_eq_true_eq, true_and, and_true, if_true, reduceIte, beq_self_eq_true, Bool.true_or, Bool.and_self, Nat.reduceAdd, Nat.reduceSub, Nat.reduceLT, Nat.reduceLeDiff, Nat.reduceBEq, Nat.reduceEqDiff, Bool.or_true, Bool.false_or, List.mem_cons, List.mem_singleton, true_or, or_true, mh_N, mh_U, mh_T, mh_L, mh_R, mh_J, mh_0, mh_s0, mh_I, mh_s, sa_20, sa_21, sa_22, sa_23, sa_24, sa_25, sa_26, sa_27, sa_28, sa_29, sa_30, sa_31, sa_32, sa_33, sa_34, sa_35, sa_36, sa_37, sa_38, sa_39, sa_40, sa_41, sa_42, sa_43, sa_44, sa_45, sa_46, sa_47, sa_48, sa_49, sa_50, sa_51, sa_52, sa_70, sa_71, sa_72, sa_73, sa_74, sa_75, sa_76, sa_77, sa_78, sa_79, sa_80, sa_81, sa_82, sa_83, sa_84, sa_85, sa_86, sa_87, sa_88, sa_89, sa_90, sa_91, sa_92, sa_93, sa_94, sa_95, sa_96, sa_97, sa_98, sa_99, sa_100, sa_101, decide_eq_false_iff_not, s_obj, e_cl, s_ar, e_st, stO, stA, lshrF, lshlF, lorF, landF, lsubF, a_eq, a_ne, ov_N, ov_U, ov_T, ov_L, ov_I, ov_I0, ov_J, ov_J0, ov_R, ov_R0, ov_sI, ov_sI0, ov_sJ, ov_sJ0, ov_sR, ov_sR0, sa_53, sa_54, bI, n1z, not_false_eq_true, decide_true, kk]
    refine hid fun N0 B0 C0 R0 kN kB kC kR => ?_
    have hNB : hN h ≤ hN h' := rf.1.1.1
    have tD' := w1.1.1
    obtain ⟨h5, nm5, ext5, r, e5, en5, f5, pr⟩ := q_readPart w1 w2 w3
    have f6 : RFp D U B (40 * (i + 1)) (201 * (i + 1)) h h5 := (rf.tr f5 (by omega)).w (Nat.le_refl _) (by omega) (by omega)
    simp (disch := omega) only [m_mth, s_sk, s_brk, s_cnt, s_sq, s_if, s_rtn, s_rtnU, s_E, s_I1, s_R1, s_J1, s_Inc, s_h2, s_h3, s_u2, s_u3, e_C, e_h1, e_h2, e_lI, e_lJ, e_lR, e_if, e_and, e_or, e_not, a_nil, a_I, a_J, a_R, e_kS, e_kV, e_kN, e_nA, ok_some, ok_none, ok_bind, ok_guard, ok_guardN, asI_int, asJ_long, asR_ref, asR_rf, asR_null, entL, ent, sto, sto2, ok1, Value.category, va_rf, List.length_cons, List.length_nil, List.length_append, List.length_replicate, List.nil_append, List.cons_append, List.append_nil, List.replicate_succ, List.replicate_zero, List.getElem?_cons_zero, List.getElem?_cons_succ, List.set_cons_zero, List.set_cons_succ, gI, gJ, gR, pI, pJ, pR, aI, aJ, aR, aL, stI, stB, stZ, stJ, uF, uA, Option.bind_some, iaddF, isubF, imulF, iandF, iorF, ixorF, ishlF, ishrF, iushrF, inegF, i2bF, i2lF, l2iF, c_eq, c_ne, c_lt, c_le, c_gt, c_ge, z_eq, z_ne, z_lt, z_le, z_gt, z_ge, j_eq, j_ne, j_gt, n_nul, n_non, tt, zz, hN_u, hU_u, hT_u, hL_u, hI_u, hJ_u, hR_u, sI_u, decide_eq_true_eq, true_and, and_true, if_true, reduceIte, beq_self_eq_true, Bool.true_or, Bool.and_self, Nat.reduceAdd, Nat.reduceSub, Nat.reduceLT, Nat.reduceLeDiff, Nat.reduceBEq, Nat.reduceEqDiff, Bool.or_true, Bool.false_or, List.mem_cons, List.mem_singleton, true_or, or_true, mh_N, mh_U, mh_T, mh_L, mh_R, mh_J, mh_0, mh_s0, mh_I, mh_s, sa_20, sa_21, sa_22, sa_23, sa_24, sa_25, sa_26, sa_27, sa_28, sa_29, sa_30, sa_31, sa_32, sa_33, sa_34, sa_35, sa_36, sa_37, sa_38, sa_39, sa_40, sa_41, sa_42, sa_43, sa_44, sa_45, sa_46, sa_47, sa_48, sa_49, sa_50, sa_51, sa_52, sa_70, sa_71, sa_72, sa_73, sa_74, sa_75, sa_76, sa_77, sa_78, sa_79, sa_80, sa_81, sa_82, sa_83, sa_84, sa_85, sa_86, sa_87, sa_88, sa_89, sa_90, sa_91, sa_92, sa_93, sa_94, sa_95, sa_96, sa_97, sa_98, sa_99, sa_100, sa_101, decide_eq_false_iff_not, s_obj, e_cl, s_ar, e_st, stO, stA, lshrF, lshlF, lorF, landF, lsubF, a_eq, a_ne, ov_N, ov_U, ov_T, ov_L, ov_I, ov_I0, ov_J, ov_J0, ov_R, ov_R0, ov_sI, ov_sI0, ov_sJ, ov_sJ0, ov_sR, ov_sR0, sa_53, sa_54, tD', wpm_eq e5]
    refine kN _ _ (hid fun N11 B11 C11 R11 kN11 kB11 kC11 kR11 => ?_)
    simp only [m_mth, s_sk, s_brk, s_cnt, s_sq, s_if, s_rtn, s_rtnU, s_E, s_I1, s_R1, s_J1, s_Inc, s_h2, s_h3, s_u2, s_u3, e_C, e_h1, e_h2, e_lI, e_lJ, e_lR, e_if, e_and, e_or, e_not, a_nil, a_I, a_J, a_R, e_kS, e_kV, e_kN, e_nA, ok_some, ok_none, ok_bind, ok_guard, ok_guardN, asI_int, asJ_long, asR_ref, asR_rf, asR_null, entL, ent, sto, sto2, ok1, Value.category, va_rf, List.length_cons, List.length_nil, List.length_append, List.length_replicate, List.nil_append, List.cons_append, List.append_nil, List.replicate_succ, List.replicate_zero, List.getElem?_cons_zero, List.getElem?_cons_succ, List.set_cons_zero, List.set_cons_succ, gI, gJ, gR, pI, pJ, pR, aI, aJ, aR, aL, stI, stB, stZ, stJ, uF, uA, Option.bind_some, iaddF, isubF, imulF, iandF, iorF, ixorF, ishlF, ishrF, iushrF, inegF, i2bF, i2lF, l2iF, c_eq, c_ne, c_lt, c_le, c_gt, c_ge, z_eq, z_ne, z_lt, z_le, z_gt, z_ge, j_eq, j_ne, j_gt, n_nul, n_non, tt, zz, hN_u, hU_u, hT_u, hL_u, hI_u, hJ_u, hR_u, sI_u, decide_eq_true_eq, true_and, and_true, if_true, reduceIte, beq_self_eq_true, Bool.true_or, Bool.and_self, Nat.reduceAdd, Nat.reduceSub, Nat.reduceLT, Nat.reduceLeDiff, Nat.reduceBEq, Nat.reduceEqDiff, Bool.or_true, Bool.false_or, List.mem_cons, List.mem_singleton, true_or, or_true, mh_N, mh_U, mh_T, mh_L, mh_R, mh_J, mh_0, mh_s0, mh_I, mh_s, sa_20, sa_21, sa_22, sa_23, sa_24, sa_25, sa_26, sa_27, sa_28, sa_29, sa_30, sa_31, sa_32, sa_33, sa_34, sa_35, sa_36, sa_37, sa_38, sa_39, sa_40, sa_41, sa_42, sa_43, sa_44, sa_45, sa_46, sa_47, sa_48, sa_49, sa_50, sa_51, sa_52, sa_70, sa_71, sa_72, sa_73, sa_74, sa_75, sa_76, sa_77, sa_78, sa_79, sa_80, sa_81, sa_82, sa_83, sa_84, sa_85, sa_86, sa_87, sa_88, sa_89, sa_90, sa_91, sa_92, sa_93, sa_94, sa_95, sa_96, sa_97, sa_98, sa_99, sa_100, sa_101, decide_eq_false_iff_not, s_obj, e_cl, s_ar, e_st, stO, stA, lshrF, lshlF, lorF, landF, lsubF, a_eq, a_ne, ov_N, ov_U, ov_T, ov_L, ov_I, ov_I0, ov_J, ov_J0, ov_R, ov_R0, ov_sI, ov_sI0, ov_sJ, ov_sJ0, ov_sR, ov_sR0, sa_53, sa_54, nI_add]
    refine kN11 _ _ ⟨18 - (i + 1), by omega, i + 1, r, nm5, rfl, by omega, rfl, f6, ?_⟩
    rw [show 17 - i = (16 - i) + 1 by omega, rdG_s] at w4
    generalize hrp : rdP tp s p = rp at *
    match rp, pr, w4, hrp with
    | .inl F, ⟨y1, y2⟩, w4, _ => exact Or.inr ⟨y1, Or.inl ⟨F, y2, by unfold rdTell; rw [w4]; rfl⟩⟩
    | .inr (s', a''), .inr ⟨y1, y2, y3, y4, y5⟩, w4, _ =>
      refine Or.inr ⟨y1, Or.inl ⟨_, y2, ?_⟩⟩
      dsimp only at w4
      rw [y3, if_neg (fun e => y5 (by rw [e.2]; decide))] at w4
      unfold rdTell
      rw [w4]
      simp only [rdTk]
      rw [y3, if_pos y4]
    | .inr (s', a''), .inl ⟨y1, y2, y3, y4, y5, y6⟩, w4, hrp =>
      dsimp only at w4
      rw [y2] at w4
      have sl' := rdP_len hrp
      by_cases z : a'' < tp.length ∧ tp.getD a'' 0 = 59
      · rw [if_pos z] at w4
        have za := atc_iff.mpr z
        rw [za] at y6
        rw [za, if_pos rfl] at y1
        exact Or.inl ⟨y6, s', a'' + 1, by omega, y1, y4, y5, by rw [show 17 - (i + 1) = 16 - i by omega]; exact w4⟩
      · rw [if_neg z] at w4
        have za := atc_f z
        rw [za] at y6
        rw [za, if_neg (by decide)] at y1
        exact Or.inr ⟨y6, Or.inr ⟨s', a'', y1, fun w => y3 ⟨w, fun w' => z ⟨w, w'⟩⟩, y2, y4, y5, w4⟩⟩
  · refine wpe_to false h' ?_ ⟨fun y => (by cases y), fun _ => hN' _ _ h' nm1 (rf.w (Nat.le_refl _) (by omega) (by omega)) w⟩
    simp (disch := omega) only [m_mth, s_sk, s_brk, s_cnt, s_sq, s_if, s_rtn, s_rtnU, s_E, s_I1, s_R1, s_J1, s_Inc, s_h2, s_h3, s_u2, s_u3, e_C, e_h1, e_h2, e_lI, e_lJ, e_lR, e_if, e_and, e_or, e_not, a_nil, a_I, a_J, a_R, e_kS, e_kV, e_kN, e_nA, ok_some, ok_none, ok_bind, ok_guard, ok_guardN, asI_int, asJ_long, asR_ref, asR_rf, asR_null, entL, ent, sto, sto2, ok1, Value.category, va_rf, List.length_cons, List.length_nil, List.length_append, List.length_replicate, List.nil_append, List.cons_append, List.append_nil, List.replicate_succ, List.replicate_zero, List.getElem?_cons_zero, List.getElem?_cons_succ, List.set_cons_zero, List.set_cons_succ, gI, gJ, gR, pI, pJ, pR, aI, aJ, aR, aL, stI, stB, stZ, stJ, uF, uA, Option.bind_some, iaddF, isubF, imulF, iandF, iorF, ixorF, ishlF, ishrF, iushrF, inegF, i2bF, i2lF, l2iF, c_eq, c_ne, c_lt, c_le, c_gt, c_ge, z_eq, z_ne, z_lt, z_le, z_gt, z_ge, j_eq, j_ne, j_gt, n_nul, n_non, tt, zz, hN_u, hU_u, hT_u, hL_u, hI_u, hJ_u, hR_u, sI_u, decide_eq_true_eq, true_and, and_true, if_true, reduceIte, beq_self_eq_true, Bool.true_or, Bool.and_self, Nat.reduceAdd, Nat.reduceSub, Nat.reduceLT, Nat.reduceLeDiff, Nat.reduceBEq, Nat.reduceEqDiff, Bool.or_true, Bool.false_or, List.mem_cons, List.mem_singleton, true_or, or_true, mh_N, mh_U, mh_T, mh_L, mh_R, mh_J, mh_0, mh_s0, mh_I, mh_s, sa_20, sa_21, sa_22, sa_23, sa_24, sa_25, sa_26, sa_27, sa_28, sa_29, sa_30, sa_31, sa_32, sa_33, sa_34, sa_35, sa_36, sa_37, sa_38, sa_39, sa_40, sa_41, sa_42, sa_43, sa_44, sa_45, sa_46, sa_47, sa_48, sa_49, sa_50, sa_51, sa_52, sa_70, sa_71, sa_72, sa_73, sa_74, sa_75, sa_76, sa_77, sa_78, sa_79, sa_80, sa_81, sa_82, sa_83, sa_84, sa_85, sa_86, sa_87, sa_88, sa_89, sa_90, sa_91, sa_92, sa_93, sa_94, sa_95, sa_96, sa_97, sa_98, sa_99, sa_100, sa_101, decide_eq_false_iff_not, s_obj, e_cl, s_ar, e_st, stO, stA, lshrF, lshlF, lorF, landF, lsubF, a_eq, a_ne, ov_N, ov_U, ov_T, ov_L, ov_I, ov_I0, ov_J, ov_J0, ov_R, ov_R0, ov_sI, ov_sI0, ov_sJ, ov_sJ0, ov_sR, ov_sR0, sa_53, sa_54, bI, Bool.false_eq_true, if_false, n00, not_true_eq_false, decide_false]
