/-! ===== the class: before the alternatives of a RULE ===== -/
theorem RdE_z {A : Nat → Prop} {h h' : AH} {D F : Nat} (q : RdE h D F) (z : Fz A h h') (hA : ¬ A D) : RdE h' D F := by
  obtain ⟨⟨q1, ⟨q2, q3, q4⟩, q5, q6, q7⟩, q8, q9, q10, q11⟩ := q
  have s := z.2.2.2.2 D hA
  exact ⟨⟨by rw [z.2.2.1]; exact q1, ⟨by rw [s.2.2]; exact q2, by rw [z.2.2.1]; exact q3, by rw [z.2.2.2.1]; exact q4⟩, by rw [s.2.2]; exact q5, by rw [z.2.2.1]; exact q6, by rw [z.2.2.2.1]; exact q7⟩, by rw [s.1]; exact q8, q9, q10, WF_z q11 z⟩
theorem RFm_ru {h : AH} {D TP U B : Nat} {tp nm : List Nat} {ms : Ms} {a flt : Nat} (q : RdQ h D TP U tp nm ms a flt) (hB : hN h ≤ B) : ∀ x, (x = D ∨ x = D + 2 ∨ (U ≤ x ∧ x < U + 3) ∨ B ≤ x) → hT h x ∉ RUs := by
  obtain ⟨q1, -, -, -, -, -, q7, wf⟩ := q
  have u0 := q7.1.1
  rintro x (e | e | e | e)
  · rw [e, q1.1]; decide
  · rw [e, q1.2.1.2.1]; decide
  · have ut : hT h U = 11 ∧ hT h (U + 1) = 29 ∧ hT h (U + 2) = 30 := ⟨u0.1, by simpa using u0.2.1.2.1, by simpa using u0.2.2.1.2.1⟩
    rcases (show x = U ∨ x = U + 1 ∨ x = U + 2 by omega) with e | e | e
    · rw [e, ut.1]; decide
    · rw [e, ut.2.1]; decide
    · rw [e, ut.2.2]; decide
  · have t0 : hT h x = 0 := by
      rcases Nat.eq_zero_or_pos (hT h x) with y | y
      · exact y
      · have := wf x (by omega); omega
    rw [t0]; decide
def acW (h : AH) (R C n : Nat) : AH := sI (sR h (R + 2) n (some C)) R 4 (nI (n + 1))
theorem acW_z {h : AH} {R C n : Nat} : Fz (fun x => x = R ∨ x = R + 2) h (acW h R C n) := (Fz_sR (Or.inr rfl)).tr (Fz_sI (Or.inl rfl))
theorem q_addChoice {h : AH} {R C : Nat} {nm hd : List Nat} {chs : List ChoT} (q : RuP h R nm hd chs) (l4 : chs.length < 4) (tC : hT h C = 1) : d_Rule_addChoice [.ref R, .ref C] h = some ((), acW h R C chs.length) := by
  obtain ⟨⟨sg, fs, r1, -⟩, ⟨q2, q3, q4⟩, q5, -⟩ := q
  have l4' : nI chs.length < nI 4 := (nI_ltI (by omega) (by decide)).mpr l4
  have s42 : (sA 42).isSome = true := rfl
  refine wpm_to ?_
  unfold d_Rule_addChoice
  (rw [m_mth]; refine ⟨by simp only [m_mth, s_sk, s_brk, s_cnt, s_sq, s_if, s_rtn, s_rtnU, s_E, s_I1, s_R1, s_J1, s_Inc, s_h2, s_h3, s_u2, s_u3, e_C, e_h1, e_h2, e_lI, e_lJ, e_lR, e_if, e_and, e_or, e_not, a_nil, a_I, a_J, a_R, e_kS, e_kV, e_kN, e_nA, ok_some, ok_none, ok_bind, ok_guard, ok_guardN, asI_int, asJ_long, asR_ref, asR_rf, asR_null, entL, ent, sto, sto2, ok1, Value.category, va_rf, List.length_cons, List.length_nil, List.length_append, List.length_replicate, List.nil_append, List.cons_append, List.append_nil, List.replicate_succ, List.replicate_zero, List.getElem?_cons_zero, List.getElem?_cons_succ, List.set_cons_zero, List.set_cons_succ, gI, gJ, gR, pI, pJ, pR, aI, aJ, aR, aL, stI, stB, stZ, stJ, uF, uA, Option.bind_some, iaddF, isubF, imulF, iandF, iorF, ixorF, ishlF, ishrF, iushrF, inegF, i2bF, i2lF, l2iF, c_eq, c_ne, c_lt, c_le, c_gt, c_ge, z_eq, z_ne, z_lt, z_le, z_gt, z_ge, j_eq, j_ne, j_gt, n_nul, n_non, tt, zz, hN_u, hU_u, hT_u, hL_u, hI_u, hJ_u, hR_u, sI_u, decide_eq_true_eq, true_and, and_true, if_true, reduceIte, beq_self_eq_true, Bool.true_or, Bool.and_self, Nat.reduceAdd, Nat.reduceSub, Nat.reduceLT, Nat.reduceLeDiff, Nat.reduceBEq, Nat.reduceEqDiff, Bool.or_true, Bool.false_or, List.mem_cons, List.mem_singleton, true_or, or_true, mh_N, mh_U, mh_T, mh_L, mh_R, mh_J, mh_0, mh_s0, mh_I, mh_s, sa_20, sa_21, sa_22, sa_23, sa_24, sa_25, sa_26, sa_27, sa_28, sa_29, sa_30, sa_31, sa_32, sa_33, sa_34, sa_35, sa_36, sa_37, sa_38, sa_39, sa_40, sa_41, sa_42, sa_43, sa_44, sa_45, sa_46, sa_47, sa_48, sa_49, sa_50, sa_51, sa_52, sa_70, sa_71, sa_72, sa_73, sa_74, sa_75, sa_76, sa_77, sa_78, sa_79, sa_80, sa_81, sa_82, sa_83, sa_84, sa_85, sa_86, sa_87, sa_88, sa_89, sa_90, sa_91, sa_92, sa_93, sa_94, sa_95, sa_96, sa_97, sa_98, sa_99, sa_100, sa_101, decide_eq_false_iff_not, s_obj, e_cl, s_ar, e_st, stO, stA, lshrF, lshlF, lorF, landF, lsubF, a_eq, a_ne, ov_N, ov_U, ov_T, ov_L, ov_I, ov_I0, ov_J, ov_J0, ov_R, ov_R0, ov_sI, ov_sI0, ov_sJ, ov_sJ0, ov_sR, ov_sR0, sa_53, sa_54], ?_⟩; simp only [entL, ent, Value.category, List.length_cons, List.length_nil, Nat.reduceAdd, Nat.reduceSub, List.replicate_succ, List.replicate_zero, List.cons_append, List.nil_append, Nat.reduceBEq, Bool.false_eq_true, if_false, beq_self_eq_true, if_true, reduceIte])
  refine seq fun N1 k1 => s_ifT (h' := h) ?_ (seq fun N2 k2 => ?_)
  · simp (disch := omega) only [m_mth, s_sk, s_brk, s_cnt, s_sq, s_if, s_rtn, s_rtnU, s_E, s_I1, s_R1, s_J1, s_Inc, s_h2, s_h3, s_u2, s_u3, e_C, e_h1, e_h2, e_lI, e_lJ, e_lR, e_if, e_and, e_or, e_not, a_nil, a_I, a_J, a_R, e_kS, e_kV, e_kN, e_nA, ok_some, ok_none, ok_bind, ok_guard, ok_guardN, asI_int, asJ_long, asR_ref, asR_rf, asR_null, entL, ent, sto, sto2, ok1, Value.category, va_rf, List.length_cons, List.length_nil, List.length_append, List.length_replicate, List.nil_append, List.cons_append, List.append_nil, List.replicate_succ, List.replicate_zero, List.getElem?_cons_zero, List.getElem?_cons_succ, List.set_cons_zero, List.set_cons_succ, gI, gJ, gR, pI, pJ, pR, aI, aJ, aR, aL, stI, stB, stZ, stJ, uF, uA, Option.bind_some, iaddF, isubF, imulF, iandF, iorF, ixorF, ishlF, ishrF, iushrF, inegF, i2bF, i2lF, l2iF, c_eq, c_ne, c_lt, c_le, c_gt, c_ge, z_eq, z_ne, z_lt, z_le, z_gt, z_ge, j_eq, j_ne, j_gt, n_nul, n_non, tt, zz, hN_u, hU_u, hT_u, hL_u, hI_u, hJ_u, hR_u, sI_u, decide_eq_true_eq, true_and, and_true, if_true, reduceIte, beq_self_eq_true, Bool.true_or, Bool.and_self, Nat.reduceAdd, Nat.reduceSub, Nat.reduceLT, Nat.reduceLeDiff, Nat.reduceBEq, Nat.reduceEqDiff, Bool.or_true, Bool.false_or, List.mem_cons, List.mem_singleton, true_or, or_true, mh_N, mh_U, mh_T, mh_L, mh_R, mh_J, mh_0, mh_s0, mh_I, mh_s, sa_20, sa_21, sa_22, sa_23, sa_24, sa_25, sa_26, sa_27, sa_28, sa_29, sa_30, sa_31, sa_32, sa_33, sa_34, sa_35, sa_36, sa_37, sa_38, sa_39, sa_40, sa_41, sa_42, sa_43, sa_44, sa_45, sa_46, sa_47, sa_48, sa_49, sa_50, sa_51, sa_52, sa_70, sa_71, sa_72, sa_73, sa_74, sa_75, sa_76, sa_77, sa_78, sa_79, sa_80, sa_81, sa_82, sa_83, sa_84, sa_85, sa_86, sa_87, sa_88, sa_89, sa_90, sa_91, sa_92, sa_93, sa_94, sa_95, sa_96, sa_97, sa_98, sa_99, sa_100, sa_101, decide_eq_false_iff_not, s_obj, e_cl, s_ar, e_st, stO, stA, lshrF, lshlF, lorF, landF, lsubF, a_eq, a_ne, ov_N, ov_U, ov_T, ov_L, ov_I, ov_I0, ov_J, ov_J0, ov_R, ov_R0, ov_sI, ov_sI0, ov_sJ, ov_sJ0, ov_sR, ov_sR0, sa_53, sa_54, r1, q5, l4', decide_true]
  simp (disch := omega) only [m_mth, s_sk, s_brk, s_cnt, s_sq, s_if, s_rtn, s_rtnU, s_E, s_I1, s_R1, s_J1, s_Inc, s_h2, s_h3, s_u2, s_u3, e_C, e_h1, e_h2, e_lI, e_lJ, e_lR, e_if, e_and, e_or, e_not, a_nil, a_I, a_J, a_R, e_kS, e_kV, e_kN, e_nA, ok_some, ok_none, ok_bind, ok_guard, ok_guardN, asI_int, asJ_long, asR_ref, asR_rf, asR_null, entL, ent, sto, sto2, ok1, Value.category, va_rf, List.length_cons, List.length_nil, List.length_append, List.length_replicate, List.nil_append, List.cons_append, List.append_nil, List.replicate_succ, List.replicate_zero, List.getElem?_cons_zero, List.getElem?_cons_succ, List.set_cons_zero, List.set_cons_succ, gI, gJ, gR, pI, pJ, pR, aI, aJ, aR, aL, stI, stB, stZ, stJ, uF, uA, Option.bind_some, iaddF, isubF, imulF, iandF, iorF, ixorF, ishlF, ishrF, iushrF, inegF, i2bF, i2lF, l2iF, c_eq, c_ne, c_lt, c_le, c_gt, c_ge, z_eq, z_ne, z_lt, z_le, z_gt, z_ge, j_eq, j_ne, j_gt, n_nul, n_non, tt, zz, hN_u, hU_u, hT_u, hL_u, hI_u, hJ_u, hR_u, sI_u, decide_eq_true_eq, true_and, and_true, if_true, reduceIte, beq_self_eq_true, Bool.true_or, Bool.and_self, Nat.reduceAdd, Nat.reduceSub, Nat.reduceLT, Nat.reduceLeDiff, Nat.reduceBEq, Nat.reduceEqDiff, Bool.or_true, Bool.false_or, List.mem_cons, List.mem_singleton, true_or, or_true, mh_N, mh_U, mh_T, mh_L, mh_R, mh_J, mh_0, mh_s0, mh_I, mh_s, sa_20, sa_21, sa_22, sa_23, sa_24, sa_25, sa_26, sa_27, sa_28, sa_29, sa_30, sa_31, sa_32, sa_33, sa_34, sa_35, sa_36, sa_37, sa_38, sa_39, sa_40, sa_41, sa_42, sa_43, sa_44, sa_45, sa_46, sa_47, sa_48, sa_49, sa_50, sa_51, sa_52, sa_70, sa_71, sa_72, sa_73, sa_74, sa_75, sa_76, sa_77, sa_78, sa_79, sa_80, sa_81, sa_82, sa_83, sa_84, sa_85, sa_86, sa_87, sa_88, sa_89, sa_90, sa_91, sa_92, sa_93, sa_94, sa_95, sa_96, sa_97, sa_98, sa_99, sa_100, sa_101, decide_eq_false_iff_not, s_obj, e_cl, s_ar, e_st, stO, stA, lshrF, lshlF, lorF, landF, lsubF, a_eq, a_ne, ov_N, ov_U, ov_T, ov_L, ov_I, ov_I0, ov_J, ov_J0, ov_R, ov_R0, ov_sI, ov_sI0, ov_sJ, ov_sJ0, ov_sR, ov_sR0, sa_53, sa_54, r1, q2, q3, q4, q5, tC, nI_clamp, nI_pos, nI_add, pk_mul, nI_ltI, nI_leI, not_false_eq_true]
  refine ⟨⟨l4, fun b hb => by cases hb; exact tC⟩, k2 _ _ ?_⟩
  simp (disch := omega) only [m_mth, s_sk, s_brk, s_cnt, s_sq, s_if, s_rtn, s_rtnU, s_E, s_I1, s_R1, s_J1, s_Inc, s_h2, s_h3, s_u2, s_u3, e_C, e_h1, e_h2, e_lI, e_lJ, e_lR, e_if, e_and, e_or, e_not, a_nil, a_I, a_J, a_R, e_kS, e_kV, e_kN, e_nA, ok_some, ok_none, ok_bind, ok_guard, ok_guardN, asI_int, asJ_long, asR_ref, asR_rf, asR_null, entL, ent, sto, sto2, ok1, Value.category, va_rf, List.length_cons, List.length_nil, List.length_append, List.length_replicate, List.nil_append, List.cons_append, List.append_nil, List.replicate_succ, List.replicate_zero, List.getElem?_cons_zero, List.getElem?_cons_succ, List.set_cons_zero, List.set_cons_succ, gI, gJ, gR, pI, pJ, pR, aI, aJ, aR, aL, stI, stB, stZ, stJ, uF, uA, Option.bind_some, iaddF, isubF, imulF, iandF, iorF, ixorF, ishlF, ishrF, iushrF, inegF, i2bF, i2lF, l2iF, c_eq, c_ne, c_lt, c_le, c_gt, c_ge, z_eq, z_ne, z_lt, z_le, z_gt, z_ge, j_eq, j_ne, j_gt, n_nul, n_non, tt, zz, hN_u, hU_u, hT_u, hL_u, hI_u, hJ_u, hR_u, sI_u, decide_eq_true_eq, true_and, and_true, if_true, reduceIte, beq_self_eq_true, Bool.true_or, Bool.and_self, Nat.reduceAdd, Nat.reduceSub, Nat.reduceLT, Nat.reduceLeDiff, Nat.reduceBEq, Nat.reduceEqDiff, Bool.or_true, Bool.false_or, List.mem_cons, List.mem_singleton, true_or, or_true, mh_N, mh_U, mh_T, mh_L, mh_R, mh_J, mh_0, mh_s0, mh_I, mh_s, sa_20, sa_21, sa_22, sa_23, sa_24, sa_25, sa_26, sa_27, sa_28, sa_29, sa_30, sa_31, sa_32, sa_33, sa_34, sa_35, sa_36, sa_37, sa_38, sa_39, sa_40, sa_41, sa_42, sa_43, sa_44, sa_45, sa_46, sa_47, sa_48, sa_49, sa_50, sa_51, sa_52, sa_70, sa_71, sa_72, sa_73, sa_74, sa_75, sa_76, sa_77, sa_78, sa_79, sa_80, sa_81, sa_82, sa_83, sa_84, sa_85, sa_86, sa_87, sa_88, sa_89, sa_90, sa_91, sa_92, sa_93, sa_94, sa_95, sa_96, sa_97, sa_98, sa_99, sa_100, sa_101, decide_eq_false_iff_not, s_obj, e_cl, s_ar, e_st, stO, stA, lshrF, lshlF, lorF, landF, lsubF, a_eq, a_ne, ov_N, ov_U, ov_T, ov_L, ov_I, ov_I0, ov_J, ov_J0, ov_R, ov_R0, ov_sI, ov_sI0, ov_sJ, ov_sJ0, ov_sR, ov_sR0, sa_53, sa_54, hT_sR, r1, hI_sR, q5, nI_add]
  refine k1 _ _ ?_
  simp only [m_mth, s_sk, s_brk, s_cnt, s_sq, s_if, s_rtn, s_rtnU, s_E, s_I1, s_R1, s_J1, s_Inc, s_h2, s_h3, s_u2, s_u3, e_C, e_h1, e_h2, e_lI, e_lJ, e_lR, e_if, e_and, e_or, e_not, a_nil, a_I, a_J, a_R, e_kS, e_kV, e_kN, e_nA, ok_some, ok_none, ok_bind, ok_guard, ok_guardN, asI_int, asJ_long, asR_ref, asR_rf, asR_null, entL, ent, sto, sto2, ok1, Value.category, va_rf, List.length_cons, List.length_nil, List.length_append, List.length_replicate, List.nil_append, List.cons_append, List.append_nil, List.replicate_succ, List.replicate_zero, List.getElem?_cons_zero, List.getElem?_cons_succ, List.set_cons_zero, List.set_cons_succ, gI, gJ, gR, pI, pJ, pR, aI, aJ, aR, aL, stI, stB, stZ, stJ, uF, uA, Option.bind_some, iaddF, isubF, imulF, iandF, iorF, ixorF, ishlF, ishrF, iushrF, inegF, i2bF, i2lF, l2iF, c_eq, c_ne, c_lt, c_le, c_gt, c_ge, z_eq, z_ne, z_lt, z_le, z_gt, z_ge, j_eq, j_ne, j_gt, n_nul, n_non, tt, zz, hN_u, hU_u, hT_u, hL_u, hI_u, hJ_u, hR_u, sI_u, decide_eq_true_eq, true_and, and_true, if_true, reduceIte, beq_self_eq_true, Bool.true_or, Bool.and_self, Nat.reduceAdd, Nat.reduceSub, Nat.reduceLT, Nat.reduceLeDiff, Nat.reduceBEq, Nat.reduceEqDiff, Bool.or_true, Bool.false_or, List.mem_cons, List.mem_singleton, true_or, or_true, mh_N, mh_U, mh_T, mh_L, mh_R, mh_J, mh_0, mh_s0, mh_I, mh_s, sa_20, sa_21, sa_22, sa_23, sa_24, sa_25, sa_26, sa_27, sa_28, sa_29, sa_30, sa_31, sa_32, sa_33, sa_34, sa_35, sa_36, sa_37, sa_38, sa_39, sa_40, sa_41, sa_42, sa_43, sa_44, sa_45, sa_46, sa_47, sa_48, sa_49, sa_50, sa_51, sa_52, sa_70, sa_71, sa_72, sa_73, sa_74, sa_75, sa_76, sa_77, sa_78, sa_79, sa_80, sa_81, sa_82, sa_83, sa_84, sa_85, sa_86, sa_87, sa_88, sa_89, sa_90, sa_91, sa_92, sa_93, sa_94, sa_95, sa_96, sa_97, sa_98, sa_99, sa_100, sa_101, decide_eq_false_iff_not, s_obj, e_cl, s_ar, e_st, stO, stA, lshrF, lshlF, lorF, landF, lsubF, a_eq, a_ne, ov_N, ov_U, ov_T, ov_L, ov_I, ov_I0, ov_J, ov_J0, ov_R, ov_R0, ov_sI, ov_sI0, ov_sJ, ov_sJ0, ov_sR, ov_sR0, sa_53, sa_54]
  rfl
theorem RuP_add {h : AH} {R C : Nat} {nm hd : List Nat} {chs : List ChoT} {ch : ChoT} (q : RuP h R nm hd chs) (wf : WF h) (cc : CcP h C nm hd ch [] (frs hd ch)) : RuP (acW h R C chs.length) R nm hd (chs ++ [ch]) := by
  obtain ⟨⟨sg, fs, r1, r2, r3, r4, r5, r6, r7, r8, b, r9, r10⟩, ⟨q2, q3, q4⟩, q5, q6, q7⟩ := q
  have z := acW_z (h := h) (R := R) (C := C) (n := chs.length)
  have nR : ∀ x, hT h x ≠ 7 → hT h x ≠ 42 → ¬ (x = R ∨ x = R + 2) := fun x h1 h2 y => by
    rcases y with y | y
    · rw [y] at h1; exact h1 r1
    · rw [y] at h2; exact h2 q3
  have rR : hR (acW h R C chs.length) R = hR h R := by
    unfold acW
    rw [hR_sI, hR_sR]
    exact u2_o (by omega)
  have iR : ∀ k, k ≠ 4 → hI (acW h R C chs.length) R k = hI h R k := fun k hk => by
    unfold acW
    rw [hI_sI, u2_n (Or.inr hk), hI_sR]
  have ccx : ∀ {C' : Nat} {ch' : ChoT}, CcP h C' nm hd ch' [] (frs hd ch') → CcP (acW h R C chs.length) C' nm hd ch' [] (frs hd ch') := fun {C' ch'} c => by
    refine CcP_x c wf z.fx (fun k hk => ?_) (fun a ha => nR a (by rw [ha]; decide) (by rw [ha]; decide))
    have cs := Ch_site c.1 hk
    refine nR _ (fun y => ?_) (fun y => ?_) <;> rw [y] at cs <;> revert cs <;> decide
  have ss := z.2.2.2.2 sg (nR sg (by rw [r3]; decide) (by rw [r3]; decide))
  have sf := z.2.2.2.2 fs (nR fs (by rw [r6]; decide) (by rw [r6]; decide))
  refine ⟨⟨sg, fs, by rw [z.2.2.1]; exact r1, by rw [rR]; exact r2, by rw [z.2.2.1]; exact r3, ⟨by rw [z.2.2.1]; exact r4.1, by rw [z.2.2.2.1]; exact r4.2.1, fun i hi => by rw [ss.1]; exact r4.2.2 i hi⟩, by rw [rR]; exact r5, by rw [z.2.2.1]; exact r6, by rw [z.2.2.2.1]; exact r7, fun i hi => by rw [sf.1]; exact r8 i hi, b, by rw [iR 1 (by decide)]; exact r9, r10⟩, ⟨by rw [rR]; exact q2, by rw [z.2.2.1]; exact q3, by rw [z.2.2.2.1]; exact q4⟩, ?_, fun k hk => ?_, q7⟩
  · unfold acW
    rw [hI_sI, u2_s, List.length_append, List.length_singleton]
  · rw [List.length_append, List.length_singleton] at hk
    have e : hR (acW h R C chs.length) (R + 2) k = if k = chs.length then some C else hR h (R + 2) k := by
      unfold acW
      rw [hR_sI, hR_sR]
      by_cases y : k = chs.length
      · rw [y, u2_s, if_pos rfl]
      · rw [u2_n (Or.inr y), if_neg y]
    by_cases y : k = chs.length
    · subst y
      rw [if_pos rfl] at e
      refine ⟨C, e, ?_⟩
      rw [show (chs ++ [ch]).getD chs.length [] = ch by simp]
      exact ccx cc
    · rw [if_neg y] at e
      obtain ⟨C', c1, c2⟩ := q6 k (by omega)
      refine ⟨C', e.trans c1, ?_⟩
      rw [show (chs ++ [ch]).getD k [] = chs.getD k [] by rw [List.getD_eq_getElem?_getD, List.getD_eq_getElem?_getD, List.getElem?_append_left (by omega)]]
      exact ccx c2
/-- a new RULE of the SIGNS that were read -/
theorem e_newRule {h : AH} {D TP U : Nat} {tp nm : List Nat} {ms : Ms} {a : Nat} (q : RdQ h D TP U tp nm ms a 0) {hd : List Nat} {pl : Nat} (sg : ∀ i, i < hd.length → hI h (D + 2) i = nI (cs nm (hd.getD i 0))) (hrow : ∀ x ∈ hd, SG x ∧ (cap x = true → x ∈ nm)) (h6 : hd.length ≤ 6) : wpe (kN 7 5 d_Rule_init [vR (kS (d_Arrays_copyOfI 40) [vR (eh1 (gR 5 4) (lR 0)), vI (lI 2)])]) [.ref D, .int (nI pl), .int (nI hd.length), jk, jk, jk] h (fun x h' => x = some (hN h) ∧ RuP h' (hN h) nm hd [] ∧ Fx (fun _ => False) 4 21 h h' ∧ WF h') := by
  have wf := q.2.2.2.2.2.2.2
  have up := q.2.2.2.2.2.2.1
  have n26 := caps_le up.2.2.1 up.2.2.2.1
  have tD := q.1.1
  have r4 := q.1.2.1
  have lD : D < hN h := wf D (by rw [tD]; decide)
  have lD2 : D + 2 < hN h := wf _ (by rw [r4.2.1]; decide)
  have wf0 : WF (nw h 7 0 5) := WF_nw wf
  have fx0 := fx_nw (h := h) (t := 7) (n := 0) (u := 5)
  have hn0 : hN (nw h 7 0 5) = hN h + 1 := rfl
  have k0 := fx0.2.2 D lD
  have k2 := fx0.2.2 (D + 2) lD2
  have tn0 : hT (nw h 7 0 5) (hN h) = 7 := by rw [hT_nw, vu_s]
  have in0 : hI (nw h 7 0 5) (hN h) 4 = nI 0 := by rw [hI_nw, vu_s]; rfl
  rw [e_kN]
  generalize nw h 7 0 5 = h0 at *
  have t2 : hT h0 (D + 2) = 26 := k2.1.trans r4.2.1
  obtain ⟨h1, e1, c1, c2, c3, fx1, wf1⟩ := q_copyI (h := h0) (a := D + 2) (n := hd.length) (m := 6) (t := 40) wf0 (by rw [t2]; rfl) rfl (by rw [t2]; decide) (k2.2.1.trans r4.2.2) (by decide) h6
  rw [hn0] at e1 c1 c2 c3
  have hn1 : hN h1 = hN h + 2 := by
    have := wf1 _ (by rw [c1]; decide)
    have := fx1.1
    omega
  have kR := fx1.2.2 (hN h) (by omega)
  have sR' := kR.2.2 (fun y => y)
  have tD0 : hT h0 D = 5 := k0.1.trans tD
  have r40 : hR h0 D 4 = some (D + 2) := by rw [(k0.2.2 (fun y => y)).2.2]; exact r4.1
  obtain ⟨h2, e2, ru, fx2, wf2⟩ := q_newRule (h := h1) (R := hN h) (sg := hN h + 1) (nm := nm) (hd := hd) wf1 (kR.1.trans tn0) c1 ⟨by rw [c1]; rfl, c2, fun i hi => by rw [c3 i hi, (k2.2.2 (fun y => y)).1]; exact sg i hi⟩ hrow n26 h6 hn1 (by rw [sR'.1]; exact in0)
  simp (disch := omega) only [m_mth, s_sk, s_brk, s_cnt, s_sq, s_if, s_rtn, s_rtnU, s_E, s_I1, s_R1, s_J1, s_Inc, s_h2, s_h3, s_u2, s_u3, e_C, e_h1, e_h2, e_lI, e_lJ, e_lR, e_if, e_and, e_or, e_not, a_nil, a_I, a_J, a_R, e_kS, e_kV, e_kN, e_nA, ok_some, ok_none, ok_bind, ok_guard, ok_guardN, asI_int, asJ_long, asR_ref, asR_rf, asR_null, entL, ent, sto, sto2, ok1, Value.category, va_rf, List.length_cons, List.length_nil, List.length_append, List.length_replicate, List.nil_append, List.cons_append, List.append_nil, List.replicate_succ, List.replicate_zero, List.getElem?_cons_zero, List.getElem?_cons_succ, List.set_cons_zero, List.set_cons_succ, gI, gJ, gR, pI, pJ, pR, aI, aJ, aR, aL, stI, stB, stZ, stJ, uF, uA, Option.bind_some, iaddF, isubF, imulF, iandF, iorF, ixorF, ishlF, ishrF, iushrF, inegF, i2bF, i2lF, l2iF, c_eq, c_ne, c_lt, c_le, c_gt, c_ge, z_eq, z_ne, z_lt, z_le, z_gt, z_ge, j_eq, j_ne, j_gt, n_nul, n_non, tt, zz, hN_u, hU_u, hT_u, hL_u, hI_u, hJ_u, hR_u, sI_u, decide_eq_true_eq, true_and, and_true, if_true, reduceIte, beq_self_eq_true, Bool.true_or, Bool.and_self, Nat.reduceAdd, Nat.reduceSub, Nat.reduceLT, Nat.reduceLeDiff, Nat.reduceBEq, Nat.reduceEqDiff, Bool.or_true, Bool.false_or, List.mem_cons, List.mem_singleton, true_or, or_true, mh_N, mh_U, mh_T, mh_L, mh_R, mh_J, mh_0, mh_s0, mh_I, mh_s, sa_20, sa_21, sa_22, sa_23, sa_24, sa_25, sa_26, sa_27, sa_28, sa_29, sa_30, sa_31, sa_32, sa_33, sa_34, sa_35, sa_36, sa_37, sa_38, sa_39, sa_40, sa_41, sa_42, sa_43, sa_44, sa_45, sa_46, sa_47, sa_48, sa_49, sa_50, sa_51, sa_52, sa_70, sa_71, sa_72, sa_73, sa_74, sa_75, sa_76, sa_77, sa_78, sa_79, sa_80, sa_81, sa_82, sa_83, sa_84, sa_85, sa_86, sa_87, sa_88, sa_89, sa_90, sa_91, sa_92, sa_93, sa_94, sa_95, sa_96, sa_97, sa_98, sa_99, sa_100, sa_101, decide_eq_false_iff_not, s_obj, e_cl, s_ar, e_st, stO, stA, lshrF, lshlF, lorF, landF, lsubF, a_eq, a_ne, ov_N, ov_U, ov_T, ov_L, ov_I, ov_I0, ov_J, ov_J0, ov_R, ov_R0, ov_sI, ov_sI0, ov_sJ, ov_sJ0, ov_sR, ov_sR0, sa_53, sa_54, tD0, r40, wpm_eq e1, wpm_eq e2]
  refine ⟨ru, ?_, wf2⟩
  have fA : Fx (fun x => x = hN h) (1 + 1 + 2) (5 + hd.length + (4 + hd.length)) h h2 := ((fx0.w (fun _ _ (y : False) => y.elim) (Nat.le_refl _) (Nat.le_refl _)).tr (fx1.w (fun _ _ (y : False) => y.elim) (Nat.le_refl _) (Nat.le_refl _))).tr fx2
  exact fA.w (fun x hx (e : x = hN h) => by omega) (by omega) (by omega)
