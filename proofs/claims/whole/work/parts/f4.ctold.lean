/-! ===== the class: what is told, counted ===== -/
def cb (t i : Nat) : Nat := if t.testBit i = true then 1 else 0
def cnB (t : Nat) : Nat → Nat
  | 0 => 0
  | n + 1 => cnB t n + cb t n
theorem cnB_len (t : Nat) : ∀ n, ((List.range n).filter (fun q => t.testBit q)).length = cnB t n
  | 0 => rfl
  | n + 1 => by
    rw [List.range_succ, List.filter_append, List.length_append, cnB_len t n]
    unfold cnB cb
    by_cases z : t.testBit n = true
    · rw [if_pos z, List.filter_cons_of_pos z]; cases n <;> rfl
    · rw [if_neg z, List.filter_cons_of_neg z]; cases n <;> rfl
theorem p8_cb (t j : Nat) : p8 (t / 2 ^ j) = cb t (j + 0) + cb t (j + 1) + cb t (j + 2) + cb t (j + 3) + cb t (j + 4) + cb t (j + 5) + cb t (j + 6) + cb t (j + 7) := by
  have e : ∀ i, i < 8 → t / 2 ^ j % 256 / 2 ^ i % 2 = cb t (j + i) := fun i hi => by
    unfold cb
    rw [tb_val, show (256 : Nat) = 2 ^ 8 by decide, Nat.testBit_mod_two_pow, Nat.testBit_div_two_pow, decide_eq_true hi, Bool.true_and, Nat.add_comm]
  unfold p8
  rw [e 0 (by decide), e 1 (by decide), e 2 (by decide), e 3 (by decide), e 4 (by decide), e 5 (by decide), e 6 (by decide), e 7 (by decide)]
theorem pop_cnt (t : Nat) : p8 t + p8 (t / 256) + p8 (t / 65536) + p8 (t / 16777216) = cnB t 32 := by
  have e0 := p8_cb t 0
  have e1 := p8_cb t 8
  have e2 := p8_cb t 16
  have e3 := p8_cb t 24
  rw [Nat.pow_zero, Nat.div_one] at e0
  rw [e0, show p8 (t / 256) = _ from e1, show p8 (t / 65536) = _ from e2, show p8 (t / 16777216) = _ from e3]
  simp only [cnB, Nat.reduceAdd, Nat.zero_add, Nat.add_zero]
  simp only [Nat.add_assoc]
theorem sub_le : ∀ (l1 l2 : List Nat), l1.Nodup → (∀ x ∈ l1, x ∈ l2) → l1.length ≤ l2.length
  | [], l2, _, _ => Nat.zero_le _
  | a :: l1, l2, hn, hs => by
    have ha := hs a (List.mem_cons_self ..)
    have hn' := List.nodup_cons.mp hn
    have := sub_le l1 (l2.erase a) hn'.2 (fun x hx => (List.mem_erase_of_ne (fun e => hn'.1 (by rw [← e]; exact hx))).mpr (hs x (List.mem_cons_of_mem _ hx)))
    rw [List.length_erase_of_mem ha] at this
    have : 0 < l2.length := List.length_pos_of_mem ha
    rw [List.length_cons]
    omega
theorem told_len {t : Nat} {nm : List Nat} {ms : Ms} (hb : Bt t 26 (fun q => q < nm.length ∧ nm.getD q 0 ∈ nmL ms)) (nn : nm.Nodup) (nd : (nmL ms).Nodup) (hs : ∀ c ∈ nmL ms, c ∈ nm) : cnB t 32 = ms.length := by
  rw [← cnB_len, ← nmL_len]
  apply Nat.le_antisymm
  · have := sub_le (((List.range 32).filter (fun q => t.testBit q)).map (fun q => nm.getD q 0)) (nmL ms) (by
      rw [List.nodup_iff_pairwise_ne, List.pairwise_map]
      refine List.Pairwise.imp_of_mem ?_ (List.nodup_iff_pairwise_ne.mp (List.Nodup.sublist List.filter_sublist List.nodup_range))
      intro a b ha hb' hab e
      have h1 := (hb.2 a).mp (List.mem_filter.mp ha).2
      have h2 := (hb.2 b).mp (List.mem_filter.mp hb').2
      have := congrArg nm.idxOf e
      rw [get_idx nn h1.1, get_idx nn h2.1] at this
      exact hab this) (fun x hx => by
      obtain ⟨q, q1, q2⟩ := List.mem_map.mp hx
      rw [← q2]
      exact ((hb.2 q).mp (List.mem_filter.mp q1).2).2)
    rw [List.length_map] at this
    exact this
  · have := sub_le ((nmL ms).map (fun c => nm.idxOf c)) ((List.range 32).filter (fun q => t.testBit q)) (by
      rw [List.nodup_iff_pairwise_ne, List.pairwise_map]
      refine List.Pairwise.imp_of_mem ?_ (List.nodup_iff_pairwise_ne.mp nd)
      intro a b ha hb' hab e
      have this : nm.getD (nm.idxOf a) 0 = nm.getD (nm.idxOf b) 0 := by rw [show nm.idxOf a = nm.idxOf b from e]
      rw [idx_get (hs a ha), idx_get (hs b hb')] at this
      exact hab this) (fun x hx => by
      obtain ⟨c, c1, c2⟩ := List.mem_map.mp hx
      have hP : x < nm.length ∧ nm.getD x 0 ∈ nmL ms := by
        rw [← c2]
        exact ⟨List.idxOf_lt_length_iff.mpr (hs c c1), by rw [idx_get (hs c c1)]; exact c1⟩
      have l26 := Bt_lt hb hP
      exact List.mem_filter.mpr ⟨List.mem_range.mpr (by omega), (hb.2 x).mpr hP⟩)
    rw [List.length_map] at this
    exact this
theorem q_toldMany {h : AH} {U : Nat} {nm : List Nat} {ms : Ms} (q : UpP h U nm ms) (nd : (nmL ms).Nodup) : d_Upper_toldMany [.ref U] h = some (nI ms.length, h) := by
  obtain ⟨t, t1, t2⟩ := q.2.1
  have tU := q.1.1.1
  have e := bc_pop (t := t) (Nat.lt_trans t2.1 (by decide))
  rw [pop_cnt, told_len t2 q.2.2.1 nd q.2.2.2.2.1] at e
  refine wpm_to ?_
  unfold d_Upper_toldMany
  (rw [m_mth]; refine ⟨by simp only [m_mth, s_sk, s_brk, s_cnt, s_sq, s_if, s_rtn, s_rtnU, s_E, s_I1, s_R1, s_J1, s_Inc, s_h2, s_h3, s_u2, s_u3, e_C, e_h1, e_h2, e_lI, e_lJ, e_lR, e_if, e_and, e_or, e_not, a_nil, a_I, a_J, a_R, e_kS, e_kV, e_kN, e_nA, ok_some, ok_none, ok_bind, ok_guard, ok_guardN, asI_int, asJ_long, asR_ref, asR_rf, asR_null, entL, ent, sto, sto2, ok1, Value.category, va_rf, List.length_cons, List.length_nil, List.length_append, List.length_replicate, List.nil_append, List.cons_append, List.append_nil, List.replicate_succ, List.replicate_zero, List.getElem?_cons_zero, List.getElem?_cons_succ, List.set_cons_zero, List.set_cons_succ, gI, gJ, gR, pI, pJ, pR, aI, aJ, aR, aL, stI, stB, stZ, stJ, uF, uA, Option.bind_some, iaddF, isubF, imulF, iandF, iorF, ixorF, ishlF, ishrF, iushrF, inegF, i2bF, i2lF, l2iF, c_eq, c_ne, c_lt, c_le, c_gt, c_ge, z_eq, z_ne, z_lt, z_le, z_gt, z_ge, j_eq, j_ne, j_gt, n_nul, n_non, tt, zz, hN_u, hU_u, hT_u, hL_u, hI_u, hJ_u, hR_u, sI_u, decide_eq_true_eq, true_and, and_true, if_true, reduceIte, beq_self_eq_true, Bool.true_or, Bool.and_self, Nat.reduceAdd, Nat.reduceSub, Nat.reduceLT, Nat.reduceLeDiff, Nat.reduceBEq, Nat.reduceEqDiff, Bool.or_true, Bool.false_or, List.mem_cons, List.mem_singleton, true_or, or_true, mh_N, mh_U, mh_T, mh_L, mh_R, mh_J, mh_0, mh_s0, mh_I, mh_s, sa_20, sa_21, sa_22, sa_23, sa_24, sa_25, sa_26, sa_27, sa_28, sa_29, sa_30, sa_31, sa_32, sa_33, sa_34, sa_35, sa_36, sa_37, sa_38, sa_39, sa_40, sa_41, sa_42, sa_43, sa_44, sa_45, sa_46, sa_47, sa_48, sa_49, sa_50, sa_51, sa_52, sa_70, sa_71, sa_72, sa_73, sa_74, sa_75, sa_76, sa_77, sa_78, sa_79, sa_80, sa_81, sa_82, sa_83, sa_84, sa_85, sa_86, sa_87, sa_88, sa_89, sa_90, sa_91, sa_92, sa_93, sa_94, sa_95, sa_96, sa_97, sa_98, sa_99, sa_100, sa_101, decide_eq_false_iff_not, s_obj, e_cl, s_ar, e_st, stO, stA, lshrF, lshlF, lorF, landF, lsubF, a_eq, a_ne, ov_N, ov_U, ov_T, ov_L, ov_I, ov_I0, ov_J, ov_J0, ov_R, ov_R0, ov_sI, ov_sI0, ov_sJ, ov_sJ0, ov_sR, ov_sR0, sa_53, sa_54], ?_⟩; simp only [entL, ent, Value.category, List.length_cons, List.length_nil, Nat.reduceAdd, Nat.reduceSub, List.replicate_succ, List.replicate_zero, List.cons_append, List.nil_append, Nat.reduceBEq, Bool.false_eq_true, if_false, beq_self_eq_true, if_true, reduceIte])
  simp (disch := omega) only [m_mth, s_sk, s_brk, s_cnt, s_sq, s_if, s_rtn, s_rtnU, s_E, s_I1, s_R1, s_J1, s_Inc, s_h2, s_h3, s_u2, s_u3, e_C, e_h1, e_h2, e_lI, e_lJ, e_lR, e_if, e_and, e_or, e_not, a_nil, a_I, a_J, a_R, e_kS, e_kV, e_kN, e_nA, ok_some, ok_none, ok_bind, ok_guard, ok_guardN, asI_int, asJ_long, asR_ref, asR_rf, asR_null, entL, ent, sto, sto2, ok1, Value.category, va_rf, List.length_cons, List.length_nil, List.length_append, List.length_replicate, List.nil_append, List.cons_append, List.append_nil, List.replicate_succ, List.replicate_zero, List.getElem?_cons_zero, List.getElem?_cons_succ, List.set_cons_zero, List.set_cons_succ, gI, gJ, gR, pI, pJ, pR, aI, aJ, aR, aL, stI, stB, stZ, stJ, uF, uA, Option.bind_some, iaddF, isubF, imulF, iandF, iorF, ixorF, ishlF, ishrF, iushrF, inegF, i2bF, i2lF, l2iF, c_eq, c_ne, c_lt, c_le, c_gt, c_ge, z_eq, z_ne, z_lt, z_le, z_gt, z_ge, j_eq, j_ne, j_gt, n_nul, n_non, tt, zz, hN_u, hU_u, hT_u, hL_u, hI_u, hJ_u, hR_u, sI_u, decide_eq_true_eq, true_and, and_true, if_true, reduceIte, beq_self_eq_true, Bool.true_or, Bool.and_self, Nat.reduceAdd, Nat.reduceSub, Nat.reduceLT, Nat.reduceLeDiff, Nat.reduceBEq, Nat.reduceEqDiff, Bool.or_true, Bool.false_or, List.mem_cons, List.mem_singleton, true_or, or_true, mh_N, mh_U, mh_T, mh_L, mh_R, mh_J, mh_0, mh_s0, mh_I, mh_s, sa_20, sa_21, sa_22, sa_23, sa_24, sa_25, sa_26, sa_27, sa_28, sa_29, sa_30, sa_31, sa_32, sa_33, sa_34, sa_35, sa_36, sa_37, sa_38, sa_39, sa_40, sa_41, sa_42, sa_43, sa_44, sa_45, sa_46, sa_47, sa_48, sa_49, sa_50, sa_51, sa_52, sa_70, sa_71, sa_72, sa_73, sa_74, sa_75, sa_76, sa_77, sa_78, sa_79, sa_80, sa_81, sa_82, sa_83, sa_84, sa_85, sa_86, sa_87, sa_88, sa_89, sa_90, sa_91, sa_92, sa_93, sa_94, sa_95, sa_96, sa_97, sa_98, sa_99, sa_100, sa_101, decide_eq_false_iff_not, s_obj, e_cl, s_ar, e_st, stO, stA, lshrF, lshlF, lorF, landF, lsubF, a_eq, a_ne, ov_N, ov_U, ov_T, ov_L, ov_I, ov_I0, ov_J, ov_J0, ov_R, ov_R0, ov_sI, ov_sI0, ov_sJ, ov_sJ0, ov_sR, ov_sR0, sa_53, sa_54, tU, t1, wpm_eq (q_bitCount _), e]
theorem q_isTold {h : AH} {U c : Nat} {nm : List Nat} {ms : Ms} (q : UpP h U nm ms) (hc : 65 ≤ c ∧ c ≤ 90) (hm : c ∈ nm) : d_Upper_isTold [.ref U, .int (nI (cs nm c))] h = some (bI (decide (c ∈ nmL ms)), h) := by
  obtain ⟨t, t1, t2⟩ := q.2.1
  have tU := q.1.1.1
  have n26 := caps_le q.2.2.1 q.2.2.2.1
  have eb := q_bitOf (h := h) (nm := nm) (c := c) (Or.inr hc) (fun _ => hm) n26
  have ba := Bt_and t2 (sbt_Bt (c := c) (fun _ => hm) n26)
  have hz := Bt_z ba
  have hcap : cap c = true := cap_iff.mpr hc
  have key : t &&& sbt nm c = 0 ↔ c ∉ nmL ms := by
    rw [hz]
    constructor
    · intro w y
      exact w (nm.idxOf c) ⟨⟨List.idxOf_lt_length_iff.mpr hm, by rw [idx_get hm]; exact y⟩, hcap, rfl⟩
    · rintro w x ⟨⟨_, y1⟩, _, y2⟩
      rw [← y2, idx_get hm] at y1
      exact w y1
  have lt := ba.1
  refine wpm_to ?_
  unfold d_Upper_isTold
  (rw [m_mth]; refine ⟨by simp only [m_mth, s_sk, s_brk, s_cnt, s_sq, s_if, s_rtn, s_rtnU, s_E, s_I1, s_R1, s_J1, s_Inc, s_h2, s_h3, s_u2, s_u3, e_C, e_h1, e_h2, e_lI, e_lJ, e_lR, e_if, e_and, e_or, e_not, a_nil, a_I, a_J, a_R, e_kS, e_kV, e_kN, e_nA, ok_some, ok_none, ok_bind, ok_guard, ok_guardN, asI_int, asJ_long, asR_ref, asR_rf, asR_null, entL, ent, sto, sto2, ok1, Value.category, va_rf, List.length_cons, List.length_nil, List.length_append, List.length_replicate, List.nil_append, List.cons_append, List.append_nil, List.replicate_succ, List.replicate_zero, List.getElem?_cons_zero, List.getElem?_cons_succ, List.set_cons_zero, List.set_cons_succ, gI, gJ, gR, pI, pJ, pR, aI, aJ, aR, aL, stI, stB, stZ, stJ, uF, uA, Option.bind_some, iaddF, isubF, imulF, iandF, iorF, ixorF, ishlF, ishrF, iushrF, inegF, i2bF, i2lF, l2iF, c_eq, c_ne, c_lt, c_le, c_gt, c_ge, z_eq, z_ne, z_lt, z_le, z_gt, z_ge, j_eq, j_ne, j_gt, n_nul, n_non, tt, zz, hN_u, hU_u, hT_u, hL_u, hI_u, hJ_u, hR_u, sI_u, decide_eq_true_eq, true_and, and_true, if_true, reduceIte, beq_self_eq_true, Bool.true_or, Bool.and_self, Nat.reduceAdd, Nat.reduceSub, Nat.reduceLT, Nat.reduceLeDiff, Nat.reduceBEq, Nat.reduceEqDiff, Bool.or_true, Bool.false_or, List.mem_cons, List.mem_singleton, true_or, or_true, mh_N, mh_U, mh_T, mh_L, mh_R, mh_J, mh_0, mh_s0, mh_I, mh_s, sa_20, sa_21, sa_22, sa_23, sa_24, sa_25, sa_26, sa_27, sa_28, sa_29, sa_30, sa_31, sa_32, sa_33, sa_34, sa_35, sa_36, sa_37, sa_38, sa_39, sa_40, sa_41, sa_42, sa_43, sa_44, sa_45, sa_46, sa_47, sa_48, sa_49, sa_50, sa_51, sa_52, sa_70, sa_71, sa_72, sa_73, sa_74, sa_75, sa_76, sa_77, sa_78, sa_79, sa_80, sa_81, sa_82, sa_83, sa_84, sa_85, sa_86, sa_87, sa_88, sa_89, sa_90, sa_91, sa_92, sa_93, sa_94, sa_95, sa_96, sa_97, sa_98, sa_99, sa_100, sa_101, decide_eq_false_iff_not, s_obj, e_cl, s_ar, e_st, stO, stA, lshrF, lshlF, lorF, landF, lsubF, a_eq, a_ne, ov_N, ov_U, ov_T, ov_L, ov_I, ov_I0, ov_J, ov_J0, ov_R, ov_R0, ov_sI, ov_sI0, ov_sJ, ov_sJ0, ov_sR, ov_sR0, sa_53, sa_54], ?_⟩; simp only [entL, ent, Value.category, List.length_cons, List.length_nil, Nat.reduceAdd, Nat.reduceSub, List.replicate_succ, List.replicate_zero, List.cons_append, List.nil_append, Nat.reduceBEq, Bool.false_eq_true, if_false, beq_self_eq_true, if_true, reduceIte])
  by_cases z : c ∈ nmL ms
  · have nz : ¬ nI (t &&& sbt nm c) = 0 := by rw [← nI_0]; exact nIne (by omega) (by decide) (fun w => key.mp w z)
    rw [decide_eq_true z]
    simp (disch := omega) only [m_mth, s_sk, s_brk, s_cnt, s_sq, s_if, s_rtn, s_rtnU, s_E, s_I1, s_R1, s_J1, s_Inc, s_h2, s_h3, s_u2, s_u3, e_C, e_h1, e_h2, e_lI, e_lJ, e_lR, e_if, e_and, e_or, e_not, a_nil, a_I, a_J, a_R, e_kS, e_kV, e_kN, e_nA, ok_some, ok_none, ok_bind, ok_guard, ok_guardN, asI_int, asJ_long, asR_ref, asR_rf, asR_null, entL, ent, sto, sto2, ok1, Value.category, va_rf, List.length_cons, List.length_nil, List.length_append, List.length_replicate, List.nil_append, List.cons_append, List.append_nil, List.replicate_succ, List.replicate_zero, List.getElem?_cons_zero, List.getElem?_cons_succ, List.set_cons_zero, List.set_cons_succ, gI, gJ, gR, pI, pJ, pR, aI, aJ, aR, aL, stI, stB, stZ, stJ, uF, uA, Option.bind_some, iaddF, isubF, imulF, iandF, iorF, ixorF, ishlF, ishrF, iushrF, inegF, i2bF, i2lF, l2iF, c_eq, c_ne, c_lt, c_le, c_gt, c_ge, z_eq, z_ne, z_lt, z_le, z_gt, z_ge, j_eq, j_ne, j_gt, n_nul, n_non, tt, zz, hN_u, hU_u, hT_u, hL_u, hI_u, hJ_u, hR_u, sI_u, decide_eq_true_eq, true_and, and_true, if_true, reduceIte, beq_self_eq_true, Bool.true_or, Bool.and_self, Nat.reduceAdd, Nat.reduceSub, Nat.reduceLT, Nat.reduceLeDiff, Nat.reduceBEq, Nat.reduceEqDiff, Bool.or_true, Bool.false_or, List.mem_cons, List.mem_singleton, true_or, or_true, mh_N, mh_U, mh_T, mh_L, mh_R, mh_J, mh_0, mh_s0, mh_I, mh_s, sa_20, sa_21, sa_22, sa_23, sa_24, sa_25, sa_26, sa_27, sa_28, sa_29, sa_30, sa_31, sa_32, sa_33, sa_34, sa_35, sa_36, sa_37, sa_38, sa_39, sa_40, sa_41, sa_42, sa_43, sa_44, sa_45, sa_46, sa_47, sa_48, sa_49, sa_50, sa_51, sa_52, sa_70, sa_71, sa_72, sa_73, sa_74, sa_75, sa_76, sa_77, sa_78, sa_79, sa_80, sa_81, sa_82, sa_83, sa_84, sa_85, sa_86, sa_87, sa_88, sa_89, sa_90, sa_91, sa_92, sa_93, sa_94, sa_95, sa_96, sa_97, sa_98, sa_99, sa_100, sa_101, decide_eq_false_iff_not, s_obj, e_cl, s_ar, e_st, stO, stA, lshrF, lshlF, lorF, landF, lsubF, a_eq, a_ne, ov_N, ov_U, ov_T, ov_L, ov_I, ov_I0, ov_J, ov_J0, ov_R, ov_R0, ov_sI, ov_sI0, ov_sJ, ov_sJ0, ov_sR, ov_sR0, sa_53, sa_54, tU, t1, wpm_eq eb, y_and, nz, not_false_eq_true, decide_true, bI]
    decide
  · have nz : nI (t &&& sbt nm c) = 0 := by rw [key.mpr z]; exact nI_0
    rw [decide_eq_false z]
    simp (disch := omega) only [m_mth, s_sk, s_brk, s_cnt, s_sq, s_if, s_rtn, s_rtnU, s_E, s_I1, s_R1, s_J1, s_Inc, s_h2, s_h3, s_u2, s_u3, e_C, e_h1, e_h2, e_lI, e_lJ, e_lR, e_if, e_and, e_or, e_not, a_nil, a_I, a_J, a_R, e_kS, e_kV, e_kN, e_nA, ok_some, ok_none, ok_bind, ok_guard, ok_guardN, asI_int, asJ_long, asR_ref, asR_rf, asR_null, entL, ent, sto, sto2, ok1, Value.category, va_rf, List.length_cons, List.length_nil, List.length_append, List.length_replicate, List.nil_append, List.cons_append, List.append_nil, List.replicate_succ, List.replicate_zero, List.getElem?_cons_zero, List.getElem?_cons_succ, List.set_cons_zero, List.set_cons_succ, gI, gJ, gR, pI, pJ, pR, aI, aJ, aR, aL, stI, stB, stZ, stJ, uF, uA, Option.bind_some, iaddF, isubF, imulF, iandF, iorF, ixorF, ishlF, ishrF, iushrF, inegF, i2bF, i2lF, l2iF, c_eq, c_ne, c_lt, c_le, c_gt, c_ge, z_eq, z_ne, z_lt, z_le, z_gt, z_ge, j_eq, j_ne, j_gt, n_nul, n_non, tt, zz, hN_u, hU_u, hT_u, hL_u, hI_u, hJ_u, hR_u, sI_u, decide_eq_true_eq, true_and, and_true, if_true, reduceIte, beq_self_eq_true, Bool.true_or, Bool.and_self, Nat.reduceAdd, Nat.reduceSub, Nat.reduceLT, Nat.reduceLeDiff, Nat.reduceBEq, Nat.reduceEqDiff, Bool.or_true, Bool.false_or, List.mem_cons, List.mem_singleton, true_or, or_true, mh_N, mh_U, mh_T, mh_L, mh_R, mh_J, mh_0, mh_s0, mh_I, mh_s, sa_20, sa_21, sa_22, sa_23, sa_24, sa_25, sa_26, sa_27, sa_28, sa_29, sa_30, sa_31, sa_32, sa_33, sa_34, sa_35, sa_36, sa_37, sa_38, sa_39, sa_40, sa_41, sa_42, sa_43, sa_44, sa_45, sa_46, sa_47, sa_48, sa_49, sa_50, sa_51, sa_52, sa_70, sa_71, sa_72, sa_73, sa_74, sa_75, sa_76, sa_77, sa_78, sa_79, sa_80, sa_81, sa_82, sa_83, sa_84, sa_85, sa_86, sa_87, sa_88, sa_89, sa_90, sa_91, sa_92, sa_93, sa_94, sa_95, sa_96, sa_97, sa_98, sa_99, sa_100, sa_101, decide_eq_false_iff_not, s_obj, e_cl, s_ar, e_st, stO, stA, lshrF, lshlF, lorF, landF, lsubF, a_eq, a_ne, ov_N, ov_U, ov_T, ov_L, ov_I, ov_I0, ov_J, ov_J0, ov_R, ov_R0, ov_sI, ov_sI0, ov_sJ, ov_sJ0, ov_sR, ov_sR0, sa_53, sa_54, tU, t1, wpm_eq eb, y_and, nz, not_true_eq_false, decide_false, Bool.false_eq_true, if_false, bI]
    decide
