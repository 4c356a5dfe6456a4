/-! ===== new objects: the parts of the first heap ===== -/
/-- a field is set to what was made -/
theorem ob_at {h hX : AH} {O k n u : Nat} {v : Option Nat} (z : Fx (fun _ => False) n u h hX) (lO : O < hN h) (wX : WF hX) : Fx (fun x => x = O) n u h (sR hX O k v) ∧ (∀ j, hR (sR hX O k v) O j = if j = k then v else hR h O j) ∧ hI (sR hX O k v) O = hI h O ∧ hJ (sR hX O k v) O = hJ h O ∧ (∀ a, a ≠ O → Sm hX (sR hX O k v) a) ∧ WF (sR hX O k v) := by
  have c := (z.2.2 O lO).2.2 (fun y => y)
  refine ⟨((z.w (A' := fun x => x = O) (fun _ _ y => y.elim) (Nat.le_refl _) (Nat.le_refl _)).tr (Fz_sR (A := fun x => x = O) rfl).fx).w (fun _ _ y => y) (by omega) (by omega), fun j => ?_, c.1, c.2.1, fun a ha => (Fz_sR (A := fun x => x = O) rfl).2.2.2.2 a ha, wX⟩
  rw [hR_sR]
  by_cases e : j = k
  · rw [e, u2_s, if_pos rfl]
  · rw [u2_n (Or.inr e), if_neg e, c.2.2]
theorem nw_at {h : AH} {s n : Nat} : hT (nw h s n n) (hN h) = s ∧ hL (nw h s n n) (hN h) = n ∧ (∀ j, hI (nw h s n n) (hN h) j = nI 0) ∧ (∀ j, hR (nw h s n n) (hN h) j = none) ∧ hN (nw h s n n) = hN h + 1 := by
  refine ⟨?_, ?_, fun j => ?_, fun j => ?_, ?_⟩
  all_goals simp (disch := omega) only [hN_sI, hU_sI, hT_sI, hL_sI, hI_sI, hJ_sI, hR_sI, hN_sJ, hU_sJ, hT_sJ, hL_sJ, hI_sJ, hJ_sJ, hR_sJ, hN_sR, hU_sR, hT_sR, hL_sR, hI_sR, hJ_sR, hR_sR, hN_nw, hU_nw, hT_nw, hL_nw, hI_nw, hJ_nw, hR_nw, vu_s]
  all_goals first | rfl | omega
theorem s_mk {ρ : Type} {σ : List Value} {h : AH} {O t k s n : Nat} {N B C : List Value → AH → Prop} {R : ρ → AH → Prop} (s0 : σ[0]? = some (.ref O)) (tO : hT h O = t) (lO : O < hN h) (hn : n ≤ 20000) (kk : N σ (sR (nw h s n n) O k (some (hN h)))) : wps (sh2 (pR t k) (lR 0) (nA s (eC (nI n)))) σ h N B C R := by
  have t1 : hT (nw h s n n) O = t := by rw [hT_nw, vu_n (by omega)]; exact tO
  refine s_h2.mpr (wpe_to (some O) h ?_ ?_)
  · rw [e_lR, s0]
    simp only [ok_some, asR_ref, and_self]
  simp (disch := omega) only [m_mth, s_sk, s_brk, s_cnt, s_sq, s_if, s_rtn, s_rtnU, s_E, s_I1, s_R1, s_J1, s_Inc, s_h2, s_h3, s_u2, s_u3, e_C, e_h1, e_h2, e_lI, e_lJ, e_lR, e_if, e_and, e_or, e_not, a_nil, a_I, a_J, a_R, e_kS, e_kV, e_kN, e_nA, ok_some, ok_none, ok_bind, ok_guard, ok_guardN, asI_int, asJ_long, asR_ref, asR_rf, asR_null, entL, ent, sto, sto2, ok1, Value.category, va_rf, List.length_cons, List.length_nil, List.length_append, List.length_replicate, List.nil_append, List.cons_append, List.append_nil, List.replicate_succ, List.replicate_zero, List.getElem?_cons_zero, List.getElem?_cons_succ, List.set_cons_zero, List.set_cons_succ, gI, gJ, gR, pI, pJ, pR, aI, aJ, aR, aL, stI, stB, stZ, stJ, uF, uA, Option.bind_some, iaddF, isubF, imulF, iandF, iorF, ixorF, ishlF, ishrF, iushrF, inegF, i2bF, i2lF, l2iF, c_eq, c_ne, c_lt, c_le, c_gt, c_ge, z_eq, z_ne, z_lt, z_le, z_gt, z_ge, j_eq, j_ne, j_gt, n_nul, n_non, tt, zz, hN_u, hU_u, hT_u, hL_u, hI_u, hJ_u, hR_u, sI_u, decide_eq_true_eq, true_and, and_true, if_true, reduceIte, beq_self_eq_true, Bool.true_or, Bool.and_self, Nat.reduceAdd, Nat.reduceSub, Nat.reduceLT, Nat.reduceLeDiff, Nat.reduceBEq, Nat.reduceEqDiff, Bool.or_true, Bool.false_or, List.mem_cons, List.mem_singleton, true_or, or_true, mh_N, mh_U, mh_T, mh_L, mh_R, mh_J, mh_0, mh_s0, mh_I, mh_s, sa_20, sa_21, sa_22, sa_23, sa_24, sa_25, sa_26, sa_27, sa_28, sa_29, sa_30, sa_31, sa_32, sa_33, sa_34, sa_35, sa_36, sa_37, sa_38, sa_39, sa_40, sa_41, sa_42, sa_43, sa_44, sa_45, sa_46, sa_47, sa_48, sa_49, sa_50, sa_51, sa_52, sa_70, sa_71, sa_72, sa_73, sa_74, sa_75, sa_76, sa_77, sa_78, sa_79, sa_80, sa_81, sa_82, sa_83, sa_84, sa_85, sa_86, sa_87, sa_88, sa_89, sa_90, sa_91, sa_92, sa_93, sa_94, sa_95, sa_96, sa_97, sa_98, sa_99, sa_100, sa_101, decide_eq_false_iff_not, s_obj, e_cl, s_ar, e_st, stO, stA, lshrF, lshlF, lorF, landF, lsubF, a_eq, a_ne, ov_N, ov_U, ov_T, ov_L, ov_I, ov_I0, ov_J, ov_J0, ov_R, ov_R0, ov_sI, ov_sI0, ov_sJ, ov_sJ0, ov_sR, ov_sR0, sa_53, sa_54, nI_clamp, nI_pos, nI_add, pk_mul, nI_ltI, nI_leI, not_false_eq_true, t1]
  exact ⟨hn, kk⟩
/-! the model -/
def mkL : List (Nat × Nat × Nat × Nat) → ST Unit → ST Unit
  | [], r => r
  | q :: t, r => sq (sh2 (pR 13 q.1) (lR 0) (nA q.2.2.1 (eC (nI q.2.2.2)))) (mkL t r)
def MPt (M : Nat) (pre : List (Nat × Nat × Nat × Nat)) (h0 h : AH) : Prop := hT h M = 13 ∧ hN h = M + 1 + pre.length ∧ (∀ q ∈ pre, hR h M q.1 = some (M + q.2.1) ∧ hT h (M + q.2.1) = q.2.2.1 ∧ hL h (M + q.2.1) = q.2.2.2) ∧ (∀ k, k ≤ pre.length → ∀ i, hI h (M + k) i = nI 0) ∧ Fx (fun _ => False) (pre.length + 1) (52 + (pre.map (fun q => q.2.2.2)).sum) h0 h ∧ WF h ∧ hN h0 = M
theorem MT_ok : ∀ i, i < 32 → (MT.getD i (0, 0, 0, 0)).2.1 = i + 1 := by decide
theorem MT_nd : (MT.map (fun q => q.1)).Nodup := by decide
theorem MT_lt : ∀ q ∈ MT, q.2.2.2 ≤ 20000 := by decide
theorem q_mkL {M : Nat} {h0 : AH} {r : ST Unit} {N B C : List Value → AH → Prop} {R : Unit → AH → Prop} : ∀ (l pre : List (Nat × Nat × Nat × Nat)) (h : AH), MT = pre ++ l → MPt M pre h0 h → (∀ h', MPt M MT h0 h' → wps r [.ref M] h' N B C R) → wps (mkL l r) [.ref M] h N B C R
  | [], pre, h, e, p, k => k h (by rw [List.append_nil] at e; rw [e]; exact p)
  | q :: t, pre, h, e, p, k => by
    obtain ⟨p1, p2, p3, p4, p5, p6, p7⟩ := p
    have ql : q.2.2.2 ≤ 20000 := MT_lt q (by rw [e]; simp)
    have lp : pre.length < 32 := by
      have := congrArg List.length e
      rw [List.length_append, List.length_cons] at this
      have e2 : MT.length = 32 := rfl
      omega
    have qo : q.2.1 = pre.length + 1 := by
      have := MT_ok pre.length lp
      rw [e, List.getD_eq_getElem?_getD, List.getElem?_append_right (Nat.le_refl _), Nat.sub_self] at this
      exact this
    have qn : ∀ y ∈ pre, y.1 ≠ q.1 := fun y hy w => by
      have nd := MT_nd
      rw [e, List.map_append, List.map_cons] at nd
      exact (List.nodup_append.mp nd).2.2 y.1 (List.mem_map_of_mem hy) q.1 (by simp) w
    rw [mkL]
    refine seq fun N1 k1 => s_mk rfl p1 (by omega) ql (k1 _ _ (q_mkL t (pre ++ [q]) _ (by rw [e]; simp) ?_ k))
    obtain ⟨a1, a2, a3, a4, a5⟩ := nw_at (h := h) (s := q.2.2.1) (n := q.2.2.2)
    have fx := fx_nw (h := h) (t := q.2.2.1) (n := q.2.2.2) (u := q.2.2.2)
    have wX : WF (nw h q.2.2.1 q.2.2.2 q.2.2.2) := WF_nw p6
    obtain ⟨b1, b2, b3, b4, b5, b6⟩ := ob_at (O := M) (k := q.1) (v := some (hN h)) fx (by omega) wX
    have nM : hN h ≠ M := by omega
    have c5 := b5 (hN h) nM
    have tl : hT (sR (nw h q.2.2.1 q.2.2.2 q.2.2.2) M q.1 (some (hN h))) = hT (nw h q.2.2.1 q.2.2.2 q.2.2.2) := rfl
    have ll : hL (sR (nw h q.2.2.1 q.2.2.2 q.2.2.2) M q.1 (some (hN h))) = hL (nw h q.2.2.1 q.2.2.2 q.2.2.2) := rfl
    have hnn : hN (sR (nw h q.2.2.1 q.2.2.2 q.2.2.2) M q.1 (some (hN h))) = hN h + 1 := a5
    generalize sR (nw h q.2.2.1 q.2.2.2 q.2.2.2) M q.1 (some (hN h)) = h' at *
    refine ⟨(b1.2.2 M (by omega)).1.trans p1, by rw [hnn, p2, List.length_append, List.length_singleton]; omega, fun y hy => ?_, fun j hj i => ?_, ?_, b6, p7⟩
    · rcases List.mem_append.mp hy with w | w
      · obtain ⟨x1, x2, x3⟩ := p3 y w
        have hy2 : M + y.2.1 < hN h := p6 _ (by
          rw [x2]
          have : ∀ y ∈ MT, y.2.2.1 ≠ 0 := by decide
          exact this y (by rw [e]; exact List.mem_append_left _ w))
        have c := b1.2.2 (M + y.2.1) hy2
        exact ⟨by rw [b2, if_neg (qn y w)]; exact x1, c.1.trans x2, c.2.1.trans x3⟩
      · rw [List.mem_singleton.mp w, qo, show M + (pre.length + 1) = hN h by omega]
        exact ⟨by rw [b2, if_pos rfl], by rw [tl]; exact a1, by rw [ll]; exact a2⟩
    · rw [List.length_append, List.length_singleton] at hj
      by_cases w : j = pre.length + 1
      · rw [w, show M + (pre.length + 1) = hN h by omega, c5.1]; exact a3 i
      · by_cases w0 : j = 0
        · rw [w0, Nat.add_zero, b3]
          have := p4 0 (by omega) i
          rwa [Nat.add_zero] at this
        · rw [((b1.2.2 (M + j) (by omega)).2.2 (fun e => by have e : M + j = M := e; omega)).1]
          exact p4 j (by omega) i
    · rw [List.length_append, List.length_singleton, List.map_append, List.sum_append]
      refine ((p5.w (A' := fun x => x = M) (fun _ _ y => y.elim) (Nat.le_refl _) (Nat.le_refl _)).tr b1).w (fun x hx y => by have y : x = M := y; omega) (by omega) ?_
      simp only [List.map_cons, List.map_nil, List.sum_cons, List.sum_nil]
      omega
def st0 : Stt := ([], ([], [], 6, 2), [], [], [], fun _ => none)
theorem MS_0 {f : Nat → Nat → Int32} (h0 : ∀ i, f 0 i = nI 0) (h1 : ∀ i, f 1 i = nI (if i = 2 then 6 else if i = 3 then 2 else 0)) (h5 : ∀ i, f 5 i = nI 0) : MS f st0 := by
  refine ⟨TpAt_0 (h0 7), ⟨fun i => if i = 2 then 6 else if i = 3 then 2 else 0, fun k _ => h1 k, ⟨⟨⟨rfl, by decide, fun m hm => (by cases hm)⟩, fun m hm => (by cases hm)⟩, ⟨rfl, fun r hr => (by cases hr)⟩, rfl, rfl⟩, ⟨rfl, fun i hi => (by cases hi)⟩, ⟨rfl, fun i hi => (by cases hi)⟩, ⟨⟨by decide, List.nodup_nil, fun x hx => (by cases hx)⟩, by decide, fun x hx => (by cases hx), by decide, by decide⟩, ⟨WL_nil, Nat.zero_le _⟩, ⟨Nat.zero_le _, fun w hw => (by cases hw)⟩⟩, ⟨h0 5, Nat.zero_le _, fun j hj => (by cases hj)⟩, fun j _ => ⟨h5 j, fun kp e => (by cases e)⟩, Ca_0 ((h0 18).trans nI_0) ((h0 50).trans nI_0)⟩
theorem e_nwM {σ : List Value} {h : AH} {Q : Option Nat → AH → Prop} (wf : WF h) (k : ∀ h', MOK h' (hN h) → MS (fun c => hI h' (hN h + c)) st0 → Fx (fun _ => False) 33 40000 h h' → WF h' → Q (some (hN h)) h') : wpe (kN 13 52 d_M_init []) σ h Q := by
  rw [e_kN, a_nil]
  have a1 : hT (nw h 13 0 52) (hN h) = 13 := by simp (disch := omega) only [hN_sI, hU_sI, hT_sI, hL_sI, hI_sI, hJ_sI, hR_sI, hN_sJ, hU_sJ, hT_sJ, hL_sJ, hI_sJ, hJ_sJ, hR_sJ, hN_sR, hU_sR, hT_sR, hL_sR, hI_sR, hJ_sR, hR_sR, hN_nw, hU_nw, hT_nw, hL_nw, hI_nw, hJ_nw, hR_nw, vu_s]
  have a2 : hN (nw h 13 0 52) = hN h + 1 := by simp (disch := omega) only [hN_sI, hU_sI, hT_sI, hL_sI, hI_sI, hJ_sI, hR_sI, hN_sJ, hU_sJ, hT_sJ, hL_sJ, hI_sJ, hJ_sJ, hR_sJ, hN_sR, hU_sR, hT_sR, hL_sR, hI_sR, hJ_sR, hR_sR, hN_nw, hU_nw, hT_nw, hL_nw, hI_nw, hJ_nw, hR_nw]
  have a3 : ∀ j, hI (nw h 13 0 52) (hN h) j = nI 0 := fun j => by
    simp (disch := omega) only [hN_sI, hU_sI, hT_sI, hL_sI, hI_sI, hJ_sI, hR_sI, hN_sJ, hU_sJ, hT_sJ, hL_sJ, hI_sJ, hJ_sJ, hR_sJ, hN_sR, hU_sR, hT_sR, hL_sR, hI_sR, hJ_sR, hR_sR, hN_nw, hU_nw, hT_nw, hL_nw, hI_nw, hJ_nw, hR_nw, vu_s]
    rfl
  unfold d_M_init
  (rw [m_mth]; refine ⟨by simp only [m_mth, s_sk, s_brk, s_cnt, s_sq, s_if, s_rtn, s_rtnU, s_E, s_I1, s_R1, s_J1, s_Inc, s_h2, s_h3, s_u2, s_u3, e_C, e_h1, e_h2, e_lI, e_lJ, e_lR, e_if, e_and, e_or, e_not, a_nil, a_I, a_J, a_R, e_kS, e_kV, e_kN, e_nA, ok_some, ok_none, ok_bind, ok_guard, ok_guardN, asI_int, asJ_long, asR_ref, asR_rf, asR_null, entL, ent, sto, sto2, ok1, Value.category, va_rf, List.length_cons, List.length_nil, List.length_append, List.length_replicate, List.nil_append, List.cons_append, List.append_nil, List.replicate_succ, List.replicate_zero, List.getElem?_cons_zero, List.getElem?_cons_succ, List.set_cons_zero, List.set_cons_succ, gI, gJ, gR, pI, pJ, pR, aI, aJ, aR, aL, stI, stB, stZ, stJ, uF, uA, Option.bind_some, iaddF, isubF, imulF, iandF, iorF, ixorF, ishlF, ishrF, iushrF, inegF, i2bF, i2lF, l2iF, c_eq, c_ne, c_lt, c_le, c_gt, c_ge, z_eq, z_ne, z_lt, z_le, z_gt, z_ge, j_eq, j_ne, j_gt, n_nul, n_non, tt, zz, hN_u, hU_u, hT_u, hL_u, hI_u, hJ_u, hR_u, sI_u, decide_eq_true_eq, true_and, and_true, if_true, reduceIte, beq_self_eq_true, Bool.true_or, Bool.and_self, Nat.reduceAdd, Nat.reduceSub, Nat.reduceLT, Nat.reduceLeDiff, Nat.reduceBEq, Nat.reduceEqDiff, Bool.or_true, Bool.false_or, List.mem_cons, List.mem_singleton, true_or, or_true, mh_N, mh_U, mh_T, mh_L, mh_R, mh_J, mh_0, mh_s0, mh_I, mh_s, sa_20, sa_21, sa_22, sa_23, sa_24, sa_25, sa_26, sa_27, sa_28, sa_29, sa_30, sa_31, sa_32, sa_33, sa_34, sa_35, sa_36, sa_37, sa_38, sa_39, sa_40, sa_41, sa_42, sa_43, sa_44, sa_45, sa_46, sa_47, sa_48, sa_49, sa_50, sa_51, sa_52, sa_70, sa_71, sa_72, sa_73, sa_74, sa_75, sa_76, sa_77, sa_78, sa_79, sa_80, sa_81, sa_82, sa_83, sa_84, sa_85, sa_86, sa_87, sa_88, sa_89, sa_90, sa_91, sa_92, sa_93, sa_94, sa_95, sa_96, sa_97, sa_98, sa_99, sa_100, sa_101, decide_eq_false_iff_not, s_obj, e_cl, s_ar, e_st, stO, stA, lshrF, lshlF, lorF, landF, lsubF, a_eq, a_ne, ov_N, ov_U, ov_T, ov_L, ov_I, ov_I0, ov_J, ov_J0, ov_R, ov_R0, ov_sI, ov_sI0, ov_sJ, ov_sJ0, ov_sR, ov_sR0, sa_53, sa_54], ?_⟩; simp only [entL, ent, Value.category, List.length_cons, List.length_nil, Nat.reduceAdd, Nat.reduceSub, List.replicate_succ, List.replicate_zero, List.cons_append, List.nil_append, Nat.reduceBEq, Bool.false_eq_true, if_false, beq_self_eq_true, if_true, reduceIte])
  refine seq fun N1 k1 => ?_
  simp only [m_mth, s_sk, s_brk, s_cnt, s_sq, s_if, s_rtn, s_rtnU, s_E, s_I1, s_R1, s_J1, s_Inc, s_h2, s_h3, s_u2, s_u3, e_C, e_h1, e_h2, e_lI, e_lJ, e_lR, e_if, e_and, e_or, e_not, a_nil, a_I, a_J, a_R, e_kS, e_kV, e_kN, e_nA, ok_some, ok_none, ok_bind, ok_guard, ok_guardN, asI_int, asJ_long, asR_ref, asR_rf, asR_null, entL, ent, sto, sto2, ok1, Value.category, va_rf, List.length_cons, List.length_nil, List.length_append, List.length_replicate, List.nil_append, List.cons_append, List.append_nil, List.replicate_succ, List.replicate_zero, List.getElem?_cons_zero, List.getElem?_cons_succ, List.set_cons_zero, List.set_cons_succ, gI, gJ, gR, pI, pJ, pR, aI, aJ, aR, aL, stI, stB, stZ, stJ, uF, uA, Option.bind_some, iaddF, isubF, imulF, iandF, iorF, ixorF, ishlF, ishrF, iushrF, inegF, i2bF, i2lF, l2iF, c_eq, c_ne, c_lt, c_le, c_gt, c_ge, z_eq, z_ne, z_lt, z_le, z_gt, z_ge, j_eq, j_ne, j_gt, n_nul, n_non, tt, zz, hN_u, hU_u, hT_u, hL_u, hI_u, hJ_u, hR_u, sI_u, decide_eq_true_eq, true_and, and_true, if_true, reduceIte, beq_self_eq_true, Bool.true_or, Bool.and_self, Nat.reduceAdd, Nat.reduceSub, Nat.reduceLT, Nat.reduceLeDiff, Nat.reduceBEq, Nat.reduceEqDiff, Bool.or_true, Bool.false_or, List.mem_cons, List.mem_singleton, true_or, or_true, mh_N, mh_U, mh_T, mh_L, mh_R, mh_J, mh_0, mh_s0, mh_I, mh_s, sa_20, sa_21, sa_22, sa_23, sa_24, sa_25, sa_26, sa_27, sa_28, sa_29, sa_30, sa_31, sa_32, sa_33, sa_34, sa_35, sa_36, sa_37, sa_38, sa_39, sa_40, sa_41, sa_42, sa_43, sa_44, sa_45, sa_46, sa_47, sa_48, sa_49, sa_50, sa_51, sa_52, sa_70, sa_71, sa_72, sa_73, sa_74, sa_75, sa_76, sa_77, sa_78, sa_79, sa_80, sa_81, sa_82, sa_83, sa_84, sa_85, sa_86, sa_87, sa_88, sa_89, sa_90, sa_91, sa_92, sa_93, sa_94, sa_95, sa_96, sa_97, sa_98, sa_99, sa_100, sa_101, decide_eq_false_iff_not, s_obj, e_cl, s_ar, e_st, stO, stA, lshrF, lshlF, lorF, landF, lsubF, a_eq, a_ne, ov_N, ov_U, ov_T, ov_L, ov_I, ov_I0, ov_J, ov_J0, ov_R, ov_R0, ov_sI, ov_sI0, ov_sJ, ov_sJ0, ov_sR, ov_sR0, sa_53, sa_54]
  refine k1 _ _ ?_
  show wps (mkL MT (sq (sh3 (stI [70]) (eh1 (gR 13 0) (lR 0)) (eC (nI 2)) (eC (nI 6))) (sq (sh3 (stI [70]) (eh1 (gR 13 0) (lR 0)) (eC (nI 3)) (eC (nI 2))) rtnU))) [.ref (hN h)] (nw h 13 0 52) _ _ _ _
  refine q_mkL (h0 := h) MT [] _ rfl ⟨a1, by rw [a2]; rfl, fun q hq => (by cases hq), fun j hj i => ?_, fx_nw.w (fun _ _ y => y) (Nat.le_refl _) (by simp), WF_nw wf, rfl⟩ ?_
  · have : j = 0 := by simpa using hj
    rw [this, Nat.add_zero]; exact a3 i
  rintro h' ⟨p1, p2, p3, p4, p5, p6, p7⟩
  have H : MOK h' (hN h) := ⟨p1, p3⟩
  have hsum : 52 + (MT.map (fun q => q.2.2.2)).sum ≤ 40000 := by decide
  refine seq fun N2 k2 => ?_
  simp (disch := omega) only [m_mth, s_sk, s_brk, s_cnt, s_sq, s_if, s_rtn, s_rtnU, s_E, s_I1, s_R1, s_J1, s_Inc, s_h2, s_h3, s_u2, s_u3, e_C, e_h1, e_h2, e_lI, e_lJ, e_lR, e_if, e_and, e_or, e_not, a_nil, a_I, a_J, a_R, e_kS, e_kV, e_kN, e_nA, ok_some, ok_none, ok_bind, ok_guard, ok_guardN, asI_int, asJ_long, asR_ref, asR_rf, asR_null, entL, ent, sto, sto2, ok1, Value.category, va_rf, List.length_cons, List.length_nil, List.length_append, List.length_replicate, List.nil_append, List.cons_append, List.append_nil, List.replicate_succ, List.replicate_zero, List.getElem?_cons_zero, List.getElem?_cons_succ, List.set_cons_zero, List.set_cons_succ, gI, gJ, gR, pI, pJ, pR, aI, aJ, aR, aL, stI, stB, stZ, stJ, uF, uA, Option.bind_some, iaddF, isubF, imulF, iandF, iorF, ixorF, ishlF, ishrF, iushrF, inegF, i2bF, i2lF, l2iF, c_eq, c_ne, c_lt, c_le, c_gt, c_ge, z_eq, z_ne, z_lt, z_le, z_gt, z_ge, j_eq, j_ne, j_gt, n_nul, n_non, tt, zz, hN_u, hU_u, hT_u, hL_u, hI_u, hJ_u, hR_u, sI_u, decide_eq_true_eq, true_and, and_true, if_true, reduceIte, beq_self_eq_true, Bool.true_or, Bool.and_self, Nat.reduceAdd, Nat.reduceSub, Nat.reduceLT, Nat.reduceLeDiff, Nat.reduceBEq, Nat.reduceEqDiff, Bool.or_true, Bool.false_or, List.mem_cons, List.mem_singleton, true_or, or_true, mh_N, mh_U, mh_T, mh_L, mh_R, mh_J, mh_0, mh_s0, mh_I, mh_s, sa_20, sa_21, sa_22, sa_23, sa_24, sa_25, sa_26, sa_27, sa_28, sa_29, sa_30, sa_31, sa_32, sa_33, sa_34, sa_35, sa_36, sa_37, sa_38, sa_39, sa_40, sa_41, sa_42, sa_43, sa_44, sa_45, sa_46, sa_47, sa_48, sa_49, sa_50, sa_51, sa_52, sa_70, sa_71, sa_72, sa_73, sa_74, sa_75, sa_76, sa_77, sa_78, sa_79, sa_80, sa_81, sa_82, sa_83, sa_84, sa_85, sa_86, sa_87, sa_88, sa_89, sa_90, sa_91, sa_92, sa_93, sa_94, sa_95, sa_96, sa_97, sa_98, sa_99, sa_100, sa_101, decide_eq_false_iff_not, s_obj, e_cl, s_ar, e_st, stO, stA, lshrF, lshlF, lorF, landF, lsubF, a_eq, a_ne, ov_N, ov_U, ov_T, ov_L, ov_I, ov_I0, ov_J, ov_J0, ov_R, ov_R0, ov_sI, ov_sI0, ov_sJ, ov_sJ0, ov_sR, ov_sR0, sa_53, sa_54, H.1, H.1, mr_now H, mt_now H, ml_now H, nI_clamp, nI_pos, nI_add, pk_mul, nI_ltI, nI_leI, not_false_eq_true]
  refine k2 _ _ (seq fun N3 k3 => ?_)
  have H2 : MOK (sI h' (hN h + 1) 2 (nI 6)) (hN h) := H
  simp (disch := omega) only [m_mth, s_sk, s_brk, s_cnt, s_sq, s_if, s_rtn, s_rtnU, s_E, s_I1, s_R1, s_J1, s_Inc, s_h2, s_h3, s_u2, s_u3, e_C, e_h1, e_h2, e_lI, e_lJ, e_lR, e_if, e_and, e_or, e_not, a_nil, a_I, a_J, a_R, e_kS, e_kV, e_kN, e_nA, ok_some, ok_none, ok_bind, ok_guard, ok_guardN, asI_int, asJ_long, asR_ref, asR_rf, asR_null, entL, ent, sto, sto2, ok1, Value.category, va_rf, List.length_cons, List.length_nil, List.length_append, List.length_replicate, List.nil_append, List.cons_append, List.append_nil, List.replicate_succ, List.replicate_zero, List.getElem?_cons_zero, List.getElem?_cons_succ, List.set_cons_zero, List.set_cons_succ, gI, gJ, gR, pI, pJ, pR, aI, aJ, aR, aL, stI, stB, stZ, stJ, uF, uA, Option.bind_some, iaddF, isubF, imulF, iandF, iorF, ixorF, ishlF, ishrF, iushrF, inegF, i2bF, i2lF, l2iF, c_eq, c_ne, c_lt, c_le, c_gt, c_ge, z_eq, z_ne, z_lt, z_le, z_gt, z_ge, j_eq, j_ne, j_gt, n_nul, n_non, tt, zz, hN_u, hU_u, hT_u, hL_u, hI_u, hJ_u, hR_u, sI_u, decide_eq_true_eq, true_and, and_true, if_true, reduceIte, beq_self_eq_true, Bool.true_or, Bool.and_self, Nat.reduceAdd, Nat.reduceSub, Nat.reduceLT, Nat.reduceLeDiff, Nat.reduceBEq, Nat.reduceEqDiff, Bool.or_true, Bool.false_or, List.mem_cons, List.mem_singleton, true_or, or_true, mh_N, mh_U, mh_T, mh_L, mh_R, mh_J, mh_0, mh_s0, mh_I, mh_s, sa_20, sa_21, sa_22, sa_23, sa_24, sa_25, sa_26, sa_27, sa_28, sa_29, sa_30, sa_31, sa_32, sa_33, sa_34, sa_35, sa_36, sa_37, sa_38, sa_39, sa_40, sa_41, sa_42, sa_43, sa_44, sa_45, sa_46, sa_47, sa_48, sa_49, sa_50, sa_51, sa_52, sa_70, sa_71, sa_72, sa_73, sa_74, sa_75, sa_76, sa_77, sa_78, sa_79, sa_80, sa_81, sa_82, sa_83, sa_84, sa_85, sa_86, sa_87, sa_88, sa_89, sa_90, sa_91, sa_92, sa_93, sa_94, sa_95, sa_96, sa_97, sa_98, sa_99, sa_100, sa_101, decide_eq_false_iff_not, s_obj, e_cl, s_ar, e_st, stO, stA, lshrF, lshlF, lorF, landF, lsubF, a_eq, a_ne, ov_N, ov_U, ov_T, ov_L, ov_I, ov_I0, ov_J, ov_J0, ov_R, ov_R0, ov_sI, ov_sI0, ov_sJ, ov_sJ0, ov_sR, ov_sR0, sa_53, sa_54, H2.1, H2.1, mr_now H2, mt_now H2, ml_now H2, nI_clamp, nI_pos, nI_add, pk_mul, nI_ltI, nI_leI, not_false_eq_true]
  refine k3 _ _ ?_
  simp only [m_mth, s_sk, s_brk, s_cnt, s_sq, s_if, s_rtn, s_rtnU, s_E, s_I1, s_R1, s_J1, s_Inc, s_h2, s_h3, s_u2, s_u3, e_C, e_h1, e_h2, e_lI, e_lJ, e_lR, e_if, e_and, e_or, e_not, a_nil, a_I, a_J, a_R, e_kS, e_kV, e_kN, e_nA, ok_some, ok_none, ok_bind, ok_guard, ok_guardN, asI_int, asJ_long, asR_ref, asR_rf, asR_null, entL, ent, sto, sto2, ok1, Value.category, va_rf, List.length_cons, List.length_nil, List.length_append, List.length_replicate, List.nil_append, List.cons_append, List.append_nil, List.replicate_succ, List.replicate_zero, List.getElem?_cons_zero, List.getElem?_cons_succ, List.set_cons_zero, List.set_cons_succ, gI, gJ, gR, pI, pJ, pR, aI, aJ, aR, aL, stI, stB, stZ, stJ, uF, uA, Option.bind_some, iaddF, isubF, imulF, iandF, iorF, ixorF, ishlF, ishrF, iushrF, inegF, i2bF, i2lF, l2iF, c_eq, c_ne, c_lt, c_le, c_gt, c_ge, z_eq, z_ne, z_lt, z_le, z_gt, z_ge, j_eq, j_ne, j_gt, n_nul, n_non, tt, zz, hN_u, hU_u, hT_u, hL_u, hI_u, hJ_u, hR_u, sI_u, decide_eq_true_eq, true_and, and_true, if_true, reduceIte, beq_self_eq_true, Bool.true_or, Bool.and_self, Nat.reduceAdd, Nat.reduceSub, Nat.reduceLT, Nat.reduceLeDiff, Nat.reduceBEq, Nat.reduceEqDiff, Bool.or_true, Bool.false_or, List.mem_cons, List.mem_singleton, true_or, or_true, mh_N, mh_U, mh_T, mh_L, mh_R, mh_J, mh_0, mh_s0, mh_I, mh_s, sa_20, sa_21, sa_22, sa_23, sa_24, sa_25, sa_26, sa_27, sa_28, sa_29, sa_30, sa_31, sa_32, sa_33, sa_34, sa_35, sa_36, sa_37, sa_38, sa_39, sa_40, sa_41, sa_42, sa_43, sa_44, sa_45, sa_46, sa_47, sa_48, sa_49, sa_50, sa_51, sa_52, sa_70, sa_71, sa_72, sa_73, sa_74, sa_75, sa_76, sa_77, sa_78, sa_79, sa_80, sa_81, sa_82, sa_83, sa_84, sa_85, sa_86, sa_87, sa_88, sa_89, sa_90, sa_91, sa_92, sa_93, sa_94, sa_95, sa_96, sa_97, sa_98, sa_99, sa_100, sa_101, decide_eq_false_iff_not, s_obj, e_cl, s_ar, e_st, stO, stA, lshrF, lshlF, lorF, landF, lsubF, a_eq, a_ne, ov_N, ov_U, ov_T, ov_L, ov_I, ov_I0, ov_J, ov_J0, ov_R, ov_R0, ov_sI, ov_sI0, ov_sJ, ov_sJ0, ov_sR, ov_sR0, sa_53, sa_54]
  refine k (sI (sI h' (hN h + 1) 2 (nI 6)) (hN h + 1) 3 (nI 2)) H (MS_0 (fun i => ?_) (fun i => ?_) (fun i => ?_)) ?_ p6
  · show hI (sI (sI h' (hN h + 1) 2 (nI 6)) (hN h + 1) 3 (nI 2)) (hN h + 0) i = nI 0
    rw [hI_sI, u2_o (by omega), hI_sI, u2_o (by omega)]
    exact p4 0 (by omega) i
  · show hI (sI (sI h' (hN h + 1) 2 (nI 6)) (hN h + 1) 3 (nI 2)) (hN h + 1) i = _
    by_cases e3 : i = 3
    · rw [e3, hI_sI, u2_s]; rfl
    · rw [hI_sI, u2_n (Or.inr e3)]
      by_cases e2 : i = 2
      · rw [e2, hI_sI, u2_s]; rfl
      · rw [hI_sI, u2_n (Or.inr e2), if_neg e2, if_neg e3]
        exact p4 1 (by decide) i
  · show hI (sI (sI h' (hN h + 1) 2 (nI 6)) (hN h + 1) 3 (nI 2)) (hN h + 5) i = nI 0
    rw [hI_sI, u2_o (by omega), hI_sI, u2_o (by omega)]
    exact p4 5 (by decide) i
  · exact ((p5.w (A' := fun x => x = hN h + 1) (fun _ _ y => y.elim) (Nat.le_refl _) (Nat.le_refl _)).tr ((Fz_sI (A := fun x => x = hN h + 1) rfl).tr (Fz_sI rfl)).fx).w (fun x hx y => by have y : x = hN h + 1 := y; omega) (by decide) hsum
