/-! ===== the class: a new object ===== -/
def Γ0 : Nat → List Nat × Alts := fun _ => ([], AofMs [])
/-! the first State, with its Upper and its RULES -/
def nwS1 (h : AH) : AH := nw (nwUp (nw h 10 0 4)) 28 0 0
def nwSt (h : AH) : AH := stW (nwS1 h) (hN h) (hN h + 1) (hN h + 7) (nI 6) (nI 2)
theorem nwSt_1 {h : AH} (w : WF h) : GrC Γ0 (nwSt h) (hN h) (hN h + 1) [] ([], [], 6, 2) ∧ Fx (fun _ => False) 8 93 h (nwSt h) ∧ hN (nwSt h) = hN h + 8 ∧ WF (nwSt h) := by
  have a1 : hN (nw h 10 0 4) = hN h + 1 := by simp (disch := omega) only [hN_sI, hU_sI, hT_sI, hL_sI, hI_sI, hJ_sI, hR_sI, hN_sJ, hU_sJ, hT_sJ, hL_sJ, hI_sJ, hJ_sJ, hR_sJ, hN_sR, hU_sR, hT_sR, hL_sR, hI_sR, hJ_sR, hR_sR, hN_nw, hU_nw, hT_nw, hL_nw, hI_nw, hJ_nw, hR_nw]
  have a2 : hT (nw h 10 0 4) (hN h) = 10 := by simp (disch := omega) only [hN_sI, hU_sI, hT_sI, hL_sI, hI_sI, hJ_sI, hR_sI, hN_sJ, hU_sJ, hT_sJ, hL_sJ, hI_sJ, hJ_sJ, hR_sJ, hN_sR, hU_sR, hT_sR, hL_sR, hI_sR, hJ_sR, hR_sR, hN_nw, hU_nw, hT_nw, hL_nw, hI_nw, hJ_nw, hR_nw, vu_s]
  have fa := fx_nw (h := h) (t := 10) (n := 0) (u := 4)
  have wa : WF (nw h 10 0 4) := WF_nw w
  obtain ⟨u1, u2', u3, u4, fb, hb⟩ := nwUp_at (h := nw h 10 0 4)
  have up := UpP_0 (h := nw h 10 0 4)
  have wb := WF_nwUp wa
  rw [a1] at u1 u2' u3 u4 up
  rw [a1] at hb
  have ru4 : hR (nwUp (nw h 10 0 4)) (hN h + 1) 4 = some (hN h + 6) ∧ hT (nwUp (nw h 10 0 4)) (hN h + 6) = 33 ∧ hL (nwUp (nw h 10 0 4)) (hN h + 6) = 0 := by
    unfold nwUp
    rw [a1]
    refine ⟨?_, ?_, ?_⟩
    all_goals simp (disch := omega) only [hN_sI, hU_sI, hT_sI, hL_sI, hI_sI, hJ_sI, hR_sI, hN_sJ, hU_sJ, hT_sJ, hL_sJ, hI_sJ, hJ_sJ, hR_sJ, hN_sR, hU_sR, hT_sR, hL_sR, hI_sR, hJ_sR, hR_sR, hN_nw, hU_nw, hT_nw, hL_nw, hI_nw, hJ_nw, hR_nw, vu_s, vu_n, u2_s, u2_n, u2_o]
  obtain ⟨c1, c2, c3, c4, c5⟩ := nw_at (h := nwUp (nw h 10 0 4)) (s := 28) (n := 0)
  have fc := fx_nw (h := nwUp (nw h 10 0 4)) (t := 28) (n := 0) (u := 0)
  have wc : WF (nwS1 h) := WF_nw wb
  have hc : hN (nwS1 h) = hN h + 8 := by unfold nwS1; rw [c5, hb]
  have f1 : Fx (fun _ => False) 8 93 h (nwS1 h) := ((fa.tr fb).tr fc).w (fun _ _ y => y) (by omega) (by omega)
  have z : Fz (fun x => x = hN h) (nwS1 h) (nwSt h) := (((Fz_sR (A := fun x => x = hN h) rfl).tr (Fz_sR rfl)).tr (Fz_sI rfl)).tr (Fz_sI rfl)
  have y0 : hR (nwSt h) (hN h) 0 = some (hN h + 1) := by
    show hR (sR (sR (nwS1 h) (hN h) 0 (some (hN h + 1))) (hN h) 1 (some (hN h + 7))) (hN h) 0 = _
    rw [hR_sR, u2_n (Or.inr (by decide)), hR_sR, u2_s]
  have y1 : hR (nwSt h) (hN h) 1 = some (hN h + 7) := by
    show hR (sR (sR (nwS1 h) (hN h) 0 (some (hN h + 1))) (hN h) 1 (some (hN h + 7))) (hN h) 1 = _
    rw [hR_sR, u2_s]
  have y2 : hI (nwSt h) (hN h) 2 = nI 6 := by
    unfold nwSt stW
    rw [hI_sI, u2_n (Or.inr (by decide)), hI_sI, u2_s]
  have y3 : hI (nwSt h) (hN h) 3 = nI 2 := by
    unfold nwSt stW
    rw [hI_sI, u2_s]
  rw [hb] at c1 c2
  have g1 : Gk (nwUp (nw h 10 0 4)) (nwS1 h) := Gk_Fx wb fc (fun a (ha : False) => ha.elim)
  have tN : hT (nwS1 h) (hN h) = 10 := by
    have x1 := (fb.2.2 (hN h) (by omega)).1
    have x2 := (fc.2.2 (hN h) (by omega)).1
    exact x2.trans (x1.trans a2)
  have lt : ∀ x, x ≠ hN h → hT (nwUp (nw h 10 0 4)) x ∈ GS → hT (nwSt h) x = hT (nwUp (nw h 10 0 4)) x ∧ hL (nwSt h) x = hL (nwUp (nw h 10 0 4)) x ∧ Sm (nwUp (nw h 10 0 4)) (nwSt h) x := fun x hx hs => by
    obtain ⟨p1, p2, p3⟩ := g1 x hs
    have q := z.2.2.2.2 x hx
    exact ⟨by rw [z.2.2.1]; exact p1, by rw [z.2.2.2.1]; exact p2, q.1.trans p3.1, q.2.1.trans p3.2.1, q.2.2.trans p3.2.2⟩
  have tU := u1.1
  have us : UpS (nwSt h) (hN h + 1) [] (AofMs []) := by
    have e0 := lt (hN h + 1) (by omega) (by rw [tU]; decide)
    have e1 := lt (hN h + 1 + 1) (by omega) (by rw [Upt_slots u1]; decide)
    have e2 := lt (hN h + 1 + 2) (by omega) (by rw [Upt_names u1]; decide)
    have e3 := lt (hN h + 1 + 3) (by omega) (by rw [Upt_rows u1]; decide)
    have e4 := lt (hN h + 1 + 4) (by omega) (by rw [Upt_many u1]; decide)
    refine ⟨?_, by rw [e0.2.2.1]; exact u2' 6, fun c _ _ => by rw [e1.2.2.1, u3, if_neg (by simp)], fun i hi => (by cases hi), fun i _ => ⟨by rw [e4.2.2.1]; exact u4 i, fun k hk => (by cases hk)⟩⟩
    unfold UpO at u1 ⊢
    obtain ⟨v0, ⟨v1, v2, v3⟩, ⟨v4, v5, v6⟩, ⟨v7, v8, v9⟩, v10, v11, v12⟩ := u1
    exact ⟨e0.1.trans v0, ⟨by rw [e0.2.2.2.2]; exact v1, e1.1.trans v2, e1.2.1.trans v3⟩, ⟨by rw [e0.2.2.2.2]; exact v4, e2.1.trans v5, e2.2.1.trans v6⟩, ⟨by rw [e0.2.2.2.2]; exact v7, e3.1.trans v8, e3.2.1.trans v9⟩, by rw [e0.2.2.2.2]; exact v10, e4.1.trans v11, e4.2.1.trans v12⟩
  have e0 := lt (hN h + 1) (by omega) (by rw [tU]; decide)
  have e5 := lt (hN h + 6) (by omega) (by rw [ru4.2.1]; decide)
  refine ⟨⟨⟨by rw [z.2.2.1]; exact tN, y0, y2, y3, ⟨hN h + 7, y1, by rw [z.2.2.1]; exact c1, by rw [z.2.2.2.1]; exact c2, fun r hr => (by cases hr)⟩, ⟨us, ⟨hN h + 6, by rw [e0.2.2.2.2]; exact ru4.1, ⟨e5.1.trans ru4.2.1, e5.2.1.trans ru4.2.2, fun i hi => (by cases hi)⟩, fun i hi => (by cases hi)⟩, ⟨0, by rw [e0.2.2.1]; exact u2' 5, Nat.two_pow_pos _, fun q => by simp⟩, ⟨fun c => ⟨Nat.zero_le _, fun hne => absurd rfl hne, fun row hr => (by cases hr)⟩, List.nodup_nil, fun c hc => (by cases hc)⟩, Nat.zero_le _, fun c => Iff.rfl⟩, ⟨⟨by decide, List.nodup_nil, fun x hx => (by cases hx)⟩, by decide, fun x hx => (by cases hx), by decide, by decide⟩⟩, rfl⟩, ((f1.w (A' := fun x => x = hN h) (fun _ _ y => y.elim) (Nat.le_refl _) (Nat.le_refl _)).tr z.fx).w (fun x hx y => by have y : x = hN h := y; omega) (by omega) (by omega), by rw [z.1]; exact hc, WF_z wc z⟩
theorem e_nwSt {σ : List Value} {h : AH} {Q : Option Nat → AH → Prop} (k : Q (some (hN h)) (nwSt h)) : wpe (kN 10 4 d_State_init [vR (kN 11 7 d_Upper_init []), vR (nA 28 (eC (nI 0))), vI (eC (nI 6)), vI (eC (nI 2))]) σ h Q := by
  have a1 : hN (nw h 10 0 4) = hN h + 1 := by simp (disch := omega) only [hN_sI, hU_sI, hT_sI, hL_sI, hI_sI, hJ_sI, hR_sI, hN_sJ, hU_sJ, hT_sJ, hL_sJ, hI_sJ, hJ_sJ, hR_sJ, hN_sR, hU_sR, hT_sR, hL_sR, hI_sR, hJ_sR, hR_sR, hN_nw, hU_nw, hT_nw, hL_nw, hI_nw, hJ_nw, hR_nw]
  have a2 : hT (nw h 10 0 4) (hN h) = 10 := by simp (disch := omega) only [hN_sI, hU_sI, hT_sI, hL_sI, hI_sI, hJ_sI, hR_sI, hN_sJ, hU_sJ, hT_sJ, hL_sJ, hI_sJ, hJ_sJ, hR_sJ, hN_sR, hU_sR, hT_sR, hL_sR, hI_sR, hJ_sR, hR_sR, hN_nw, hU_nw, hT_nw, hL_nw, hI_nw, hJ_nw, hR_nw, vu_s]
  obtain ⟨u1, u2', u3, u4, fb, hb⟩ := nwUp_at (h := nw h 10 0 4)
  have tN : hT (nwS1 h) (hN h) = 10 := by
    have fc := fx_nw (h := nwUp (nw h 10 0 4)) (t := 28) (n := 0) (u := 0)
    have x1 := (fb.2.2 (hN h) (by omega)).1
    have x2 := (fc.2.2 (hN h) (by omega)).1
    exact x2.trans (x1.trans a2)
  have qi := q_State_init (h := nwS1 h) (N := hN h) (U := hN h + 1) (rl := hN h + 7) (d := nI 6) (l := nI 2) tN
  rw [e_kN, a_R]
  refine e_nwUp ?_
  rw [a1, a_R]
  refine wpe_to (some (hN h + 7)) (nwS1 h) ?_ ?_
  · simp (disch := omega) only [m_mth, s_sk, s_brk, s_cnt, s_sq, s_if, s_rtn, s_rtnU, s_E, s_I1, s_R1, s_J1, s_Inc, s_h2, s_h3, s_u2, s_u3, e_C, e_h1, e_h2, e_lI, e_lJ, e_lR, e_if, e_and, e_or, e_not, a_nil, a_I, a_J, a_R, e_kS, e_kV, e_kN, e_nA, ok_some, ok_none, ok_bind, ok_guard, ok_guardN, asI_int, asJ_long, asR_ref, asR_rf, asR_null, entL, ent, sto, sto2, ok1, Value.category, va_rf, List.length_cons, List.length_nil, List.length_append, List.length_replicate, List.nil_append, List.cons_append, List.append_nil, List.replicate_succ, List.replicate_zero, List.getElem?_cons_zero, List.getElem?_cons_succ, List.set_cons_zero, List.set_cons_succ, gI, gJ, gR, pI, pJ, pR, aI, aJ, aR, aL, stI, stB, stZ, stJ, uF, uA, Option.bind_some, iaddF, isubF, imulF, iandF, iorF, ixorF, ishlF, ishrF, iushrF, inegF, i2bF, i2lF, l2iF, c_eq, c_ne, c_lt, c_le, c_gt, c_ge, z_eq, z_ne, z_lt, z_le, z_gt, z_ge, j_eq, j_ne, j_gt, n_nul, n_non, tt, zz, hN_u, hU_u, hT_u, hL_u, hI_u, hJ_u, hR_u, sI_u, decide_eq_true_eq, true_and, and_true, if_true, reduceIte, beq_self_eq_true, Bool.true_or, Bool.and_self, Nat.reduceAdd, Nat.reduceSub, Nat.reduceLT, Nat.reduceLeDiff, Nat.reduceBEq, Nat.reduceEqDiff, Bool.or_true, Bool.false_or, List.mem_cons, List.mem_singleton, true_or, or_true, mh_N, mh_U, mh_T, mh_L, mh_R, mh_J, mh_0, mh_s0, mh_I, mh_s, sa_20, sa_21, sa_22, sa_23, sa_24, sa_25, sa_26, sa_27, sa_28, sa_29, sa_30, sa_31, sa_32, sa_33, sa_34, sa_35, sa_36, sa_37, sa_38, sa_39, sa_40, sa_41, sa_42, sa_43, sa_44, sa_45, sa_46, sa_47, sa_48, sa_49, sa_50, sa_51, sa_52, sa_70, sa_71, sa_72, sa_73, sa_74, sa_75, sa_76, sa_77, sa_78, sa_79, sa_80, sa_81, sa_82, sa_83, sa_84, sa_85, sa_86, sa_87, sa_88, sa_89, sa_90, sa_91, sa_92, sa_93, sa_94, sa_95, sa_96, sa_97, sa_98, sa_99, sa_100, sa_101, decide_eq_false_iff_not, s_obj, e_cl, s_ar, e_st, stO, stA, lshrF, lshlF, lorF, landF, lsubF, a_eq, a_ne, ov_N, ov_U, ov_T, ov_L, ov_I, ov_I0, ov_J, ov_J0, ov_R, ov_R0, ov_sI, ov_sI0, ov_sJ, ov_sJ0, ov_sR, ov_sR0, sa_53, sa_54, hb, a1]
    exact ⟨by decide, rfl⟩
  simp (disch := omega) only [m_mth, s_sk, s_brk, s_cnt, s_sq, s_if, s_rtn, s_rtnU, s_E, s_I1, s_R1, s_J1, s_Inc, s_h2, s_h3, s_u2, s_u3, e_C, e_h1, e_h2, e_lI, e_lJ, e_lR, e_if, e_and, e_or, e_not, a_nil, a_I, a_J, a_R, e_kS, e_kV, e_kN, e_nA, ok_some, ok_none, ok_bind, ok_guard, ok_guardN, asI_int, asJ_long, asR_ref, asR_rf, asR_null, entL, ent, sto, sto2, ok1, Value.category, va_rf, List.length_cons, List.length_nil, List.length_append, List.length_replicate, List.nil_append, List.cons_append, List.append_nil, List.replicate_succ, List.replicate_zero, List.getElem?_cons_zero, List.getElem?_cons_succ, List.set_cons_zero, List.set_cons_succ, gI, gJ, gR, pI, pJ, pR, aI, aJ, aR, aL, stI, stB, stZ, stJ, uF, uA, Option.bind_some, iaddF, isubF, imulF, iandF, iorF, ixorF, ishlF, ishrF, iushrF, inegF, i2bF, i2lF, l2iF, c_eq, c_ne, c_lt, c_le, c_gt, c_ge, z_eq, z_ne, z_lt, z_le, z_gt, z_ge, j_eq, j_ne, j_gt, n_nul, n_non, tt, zz, hN_u, hU_u, hT_u, hL_u, hI_u, hJ_u, hR_u, sI_u, decide_eq_true_eq, true_and, and_true, if_true, reduceIte, beq_self_eq_true, Bool.true_or, Bool.and_self, Nat.reduceAdd, Nat.reduceSub, Nat.reduceLT, Nat.reduceLeDiff, Nat.reduceBEq, Nat.reduceEqDiff, Bool.or_true, Bool.false_or, List.mem_cons, List.mem_singleton, true_or, or_true, mh_N, mh_U, mh_T, mh_L, mh_R, mh_J, mh_0, mh_s0, mh_I, mh_s, sa_20, sa_21, sa_22, sa_23, sa_24, sa_25, sa_26, sa_27, sa_28, sa_29, sa_30, sa_31, sa_32, sa_33, sa_34, sa_35, sa_36, sa_37, sa_38, sa_39, sa_40, sa_41, sa_42, sa_43, sa_44, sa_45, sa_46, sa_47, sa_48, sa_49, sa_50, sa_51, sa_52, sa_70, sa_71, sa_72, sa_73, sa_74, sa_75, sa_76, sa_77, sa_78, sa_79, sa_80, sa_81, sa_82, sa_83, sa_84, sa_85, sa_86, sa_87, sa_88, sa_89, sa_90, sa_91, sa_92, sa_93, sa_94, sa_95, sa_96, sa_97, sa_98, sa_99, sa_100, sa_101, decide_eq_false_iff_not, s_obj, e_cl, s_ar, e_st, stO, stA, lshrF, lshlF, lorF, landF, lsubF, a_eq, a_ne, ov_N, ov_U, ov_T, ov_L, ov_I, ov_I0, ov_J, ov_J0, ov_R, ov_R0, ov_sI, ov_sI0, ov_sJ, ov_sJ0, ov_sR, ov_sR0, sa_53, sa_54, wpm_eq qi]
  exact k
