/-! ===== the law: its branches ===== -/
theorem e_arg {b L O M i k : Nat} {xs : Nat → Int32} {g : AH} {Q : Int32 → AH → Prop} (h1 : i + k < L) (h2 : L ≤ 3072) (q : Q (xs (i + k)) g) : wpe (eScr b L xs (eh2 iaddF (lI 3) (eC (nI k)))) [.ref b, .ref O, .ref M, .int (nI i)] g Q := by
  rw [e_scr]
  refine wpe_to (nI (i + k)) g ?_ ⟨⟨rfl, ?_, ?_⟩, ?_⟩
  · simp only [m_mth, s_sk, s_brk, s_cnt, s_sq, s_if, s_rtn, s_rtnU, s_E, s_I1, s_R1, s_J1, s_Inc, s_h2, s_h3, s_u2, s_u3, e_C, e_h1, e_h2, e_lI, e_lJ, e_lR, e_if, e_and, e_or, e_not, a_nil, a_I, a_J, a_R, e_kS, e_kV, e_kN, e_nA, ok_some, ok_none, ok_bind, ok_guard, ok_guardN, asI_int, asJ_long, asR_ref, asR_rf, asR_null, entL, ent, sto, sto2, ok1, Value.category, va_rf, List.length_cons, List.length_nil, List.length_append, List.length_replicate, List.nil_append, List.cons_append, List.append_nil, List.replicate_succ, List.replicate_zero, List.getElem?_cons_zero, List.getElem?_cons_succ, List.set_cons_zero, List.set_cons_succ, gI, gJ, gR, pI, pJ, pR, aI, aJ, aR, aL, stI, stB, stZ, stJ, uF, uA, Option.bind_some, iaddF, isubF, imulF, iandF, iorF, ixorF, ishlF, ishrF, iushrF, inegF, i2bF, i2lF, l2iF, c_eq, c_ne, c_lt, c_le, c_gt, c_ge, z_eq, z_ne, z_lt, z_le, z_gt, z_ge, j_eq, j_ne, j_gt, n_nul, n_non, tt, zz, hN_u, hU_u, hT_u, hL_u, hI_u, hJ_u, hR_u, sI_u, decide_eq_true_eq, true_and, and_true, if_true, reduceIte, beq_self_eq_true, Bool.true_or, Bool.and_self, Nat.reduceAdd, Nat.reduceSub, Nat.reduceLT, Nat.reduceLeDiff, Nat.reduceBEq, Nat.reduceEqDiff, Bool.or_true, Bool.false_or, List.mem_cons, List.mem_singleton, true_or, or_true, mh_N, mh_U, mh_T, mh_L, mh_R, mh_J, mh_0, mh_s0, mh_I, mh_s, sa_20, sa_21, sa_22, sa_23, sa_24, sa_25, sa_26, sa_27, sa_28, sa_29, sa_30, sa_31, sa_32, sa_33, sa_34, sa_35, sa_36, sa_37, sa_38, sa_39, sa_40, sa_41, sa_42, sa_43, sa_44, sa_45, sa_46, sa_47, sa_48, sa_49, sa_50, sa_51, sa_52, sa_70, sa_71, sa_72, sa_73, sa_74, sa_75, sa_76, sa_77, sa_78, sa_79, sa_80, sa_81, sa_82, sa_83, sa_84, sa_85, sa_86, sa_87, sa_88, sa_89, sa_90, sa_91, sa_92, sa_93, sa_94, sa_95, sa_96, sa_97, sa_98, sa_99, sa_100, sa_101, decide_eq_false_iff_not, s_obj, e_cl, s_ar, e_st, stO, stA, lshrF, lshlF, lorF, landF, lsubF, a_eq, a_ne, ov_N, ov_U, ov_T, ov_L, ov_I, ov_I0, ov_J, ov_J0, ov_R, ov_R0, ov_sI, ov_sI0, ov_sJ, ov_sJ0, ov_sR, ov_sR0, sa_53, sa_54, nI_add]
  · exact nI_pos (by omega)
  · rw [nI_clamp (by omega)]; exact h1
  · rw [nI_clamp (by omega)]; exact q
theorem ar0 {b L O M i : Nat} (h1 : i + 6 ≤ L) (h2 : L ≤ 3072) (g : AH) (Q : List Value → AH → Prop) (y : Q [] g) : wpa [] [.ref b, .ref O, .ref M, .int (nI i)] g Q := by
  rw [a_nil]
  exact y
theorem ar1 {b L O M i : Nat} {xs : Nat → Int32} (h1 : i + 6 ≤ L) (h2 : L ≤ 3072) (g : AH) (Q : List Value → AH → Prop) (y : Q [.int (xs (i + 1))] g) : wpa [vI (eScr b L xs (eh2 iaddF (lI 3) (eC (nI 1))))] [.ref b, .ref O, .ref M, .int (nI i)] g Q := by
  rw [a_I]
  refine e_arg (by omega) h2 ?_
  rw [a_nil]
  exact y
theorem ar2 {b L O M i : Nat} {xs : Nat → Int32} (h1 : i + 6 ≤ L) (h2 : L ≤ 3072) (g : AH) (Q : List Value → AH → Prop) (y : Q [.int (xs (i + 1)), .int (xs (i + 2))] g) : wpa [vI (eScr b L xs (eh2 iaddF (lI 3) (eC (nI 1)))), vI (eScr b L xs (eh2 iaddF (lI 3) (eC (nI 2))))] [.ref b, .ref O, .ref M, .int (nI i)] g Q := by
  rw [a_I]
  refine e_arg (by omega) h2 ?_
  rw [a_I]
  refine e_arg (by omega) h2 ?_
  rw [a_nil]
  exact y
theorem ar3 {b L O M i : Nat} {xs : Nat → Int32} (h1 : i + 6 ≤ L) (h2 : L ≤ 3072) (g : AH) (Q : List Value → AH → Prop) (y : Q [.int (xs (i + 1)), .int (xs (i + 2)), .int (xs (i + 3))] g) : wpa [vI (eScr b L xs (eh2 iaddF (lI 3) (eC (nI 1)))), vI (eScr b L xs (eh2 iaddF (lI 3) (eC (nI 2)))), vI (eScr b L xs (eh2 iaddF (lI 3) (eC (nI 3))))] [.ref b, .ref O, .ref M, .int (nI i)] g Q := by
  rw [a_I]
  refine e_arg (by omega) h2 ?_
  rw [a_I]
  refine e_arg (by omega) h2 ?_
  rw [a_I]
  refine e_arg (by omega) h2 ?_
  rw [a_nil]
  exact y
theorem ar4 {b L O M i : Nat} {xs : Nat → Int32} (h1 : i + 6 ≤ L) (h2 : L ≤ 3072) (g : AH) (Q : List Value → AH → Prop) (y : Q [.int (xs (i + 1)), .int (xs (i + 2)), .int (xs (i + 3)), .int (xs (i + 4))] g) : wpa [vI (eScr b L xs (eh2 iaddF (lI 3) (eC (nI 1)))), vI (eScr b L xs (eh2 iaddF (lI 3) (eC (nI 2)))), vI (eScr b L xs (eh2 iaddF (lI 3) (eC (nI 3)))), vI (eScr b L xs (eh2 iaddF (lI 3) (eC (nI 4))))] [.ref b, .ref O, .ref M, .int (nI i)] g Q := by
  rw [a_I]
  refine e_arg (by omega) h2 ?_
  rw [a_I]
  refine e_arg (by omega) h2 ?_
  rw [a_I]
  refine e_arg (by omega) h2 ?_
  rw [a_I]
  refine e_arg (by omega) h2 ?_
  rw [a_nil]
  exact y
theorem ar5 {b L O M i : Nat} {xs : Nat → Int32} (h1 : i + 6 ≤ L) (h2 : L ≤ 3072) (g : AH) (Q : List Value → AH → Prop) (y : Q [.int (xs (i + 1)), .int (xs (i + 2)), .int (xs (i + 3)), .int (xs (i + 4)), .int (xs (i + 5))] g) : wpa [vI (eScr b L xs (eh2 iaddF (lI 3) (eC (nI 1)))), vI (eScr b L xs (eh2 iaddF (lI 3) (eC (nI 2)))), vI (eScr b L xs (eh2 iaddF (lI 3) (eC (nI 3)))), vI (eScr b L xs (eh2 iaddF (lI 3) (eC (nI 4)))), vI (eScr b L xs (eh2 iaddF (lI 3) (eC (nI 5))))] [.ref b, .ref O, .ref M, .int (nI i)] g Q := by
  rw [a_I]
  refine e_arg (by omega) h2 ?_
  rw [a_I]
  refine e_arg (by omega) h2 ?_
  rw [a_I]
  refine e_arg (by omega) h2 ?_
  rw [a_I]
  refine e_arg (by omega) h2 ?_
  rw [a_I]
  refine e_arg (by omega) h2 ?_
  rw [a_nil]
  exact y
theorem la_0 {b L O M i : Nat} {xs : Nat → Int32} {st : Stt} {h : AH} {N : List Value → AH → Prop} {R : Int32 → AH → Prop} (hi : i + 6 ≤ L) (hL : L ≤ 3072) (q : JS O M st h) (tO : hT h O = 12) (kk : ∀ st' h', JS O M st' h' → Rm O 709 3730 h h' → N [.ref b, .ref O, .ref M, .int (nI i)] h') : wps (lb_0 b L xs) [.ref b, .ref O, .ref M, .int (nI i)] h Fl N Fl R := by
  obtain ⟨tp, gr, nt, tx, past, sh⟩ := st
  obtain ⟨h1, h2, e1, tM, e2, js, rm⟩ := JS_step (dT := d_TL_feed) (dM := d_M_feed) (aT := [.ref O, .int (xs (i + 1)), .int (xs (i + 2)), .int (xs (i + 3)), .int (xs (i + 4)), .int (xs (i + 5))]) (aM := [.ref M, .int (xs (i + 1)), .int (xs (i + 2)), .int (xs (i + 3)), .int (xs (i + 4)), .int (xs (i + 5))]) (st' := (feedF (tp, gr, nt, tx, past, sh) (xs (i + 1)) (xs (i + 2)) (xs (i + 3)) (xs (i + 4)) (xs (i + 5))).2) q (fun Γ ci => (c_feed ci _ _ _ _ _).elim fun h' y => ⟨Γ, h', y.1, y.2.1, y.2.2.w (by omega) (by omega)⟩) (fun v h' e => m_TL_feed.1 _ _ _ _ e) (by decide) (fun h' f H ms => q_feed H ms _ _ _ _ _)
  unfold lb_0
  exact arm (ar5 hi hL) (ar5 hi hL) tO e1 tM e2 (kk _ h2 js rm)
theorem la_1 {b L O M i : Nat} {xs : Nat → Int32} {st : Stt} {h : AH} {N : List Value → AH → Prop} {R : Int32 → AH → Prop} (hi : i + 6 ≤ L) (hL : L ≤ 3072) (q : JS O M st h) (tO : hT h O = 12) (kk : ∀ st' h', JS O M st' h' → Rm O 709 3730 h h' → N [.ref b, .ref O, .ref M, .int (nI i)] h') : wps (lb_1 b L xs) [.ref b, .ref O, .ref M, .int (nI i)] h Fl N Fl R := by
  obtain ⟨tp, gr, nt, tx, past, sh⟩ := st
  obtain ⟨h1, h2, e1, tM, e2, js, rm⟩ := JS_step (dT := d_TL_end) (dM := d_M_end) (aT := [.ref O, .int (xs (i + 1))]) (aM := [.ref M, .int (xs (i + 1))]) (st' := (endF (tp, gr, nt, tx, past, sh) (xs (i + 1))).2) q (fun Γ ci => (c_end ci _).elim fun h' y => ⟨Γ, h', y.1, y.2.1, y.2.2.w (by omega) (by omega)⟩) (fun v h' e => m_TL_end.1 _ _ _ _ e) (by decide) (fun h' f H ms => q_end H ms _)
  unfold lb_1
  exact arm (ar1 hi hL) (ar1 hi hL) tO e1 tM e2 (kk _ h2 js rm)
theorem la_2 {b L O M i : Nat} {xs : Nat → Int32} {st : Stt} {h : AH} {N : List Value → AH → Prop} {R : Int32 → AH → Prop} (hi : i + 6 ≤ L) (hL : L ≤ 3072) (q : JS O M st h) (tO : hT h O = 12) (kk : ∀ st' h', JS O M st' h' → Rm O 709 3730 h h' → N [.ref b, .ref O, .ref M, .int (nI i)] h') : wps (lb_2 b L xs) [.ref b, .ref O, .ref M, .int (nI i)] h Fl N Fl R := by
  obtain ⟨tp, gr, nt, tx, past, sh⟩ := st
  obtain ⟨h1, h2, e1, tM, e2, js, rm⟩ := JS_step (dT := d_TL_tell) (dM := d_M_tell) (aT := [.ref O]) (aM := [.ref M]) (st' := (tellF (tp, gr, nt, tx, past, sh)).2) q (fun Γ ci => c_tell ci) (fun v h' e => m_TL_tell.1 _ _ _ _ e) (by decide) (fun h' f H ms => q_tell H ms)
  unfold lb_2
  exact arm (ar0 hi hL) (ar0 hi hL) tO e1 tM e2 (kk _ h2 js rm)
theorem la_3 {b L O M i : Nat} {xs : Nat → Int32} {st : Stt} {h : AH} {N : List Value → AH → Prop} {R : Int32 → AH → Prop} (hi : i + 6 ≤ L) (hL : L ≤ 3072) (q : JS O M st h) (tO : hT h O = 12) (kk : ∀ st' h', JS O M st' h' → Rm O 709 3730 h h' → N [.ref b, .ref O, .ref M, .int (nI i)] h') : wps (lb_3 b L xs) [.ref b, .ref O, .ref M, .int (nI i)] h Fl N Fl R := by
  obtain ⟨tp, gr, nt, tx, past, sh⟩ := st
  obtain ⟨h1, h2, e1, tM, e2, js, rm⟩ := JS_step (dT := d_TL_notion) (dM := d_M_notion) (aT := [.ref O]) (aM := [.ref M]) (st' := (notionF (tp, gr, nt, tx, past, sh)).2) q (fun Γ ci => (c_notion ci).elim fun h' y => ⟨Γ, h', y.1, y.2.1, y.2.2.w (by omega) (by omega)⟩) (fun v h' e => m_TL_notion.1 _ _ _ _ e) (by decide) (fun h' f H ms => q_notion H ms)
  unfold lb_3
  exact arm (ar0 hi hL) (ar0 hi hL) tO e1 tM e2 (kk _ h2 js rm)
theorem la_4 {b L O M i : Nat} {xs : Nat → Int32} {st : Stt} {h : AH} {N : List Value → AH → Prop} {R : Int32 → AH → Prop} (hi : i + 6 ≤ L) (hL : L ≤ 3072) (q : JS O M st h) (tO : hT h O = 12) (kk : ∀ st' h', JS O M st' h' → Rm O 709 3730 h h' → N [.ref b, .ref O, .ref M, .int (nI i)] h') : wps (lb_4 b L xs) [.ref b, .ref O, .ref M, .int (nI i)] h Fl N Fl R := by
  obtain ⟨tp, gr, nt, tx, past, sh⟩ := st
  obtain ⟨h1, h2, e1, tM, e2, js, rm⟩ := JS_step (dT := d_TL_text) (dM := d_M_text) (aT := [.ref O]) (aM := [.ref M]) (st' := (textF (tp, gr, nt, tx, past, sh)).2) q (fun Γ ci => (c_text ci).elim fun h' y => ⟨Γ, h', y.1, y.2.1, y.2.2.w (by omega) (by omega)⟩) (fun v h' e => m_TL_text.1 _ _ _ _ e) (by decide) (fun h' f H ms => q_text H ms)
  unfold lb_4
  exact arm (ar0 hi hL) (ar0 hi hL) tO e1 tM e2 (kk _ h2 js rm)
theorem la_5 {b L O M i : Nat} {xs : Nat → Int32} {st : Stt} {h : AH} {N : List Value → AH → Prop} {R : Int32 → AH → Prop} (hi : i + 6 ≤ L) (hL : L ≤ 3072) (q : JS O M st h) (tO : hT h O = 12) (kk : ∀ st' h', JS O M st' h' → Rm O 709 3730 h h' → N [.ref b, .ref O, .ref M, .int (nI i)] h') : wps (lb_5 b L xs) [.ref b, .ref O, .ref M, .int (nI i)] h Fl N Fl R := by
  obtain ⟨tp, gr, nt, tx, past, sh⟩ := st
  obtain ⟨h1, h2, e1, tM, e2, js, rm⟩ := JS_step (dT := d_TL_settle) (dM := d_M_settle) (aT := [.ref O, .int (xs (i + 1)), .int (xs (i + 2))]) (aM := [.ref M, .int (xs (i + 1)), .int (xs (i + 2))]) (st' := (settleF (tp, gr, nt, tx, past, sh) (xs (i + 1)) (xs (i + 2))).2) q (fun Γ ci => (c_settle ci _ _).elim fun h' y => ⟨Γ, h', y.1, y.2.1, y.2.2.w (by omega) (by omega)⟩) (fun v h' e => m_TL_settle.1 _ _ _ _ e) (by decide) (fun h' f H ms => q_settle H ms _ _)
  unfold lb_5
  exact arm (ar2 hi hL) (ar2 hi hL) tO e1 tM e2 (kk _ h2 js rm)
theorem la_6 {b L O M i : Nat} {xs : Nat → Int32} {st : Stt} {h : AH} {N : List Value → AH → Prop} {R : Int32 → AH → Prop} (hi : i + 6 ≤ L) (hL : L ≤ 3072) (q : JS O M st h) (tO : hT h O = 12) (kk : ∀ st' h', JS O M st' h' → Rm O 709 3730 h h' → N [.ref b, .ref O, .ref M, .int (nI i)] h') : wps (lb_6 b L xs) [.ref b, .ref O, .ref M, .int (nI i)] h Fl N Fl R := by
  obtain ⟨tp, gr, nt, tx, past, sh⟩ := st
  obtain ⟨h1, h2, e1, tM, e2, js, rm⟩ := JS_step (dT := d_TL_drop) (dM := d_M_drop) (aT := [.ref O, .int (xs (i + 1))]) (aM := [.ref M, .int (xs (i + 1))]) (st' := (dropF (tp, gr, nt, tx, past, sh) (xs (i + 1))).2) q (fun Γ ci => (c_drop ci _).elim fun h' y => ⟨Γ, h', y.1, y.2.1, y.2.2.w (by omega) (by omega)⟩) (fun v h' e => m_TL_drop.1 _ _ _ _ e) (by decide) (fun h' f H ms => q_drop H ms _)
  unfold lb_6
  exact arm (ar1 hi hL) (ar1 hi hL) tO e1 tM e2 (kk _ h2 js rm)
theorem la_7 {b L O M i : Nat} {xs : Nat → Int32} {st : Stt} {h : AH} {N : List Value → AH → Prop} {R : Int32 → AH → Prop} (hi : i + 6 ≤ L) (hL : L ≤ 3072) (q : JS O M st h) (tO : hT h O = 12) (kk : ∀ st' h', JS O M st' h' → Rm O 709 3730 h h' → N [.ref b, .ref O, .ref M, .int (nI i)] h') : wps (lb_7 b L xs) [.ref b, .ref O, .ref M, .int (nI i)] h Fl N Fl R := by
  obtain ⟨tp, gr, nt, tx, past, sh⟩ := st
  obtain ⟨h1, h2, e1, tM, e2, js, rm⟩ := JS_step (dT := d_TL_swap) (dM := d_M_swap) (aT := [.ref O, .int (xs (i + 1)), .int (xs (i + 2))]) (aM := [.ref M, .int (xs (i + 1)), .int (xs (i + 2))]) (st' := (swapF (tp, gr, nt, tx, past, sh) (xs (i + 1)) (xs (i + 2))).2) q (fun Γ ci => (c_swap ci _ _).elim fun h' y => ⟨Γ, h', y.1, y.2.1, y.2.2.w (by omega) (by omega)⟩) (fun v h' e => m_TL_swap.1 _ _ _ _ e) (by decide) (fun h' f H ms => q_swap H ms _ _)
  unfold lb_7
  exact arm (ar2 hi hL) (ar2 hi hL) tO e1 tM e2 (kk _ h2 js rm)
theorem la_8 {b L O M i : Nat} {xs : Nat → Int32} {st : Stt} {h : AH} {N : List Value → AH → Prop} {R : Int32 → AH → Prop} (hi : i + 6 ≤ L) (hL : L ≤ 3072) (q : JS O M st h) (tO : hT h O = 12) (kk : ∀ st' h', JS O M st' h' → Rm O 709 3730 h h' → N [.ref b, .ref O, .ref M, .int (nI i)] h') : wps (lb_8 b L xs) [.ref b, .ref O, .ref M, .int (nI i)] h Fl N Fl R := by
  obtain ⟨tp, gr, nt, tx, past, sh⟩ := st
  obtain ⟨h1, h2, e1, tM, e2, js, rm⟩ := JS_step (dT := d_TL_undo) (dM := d_M_undo) (aT := [.ref O]) (aM := [.ref M]) (st' := (undoF (tp, gr, nt, tx, past, sh)).2) q (fun Γ ci => (c_undo ci).elim fun h' y => ⟨Γ, h', y.1, y.2.1, y.2.2.w (by omega) (by omega)⟩) (fun v h' e => m_TL_undo.1 _ _ _ _ e) (by decide) (fun h' f H ms => q_undo H ms)
  unfold lb_8
  exact arm (ar0 hi hL) (ar0 hi hL) tO e1 tM e2 (kk _ h2 js rm)
theorem la_9 {b L O M i : Nat} {xs : Nat → Int32} {st : Stt} {h : AH} {N : List Value → AH → Prop} {R : Int32 → AH → Prop} (hi : i + 6 ≤ L) (hL : L ≤ 3072) (q : JS O M st h) (tO : hT h O = 12) (kk : ∀ st' h', JS O M st' h' → Rm O 709 3730 h h' → N [.ref b, .ref O, .ref M, .int (nI i)] h') : wps (lb_9 b L xs) [.ref b, .ref O, .ref M, .int (nI i)] h Fl N Fl R := by
  obtain ⟨tp, gr, nt, tx, past, sh⟩ := st
  obtain ⟨h1, h2, e1, tM, e2, js, rm⟩ := JS_step (dT := d_TL_keep) (dM := d_M_keep) (aT := [.ref O, .int (xs (i + 1))]) (aM := [.ref M, .int (xs (i + 1))]) (st' := (keepF (tp, gr, nt, tx, past, sh) (xs (i + 1))).2) q (fun Γ ci => (c_keep ci _).elim fun h' y => ⟨Γ, h', y.1, y.2.1, y.2.2.w (by omega) (by omega)⟩) (fun v h' e => m_TL_keep.1 _ _ _ _ e) (by decide) (fun h' f H ms => q_keep H ms _)
  unfold lb_9
  exact arm (ar1 hi hL) (ar1 hi hL) tO e1 tM e2 (kk _ h2 js rm)
theorem la_10 {b L O M i : Nat} {xs : Nat → Int32} {st : Stt} {h : AH} {N : List Value → AH → Prop} {R : Int32 → AH → Prop} (hi : i + 6 ≤ L) (hL : L ≤ 3072) (q : JS O M st h) (tO : hT h O = 12) (kk : ∀ st' h', JS O M st' h' → Rm O 709 3730 h h' → N [.ref b, .ref O, .ref M, .int (nI i)] h') : wps (lb_10 b L xs) [.ref b, .ref O, .ref M, .int (nI i)] h Fl N Fl R := by
  obtain ⟨tp, gr, nt, tx, past, sh⟩ := st
  obtain ⟨h1, h2, e1, tM, e2, js, rm⟩ := JS_step (dT := d_TL_back) (dM := d_M_back) (aT := [.ref O, .int (xs (i + 1))]) (aM := [.ref M, .int (xs (i + 1))]) (st' := (backF (tp, gr, nt, tx, past, sh) (xs (i + 1))).2) q (fun Γ ci => (c_back ci _).elim fun h' y => ⟨Γ, h', y.1, y.2.1, y.2.2.w (by omega) (by omega)⟩) (fun v h' e => m_TL_back.1 _ _ _ _ e) (by decide) (fun h' f H ms => q_back H ms _)
  unfold lb_10
  exact arm (ar1 hi hL) (ar1 hi hL) tO e1 tM e2 (kk _ h2 js rm)
theorem la_11 {b L O M i : Nat} {xs : Nat → Int32} {st : Stt} {h : AH} {N : List Value → AH → Prop} {R : Int32 → AH → Prop} (hi : i + 6 ≤ L) (hL : L ≤ 3072) (q : JS O M st h) (tO : hT h O = 12) (kk : ∀ st' h', JS O M st' h' → Rm O 709 3730 h h' → N [.ref b, .ref O, .ref M, .int (nI i)] h') : wps (lb_11 b L xs) [.ref b, .ref O, .ref M, .int (nI i)] h Fl N Fl R := by
  obtain ⟨tp, gr, nt, tx, past, sh⟩ := st
  obtain ⟨h1, h2, e1, tM, e2, js, rm⟩ := JS_step (dT := d_TL_letter) (dM := d_M_letter) (aT := [.ref O, .int (xs (i + 1)), .int (xs (i + 2))]) (aM := [.ref M, .int (xs (i + 1)), .int (xs (i + 2))]) (st' := (tp, gr, nt, tx, past, sh)) q (fun Γ ci => ⟨Γ, h, c_letter ci _ _, ci, Rm.rf⟩) (fun v h' e => m_TL_letter.1 _ _ _ _ e) (by decide) (fun h' f H ms => ms.2.1.elim fun g hn => ⟨f, q_letter H hn _ _, ms⟩)
  unfold lb_11
  exact arm (ar2 hi hL) (ar2 hi hL) tO e1 tM e2 (kk _ h2 js rm)
theorem la_12 {b L O M i : Nat} {xs : Nat → Int32} {st : Stt} {h : AH} {N : List Value → AH → Prop} {R : Int32 → AH → Prop} (hi : i + 6 ≤ L) (hL : L ≤ 3072) (q : JS O M st h) (tO : hT h O = 12) (kk : ∀ st' h', JS O M st' h' → Rm O 709 3730 h h' → N [.ref b, .ref O, .ref M, .int (nI i)] h') : wps (lb_12 b L xs) [.ref b, .ref O, .ref M, .int (nI i)] h Fl N Fl R := by
  obtain ⟨tp, gr, nt, tx, past, sh⟩ := st
  obtain ⟨h1, h2, e1, tM, e2, js, rm⟩ := JS_step (dT := d_TL_meta) (dM := d_M_meta) (aT := [.ref O, .int (xs (i + 1)), .int (xs (i + 2))]) (aM := [.ref M, .int (xs (i + 1)), .int (xs (i + 2))]) (st' := (tp, gr, nt, tx, past, sh)) q (fun Γ ci => ⟨Γ, h, c_meta ci _ _, ci, Rm.rf⟩) (fun v h' e => m_TL_meta.1 _ _ _ _ e) (by decide) (fun h' f H ms => ms.2.1.elim fun g hn => (q_metaP H hn (Ca_fd ms.2.2.2.2) _ _).elim fun f' y => ⟨f', y.1, MS_Qt ms y.2⟩)
  unfold lb_12
  exact arm (ar2 hi hL) (ar2 hi hL) tO e1 tM e2 (kk _ h2 js rm)
theorem la_13 {b L O M i : Nat} {xs : Nat → Int32} {st : Stt} {h : AH} {N : List Value → AH → Prop} {R : Int32 → AH → Prop} (hi : i + 6 ≤ L) (hL : L ≤ 3072) (q : JS O M st h) (tO : hT h O = 12) (kk : ∀ st' h', JS O M st' h' → Rm O 709 3730 h h' → N [.ref b, .ref O, .ref M, .int (nI i)] h') : wps (lb_13 b L xs) [.ref b, .ref O, .ref M, .int (nI i)] h Fl N Fl R := by
  obtain ⟨tp, gr, nt, tx, past, sh⟩ := st
  obtain ⟨h1, h2, e1, tM, e2, js, rm⟩ := JS_step (dT := d_TL_word) (dM := d_M_word) (aT := [.ref O, .int (xs (i + 1)), .int (xs (i + 2)), .int (xs (i + 3))]) (aM := [.ref M, .int (xs (i + 1)), .int (xs (i + 2)), .int (xs (i + 3))]) (st' := (tp, gr, nt, tx, past, sh)) q (fun Γ ci => ⟨Γ, h, c_word ci _ _ _, ci, Rm.rf⟩) (fun v h' e => m_TL_word.1 _ _ _ _ e) (by decide) (fun h' f H ms => ms.2.1.elim fun g hn => (q_wordP H hn (Ca_fd ms.2.2.2.2) _ _ _).elim fun f' y => ⟨f', y.1, MS_Qt ms y.2⟩)
  unfold lb_13
  exact arm (ar3 hi hL) (ar3 hi hL) tO e1 tM e2 (kk _ h2 js rm)
theorem la_14 {b L O M i : Nat} {xs : Nat → Int32} {st : Stt} {h : AH} {N : List Value → AH → Prop} {R : Int32 → AH → Prop} (hi : i + 6 ≤ L) (hL : L ≤ 3072) (q : JS O M st h) (tO : hT h O = 12) (kk : ∀ st' h', JS O M st' h' → Rm O 709 3730 h h' → N [.ref b, .ref O, .ref M, .int (nI i)] h') : wps (lb_14 b L xs) [.ref b, .ref O, .ref M, .int (nI i)] h Fl N Fl R := by
  obtain ⟨tp, gr, nt, tx, past, sh⟩ := st
  obtain ⟨h1, h2, e1, tM, e2, js, rm⟩ := JS_step (dT := d_TL_is) (dM := d_M_is) (aT := [.ref O, .int (xs (i + 1))]) (aM := [.ref M, .int (xs (i + 1))]) (st' := (tp, gr, nt, tx, past, sh)) q (fun Γ ci => (c_is ci _).elim fun h' y => ⟨Γ, h', y.1, y.2.1, y.2.2.w (by omega) (by omega)⟩) (fun v h' e => m_TL_is.1 _ _ _ _ e) (by decide) (fun h' f H ms => ms.2.1.elim fun g hn => (q_is H hn _).elim fun f' y => ⟨f', y.1, MS_Qt ms (Qt_3 y.2)⟩)
  unfold lb_14
  exact arm (ar1 hi hL) (ar1 hi hL) tO e1 tM e2 (kk _ h2 js rm)
theorem la_15 {b L O M i : Nat} {xs : Nat → Int32} {st : Stt} {h : AH} {N : List Value → AH → Prop} {R : Int32 → AH → Prop} (hi : i + 6 ≤ L) (hL : L ≤ 3072) (q : JS O M st h) (tO : hT h O = 12) (kk : ∀ st' h', JS O M st' h' → Rm O 709 3730 h h' → N [.ref b, .ref O, .ref M, .int (nI i)] h') : wps (lb_15 b L xs) [.ref b, .ref O, .ref M, .int (nI i)] h Fl N Fl R := by
  obtain ⟨tp, gr, nt, tx, past, sh⟩ := st
  obtain ⟨h1, h2, e1, tM, e2, js, rm⟩ := JS_step (dT := d_TL_span) (dM := d_M_span) (aT := [.ref O, .int (xs (i + 1)), .int (xs (i + 2)), .int (xs (i + 3))]) (aM := [.ref M, .int (xs (i + 1)), .int (xs (i + 2)), .int (xs (i + 3))]) (st' := (tp, gr, nt, tx, past, sh)) q (fun Γ ci => (c_span ci _ _ _).elim fun h' y => ⟨Γ, h', y.1, y.2.1, y.2.2.w (by omega) (by omega)⟩) (fun v h' e => m_TL_span.1 _ _ _ _ e) (by decide) (fun h' f H ms => ms.2.1.elim fun g hn => (q_span H hn _ _ _).elim fun f' y => ⟨f', y.1, MS_Qt ms (Qt_3 y.2)⟩)
  unfold lb_15
  exact arm (ar3 hi hL) (ar3 hi hL) tO e1 tM e2 (kk _ h2 js rm)
theorem la_16 {b L O M i : Nat} {xs : Nat → Int32} {st : Stt} {h : AH} {N : List Value → AH → Prop} {R : Int32 → AH → Prop} (hi : i + 6 ≤ L) (hL : L ≤ 3072) (q : JS O M st h) (tO : hT h O = 12) (kk : ∀ st' h', JS O M st' h' → Rm O 709 3730 h h' → N [.ref b, .ref O, .ref M, .int (nI i)] h') : wps (lb_16 b L xs) [.ref b, .ref O, .ref M, .int (nI i)] h Fl N Fl R := by
  obtain ⟨tp, gr, nt, tx, past, sh⟩ := st
  obtain ⟨h1, h2, e1, tM, e2, js, rm⟩ := JS_step (dT := d_TL_rule) (dM := d_M_rule) (aT := [.ref O, .int (xs (i + 1)), .int (xs (i + 2))]) (aM := [.ref M, .int (xs (i + 1)), .int (xs (i + 2))]) (st' := (tp, gr, nt, tx, past, sh)) q (fun Γ ci => ⟨Γ, h, c_rule ci _ _, ci, Rm.rf⟩) (fun v h' e => m_TL_rule.1 _ _ _ _ e) (by decide) (fun h' f H ms => ms.2.1.elim fun g hn => ⟨f, q_rule H hn _ _, ms⟩)
  unfold lb_16
  exact arm (ar2 hi hL) (ar2 hi hL) tO e1 tM e2 (kk _ h2 js rm)
theorem la_17 {b L O M i : Nat} {xs : Nat → Int32} {st : Stt} {h : AH} {N : List Value → AH → Prop} {R : Int32 → AH → Prop} (hi : i + 6 ≤ L) (hL : L ≤ 3072) (q : JS O M st h) (tO : hT h O = 12) (kk : ∀ st' h', JS O M st' h' → Rm O 709 3730 h h' → N [.ref b, .ref O, .ref M, .int (nI i)] h') : wps (lb_17 b L xs) [.ref b, .ref O, .ref M, .int (nI i)] h Fl N Fl R := by
  obtain ⟨tp, gr, nt, tx, past, sh⟩ := st
  obtain ⟨h1, h2, e1, tM, e2, js, rm⟩ := JS_step (dT := d_TL_head) (dM := d_M_head) (aT := [.ref O, .int (xs (i + 1)), .int (xs (i + 2))]) (aM := [.ref M, .int (xs (i + 1)), .int (xs (i + 2))]) (st' := (tp, gr, nt, tx, past, sh)) q (fun Γ ci => ⟨Γ, h, c_head ci _ _, ci, Rm.rf⟩) (fun v h' e => m_TL_head.1 _ _ _ _ e) (by decide) (fun h' f H ms => ms.2.1.elim fun g hn => ⟨f, q_head H hn _ _, ms⟩)
  unfold lb_17
  exact arm (ar2 hi hL) (ar2 hi hL) tO e1 tM e2 (kk _ h2 js rm)
theorem la_18 {b L O M i : Nat} {xs : Nat → Int32} {st : Stt} {h : AH} {N : List Value → AH → Prop} {R : Int32 → AH → Prop} (hi : i + 6 ≤ L) (hL : L ≤ 3072) (q : JS O M st h) (tO : hT h O = 12) (kk : ∀ st' h', JS O M st' h' → Rm O 709 3730 h h' → N [.ref b, .ref O, .ref M, .int (nI i)] h') : wps (lb_18 b L xs) [.ref b, .ref O, .ref M, .int (nI i)] h Fl N Fl R := by
  obtain ⟨tp, gr, nt, tx, past, sh⟩ := st
  obtain ⟨h1, h2, e1, tM, e2, js, rm⟩ := JS_step (dT := d_TL_choice) (dM := d_M_choice) (aT := [.ref O, .int (xs (i + 1)), .int (xs (i + 2)), .int (xs (i + 3))]) (aM := [.ref M, .int (xs (i + 1)), .int (xs (i + 2)), .int (xs (i + 3))]) (st' := (tp, gr, nt, tx, past, sh)) q (fun Γ ci => ⟨Γ, h, c_choice ci _ _ _, ci, Rm.rf⟩) (fun v h' e => m_TL_choice.1 _ _ _ _ e) (by decide) (fun h' f H ms => ms.2.1.elim fun g hn => (q_choice H hn _ _ _).elim fun f' y => ⟨f', y.1, MS_Qt ms (Qt_c y.2.1 y.2.2)⟩)
  unfold lb_18
  exact arm (ar3 hi hL) (ar3 hi hL) tO e1 tM e2 (kk _ h2 js rm)
theorem la_19 {b L O M i : Nat} {xs : Nat → Int32} {st : Stt} {h : AH} {N : List Value → AH → Prop} {R : Int32 → AH → Prop} (hi : i + 6 ≤ L) (hL : L ≤ 3072) (q : JS O M st h) (tO : hT h O = 12) (kk : ∀ st' h', JS O M st' h' → Rm O 709 3730 h h' → N [.ref b, .ref O, .ref M, .int (nI i)] h') : wps (lb_19 b L xs) [.ref b, .ref O, .ref M, .int (nI i)] h Fl N Fl R := by
  obtain ⟨tp, gr, nt, tx, past, sh⟩ := st
  obtain ⟨h1, h2, e1, tM, e2, js, rm⟩ := JS_step (dT := d_TL_heads) (dM := d_M_heads) (aT := [.ref O, .int (xs (i + 1))]) (aM := [.ref M, .int (xs (i + 1))]) (st' := (tp, gr, nt, tx, past, sh)) q (fun Γ ci => (c_heads ci _).elim fun h' y => ⟨Γ, h', y.1, y.2.1, y.2.2.w (by omega) (by omega)⟩) (fun v h' e => m_TL_heads.1 _ _ _ _ e) (by decide) (fun h' f H ms => ms.2.1.elim fun g hn => (q_heads H hn _).elim fun f' y => ⟨f', y.1, MS_Qt ms y.2⟩)
  unfold lb_19
  exact arm (ar1 hi hL) (ar1 hi hL) tO e1 tM e2 (kk _ h2 js rm)
theorem la_20 {b L O M i : Nat} {xs : Nat → Int32} {st : Stt} {h : AH} {N : List Value → AH → Prop} {R : Int32 → AH → Prop} (hi : i + 6 ≤ L) (hL : L ≤ 3072) (q : JS O M st h) (tO : hT h O = 12) (kk : ∀ st' h', JS O M st' h' → Rm O 709 3730 h h' → N [.ref b, .ref O, .ref M, .int (nI i)] h') : wps (lb_20 b L xs) [.ref b, .ref O, .ref M, .int (nI i)] h Fl N Fl R := by
  obtain ⟨tp, gr, nt, tx, past, sh⟩ := st
  obtain ⟨h1, h2, e1, tM, e2, js, rm⟩ := JS_step (dT := d_TL_assigned) (dM := d_M_assigned) (aT := [.ref O, .int (xs (i + 1)), .int (xs (i + 2)), .int (xs (i + 3)), .int (xs (i + 4))]) (aM := [.ref M, .int (xs (i + 1)), .int (xs (i + 2)), .int (xs (i + 3)), .int (xs (i + 4))]) (st' := (tp, gr, nt, tx, past, sh)) q (fun Γ ci => (c_assigned ci _ _ _ _).elim fun h' y => ⟨Γ, h', y.1, y.2.1, y.2.2.w (by omega) (by omega)⟩) (fun v h' e => m_TL_assigned.1 _ _ _ _ e) (by decide) (fun h' f H ms => ms.2.1.elim fun g hn => (q_assigned H hn _ _ _ _).elim fun f' y => ⟨f', y.1, MS_Qt ms y.2⟩)
  unfold lb_20
  exact arm (ar4 hi hL) (ar4 hi hL) tO e1 tM e2 (kk _ h2 js rm)
theorem la_21 {b L O M i : Nat} {xs : Nat → Int32} {st : Stt} {h : AH} {N : List Value → AH → Prop} {R : Int32 → AH → Prop} (hi : i + 6 ≤ L) (hL : L ≤ 3072) (q : JS O M st h) (tO : hT h O = 12) (kk : ∀ st' h', JS O M st' h' → Rm O 709 3730 h h' → N [.ref b, .ref O, .ref M, .int (nI i)] h') : wps (lb_21 b L xs) [.ref b, .ref O, .ref M, .int (nI i)] h Fl N Fl R := by
  obtain ⟨tp, gr, nt, tx, past, sh⟩ := st
  obtain ⟨h1, h2, e1, tM, e2, js, rm⟩ := JS_step (dT := d_TL_blind) (dM := d_M_blind) (aT := [.ref O]) (aM := [.ref M]) (st' := (tp, gr, nt, tx, past, sh)) q (fun Γ ci => (c_blind ci).elim fun h' y => ⟨Γ, h', y.1, y.2.1, y.2.2.w (by omega) (by omega)⟩) (fun v h' e => m_TL_blind.1 _ _ _ _ e) (by decide) (fun h' f H ms => ms.2.1.elim fun g hn => (q_blind H hn).elim fun f' y => ⟨f', y.1, MS_Qt ms y.2⟩)
  unfold lb_21
  exact arm (ar0 hi hL) (ar0 hi hL) tO e1 tM e2 (kk _ h2 js rm)
theorem la_22 {b L O M i : Nat} {xs : Nat → Int32} {st : Stt} {h : AH} {N : List Value → AH → Prop} {R : Int32 → AH → Prop} (hi : i + 6 ≤ L) (hL : L ≤ 3072) (q : JS O M st h) (tO : hT h O = 12) (kk : ∀ st' h', JS O M st' h' → Rm O 709 3730 h h' → N [.ref b, .ref O, .ref M, .int (nI i)] h') : wps (lb_22 b L xs) [.ref b, .ref O, .ref M, .int (nI i)] h Fl N Fl R := by
  obtain ⟨tp, gr, nt, tx, past, sh⟩ := st
  obtain ⟨h1, h2, e1, tM, e2, js, rm⟩ := JS_step (dT := d_TL_holds) (dM := d_M_holds) (aT := [.ref O]) (aM := [.ref M]) (st' := (tp, gr, nt, tx, past, sh)) q (fun Γ ci => (c_holds ci).elim fun h' y => ⟨Γ, h', y.1, y.2.1, y.2.2.w (by omega) (by omega)⟩) (fun v h' e => m_TL_holds.1 _ _ _ _ e) (by decide) (fun h' f H ms => ms.2.1.elim fun g hn => (q_holds H hn ms.2.2.2.2).elim fun f' y => ⟨f', y.1, MS_St ms y.2.1 y.2.2⟩)
  unfold lb_22
  exact arm (ar0 hi hL) (ar0 hi hL) tO e1 tM e2 (kk _ h2 js rm)
theorem la_23 {b L O M i : Nat} {xs : Nat → Int32} {st : Stt} {h : AH} {N : List Value → AH → Prop} {R : Int32 → AH → Prop} (hi : i + 6 ≤ L) (hL : L ≤ 3072) (q : JS O M st h) (tO : hT h O = 12) (kk : ∀ st' h', JS O M st' h' → Rm O 709 3730 h h' → N [.ref b, .ref O, .ref M, .int (nI i)] h') : wps (lb_23 b L xs) [.ref b, .ref O, .ref M, .int (nI i)] h Fl N Fl R := by
  obtain ⟨tp, gr, nt, tx, past, sh⟩ := st
  obtain ⟨h1, h2, e1, tM, e2, js, rm⟩ := JS_step (dT := d_TL_derives) (dM := d_M_derives) (aT := [.ref O]) (aM := [.ref M]) (st' := (tp, gr, nt, tx, past, sh)) q (fun Γ ci => (c_derives ci).elim fun h' y => ⟨Γ, h', y.1, y.2.1, y.2.2.w (by omega) (by omega)⟩) (fun v h' e => m_TL_derives.1 _ _ _ _ e) (by decide) (fun h' f H ms => ms.2.1.elim fun g hn => (q_derives H hn ms.2.2.2.2).elim fun f' y => ⟨f', y.1, MS_St ms y.2.1 y.2.2⟩)
  unfold lb_23
  exact arm (ar0 hi hL) (ar0 hi hL) tO e1 tM e2 (kk _ h2 js rm)
theorem la_24 {b L O M i : Nat} {xs : Nat → Int32} {st : Stt} {h : AH} {N : List Value → AH → Prop} {R : Int32 → AH → Prop} (hi : i + 6 ≤ L) (hL : L ≤ 3072) (q : JS O M st h) (tO : hT h O = 12) (kk : ∀ st' h', JS O M st' h' → Rm O 709 3730 h h' → N [.ref b, .ref O, .ref M, .int (nI i)] h') : wps (lb_24 b L xs) [.ref b, .ref O, .ref M, .int (nI i)] h Fl N Fl R := by
  obtain ⟨tp, gr, nt, tx, past, sh⟩ := st
  obtain ⟨h1, h2, e1, tM, e2, js, rm⟩ := JS_step (dT := d_TL_steps) (dM := d_M_steps) (aT := [.ref O, .int (xs (i + 1))]) (aM := [.ref M, .int (xs (i + 1))]) (st' := (tp, gr, nt, tx, past, sh)) q (fun Γ ci => (c_steps ci _).elim fun h' y => ⟨Γ, h', y.1, y.2.1, y.2.2.w (by omega) (by omega)⟩) (fun v h' e => m_TL_steps.1 _ _ _ _ e) (by decide) (fun h' f H ms => ms.2.1.elim fun g hn => (q_steps H hn ms.2.2.2.2 _).elim fun f' y => ⟨f', y.1, MS_St ms y.2.1 y.2.2⟩)
  unfold lb_24
  exact arm (ar1 hi hL) (ar1 hi hL) tO e1 tM e2 (kk _ h2 js rm)
theorem la_25 {b L O M i : Nat} {xs : Nat → Int32} {st : Stt} {h : AH} {N : List Value → AH → Prop} {R : Int32 → AH → Prop} (hi : i + 6 ≤ L) (hL : L ≤ 3072) (q : JS O M st h) (tO : hT h O = 12) (kk : ∀ st' h', JS O M st' h' → Rm O 709 3730 h h' → N [.ref b, .ref O, .ref M, .int (nI i)] h') : wps (lb_25 b L xs) [.ref b, .ref O, .ref M, .int (nI i)] h Fl N Fl R := by
  obtain ⟨tp, gr, nt, tx, past, sh⟩ := st
  obtain ⟨h1, h2, e1, tM, e2, js, rm⟩ := JS_step (dT := d_TL_least) (dM := d_M_least) (aT := [.ref O]) (aM := [.ref M]) (st' := (tp, gr, nt, tx, past, sh)) q (fun Γ ci => (c_least ci).elim fun h' y => ⟨Γ, h', y.1, y.2.1, y.2.2.w (by omega) (by omega)⟩) (fun v h' e => m_TL_least.1 _ _ _ _ e) (by decide) (fun h' f H ms => ms.2.1.elim fun g hn => (q_least H hn ms.2.2.2.2).elim fun f' y => ⟨f', y.1, MS_St ms y.2.1 y.2.2⟩)
  unfold lb_25
  exact arm (ar0 hi hL) (ar0 hi hL) tO e1 tM e2 (kk _ h2 js rm)
theorem la_26 {b L O M i : Nat} {xs : Nat → Int32} {st : Stt} {h : AH} {N : List Value → AH → Prop} {R : Int32 → AH → Prop} (hi : i + 6 ≤ L) (hL : L ≤ 3072) (q : JS O M st h) (tO : hT h O = 12) (kk : ∀ st' h', JS O M st' h' → Rm O 709 3730 h h' → N [.ref b, .ref O, .ref M, .int (nI i)] h') : wps (lb_26 b L xs) [.ref b, .ref O, .ref M, .int (nI i)] h Fl N Fl R := by
  obtain ⟨tp, gr, nt, tx, past, sh⟩ := st
  obtain ⟨h1, h2, e1, tM, e2, js, rm⟩ := JS_step (dT := d_TL_node) (dM := d_M_node) (aT := [.ref O, .int (xs (i + 1)), .int (xs (i + 2))]) (aM := [.ref M, .int (xs (i + 1)), .int (xs (i + 2))]) (st' := (tp, gr, nt, tx, past, sh)) q (fun Γ ci => (c_node ci _ _).elim fun h' y => ⟨Γ, h', y.1, y.2.1, y.2.2.w (by omega) (by omega)⟩) (fun v h' e => m_TL_node.1 _ _ _ _ e) (by decide) (fun h' f H ms => ms.2.1.elim fun g hn => (q_node H hn ms.2.2.2.2 _ _).elim fun f' y => ⟨f', y.1, MS_St ms y.2.1 y.2.2⟩)
  unfold lb_26
  exact arm (ar2 hi hL) (ar2 hi hL) tO e1 tM e2 (kk _ h2 js rm)
theorem la_27 {b L O M i : Nat} {xs : Nat → Int32} {st : Stt} {h : AH} {N : List Value → AH → Prop} {R : Int32 → AH → Prop} (hi : i + 6 ≤ L) (hL : L ≤ 3072) (q : JS O M st h) (tO : hT h O = 12) (kk : ∀ st' h', JS O M st' h' → Rm O 709 3730 h h' → N [.ref b, .ref O, .ref M, .int (nI i)] h') : wps (lb_27 b L xs) [.ref b, .ref O, .ref M, .int (nI i)] h Fl N Fl R := by
  obtain ⟨tp, gr, nt, tx, past, sh⟩ := st
  obtain ⟨h1, h2, e1, tM, e2, js, rm⟩ := JS_step (dT := d_TL_spelled) (dM := d_M_spelled) (aT := [.ref O, .int (xs (i + 1)), .int (xs (i + 2))]) (aM := [.ref M, .int (xs (i + 1)), .int (xs (i + 2))]) (st' := (tp, gr, nt, tx, past, sh)) q (fun Γ ci => (c_spelled ci _ _).elim fun h' y => ⟨Γ, h', y.1, y.2.1, y.2.2.w (by omega) (by omega)⟩) (fun v h' e => m_TL_spelled.1 _ _ _ _ e) (by decide) (fun h' f H ms => ms.2.1.elim fun g hn => (q_spelled H hn ms.2.2.2.2 _ _).elim fun f' y => ⟨f', y.1, MS_St ms y.2.1 y.2.2⟩)
  unfold lb_27
  exact arm (ar2 hi hL) (ar2 hi hL) tO e1 tM e2 (kk _ h2 js rm)
theorem la_28 {b L O M i : Nat} {xs : Nat → Int32} {st : Stt} {h : AH} {N : List Value → AH → Prop} {R : Int32 → AH → Prop} (hi : i + 6 ≤ L) (hL : L ≤ 3072) (q : JS O M st h) (tO : hT h O = 12) (kk : ∀ st' h', JS O M st' h' → Rm O 709 3730 h h' → N [.ref b, .ref O, .ref M, .int (nI i)] h') : wps (lb_28 b L xs) [.ref b, .ref O, .ref M, .int (nI i)] h Fl N Fl R := by
  obtain ⟨tp, gr, nt, tx, past, sh⟩ := st
  obtain ⟨h1, h2, e1, tM, e2, js, rm⟩ := JS_step (dT := d_TL_free) (dM := d_M_free) (aT := [.ref O, .int (xs (i + 1)), .int (xs (i + 2)), .int (xs (i + 3))]) (aM := [.ref M, .int (xs (i + 1)), .int (xs (i + 2)), .int (xs (i + 3))]) (st' := (tp, gr, nt, tx, past, sh)) q (fun Γ ci => (c_free ci _ _ _).elim fun h' y => ⟨Γ, h', y.1, y.2.1, y.2.2.w (by omega) (by omega)⟩) (fun v h' e => m_TL_free.1 _ _ _ _ e) (by decide) (fun h' f H ms => ms.2.1.elim fun g hn => (q_free H hn ms.2.2.2.2 _ _ _).elim fun f' y => ⟨f', y.1, MS_St ms y.2.1 y.2.2⟩)
  unfold lb_28
  exact arm (ar3 hi hL) (ar3 hi hL) tO e1 tM e2 (kk _ h2 js rm)
theorem la_29 {b L O M i : Nat} {xs : Nat → Int32} {st : Stt} {h : AH} {N : List Value → AH → Prop} {R : Int32 → AH → Prop} (hi : i + 6 ≤ L) (hL : L ≤ 3072) (q : JS O M st h) (tO : hT h O = 12) (kk : ∀ st' h', JS O M st' h' → Rm O 709 3730 h h' → N [.ref b, .ref O, .ref M, .int (nI i)] h') : wps (lb_29 b L xs) [.ref b, .ref O, .ref M, .int (nI i)] h Fl N Fl R := by
  obtain ⟨tp, gr, nt, tx, past, sh⟩ := st
  obtain ⟨h1, h2, e1, tM, e2, js, rm⟩ := JS_step (dT := d_TL_checked) (dM := d_M_checked) (aT := [.ref O]) (aM := [.ref M]) (st' := (tp, gr, nt, tx, past, sh)) q (fun Γ ci => (c_checked ci).elim fun h' y => ⟨Γ, h', y.1, y.2.1, y.2.2.w (by omega) (by omega)⟩) (fun v h' e => m_TL_checked.1 _ _ _ _ e) (by decide) (fun h' f H ms => ms.2.1.elim fun g hn => (q_checked H hn ms.2.2.2.2).elim fun f' y => ⟨f', y.1, MS_St ms y.2.1 y.2.2⟩)
  unfold lb_29
  exact arm (ar0 hi hL) (ar0 hi hL) tO e1 tM e2 (kk _ h2 js rm)
theorem la_30 {b L O M i : Nat} {xs : Nat → Int32} {st : Stt} {h : AH} {N : List Value → AH → Prop} {R : Int32 → AH → Prop} (hi : i + 6 ≤ L) (hL : L ≤ 3072) (q : JS O M st h) (tO : hT h O = 12) (kk : ∀ st' h', JS O M st' h' → Rm O 709 3730 h h' → N [.ref b, .ref O, .ref M, .int (nI i)] h') : wps (lb_30 b L xs) [.ref b, .ref O, .ref M, .int (nI i)] h Fl N Fl R := by
  obtain ⟨tp, gr, nt, tx, past, sh⟩ := st
  obtain ⟨h1, h2, e1, tM, e2, js, rm⟩ := JS_step (dT := d_TL_count) (dM := d_M_count) (aT := [.ref O, .int (xs (i + 1))]) (aM := [.ref M, .int (xs (i + 1))]) (st' := (tp, gr, nt, tx, past, sh)) q (fun Γ ci => ⟨Γ, h, c_count ci _, ci, Rm.rf⟩) (fun v h' e => m_TL_count.1 _ _ _ _ e) (by decide) (fun h' f H ms => q_count H ms _)
  unfold lb_30
  exact arm (ar1 hi hL) (ar1 hi hL) tO e1 tM e2 (kk _ h2 js rm)
theorem law_br {b L O M i : Nat} {xs : Nat → Int32} {st : Stt} {h : AH} {N : List Value → AH → Prop} {R : Int32 → AH → Prop} (hi : i + 6 ≤ L) (hL : L ≤ 3072) (q : JS O M st h) (tO : hT h O = 12) (kk : ∀ st' h', JS O M st' h' → Rm O 709 3730 h h' → N [.ref b, .ref O, .ref M, .int (nI i)] h') : ∀ (j : Nat) (p : ST Int32 × Nat), (lawBr b L xs)[j]? = some p → wps p.1 [.ref b, .ref O, .ref M, .int (nI i)] h Fl N Fl R := by
  intro j p hp
  have all : ∀ p ∈ lawBr b L xs, wps p.1 [.ref b, .ref O, .ref M, .int (nI i)] h Fl N Fl R := by
    unfold lawBr
    exact List.forall_mem_cons.mpr ⟨la_0 (xs := xs) hi hL q tO kk, List.forall_mem_cons.mpr ⟨la_1 (xs := xs) hi hL q tO kk, List.forall_mem_cons.mpr ⟨la_2 (xs := xs) hi hL q tO kk, List.forall_mem_cons.mpr ⟨la_3 (xs := xs) hi hL q tO kk, List.forall_mem_cons.mpr ⟨la_4 (xs := xs) hi hL q tO kk, List.forall_mem_cons.mpr ⟨la_5 (xs := xs) hi hL q tO kk, List.forall_mem_cons.mpr ⟨la_6 (xs := xs) hi hL q tO kk, List.forall_mem_cons.mpr ⟨la_7 (xs := xs) hi hL q tO kk, List.forall_mem_cons.mpr ⟨la_8 (xs := xs) hi hL q tO kk, List.forall_mem_cons.mpr ⟨la_9 (xs := xs) hi hL q tO kk, List.forall_mem_cons.mpr ⟨la_10 (xs := xs) hi hL q tO kk, List.forall_mem_cons.mpr ⟨la_11 (xs := xs) hi hL q tO kk, List.forall_mem_cons.mpr ⟨la_12 (xs := xs) hi hL q tO kk, List.forall_mem_cons.mpr ⟨la_13 (xs := xs) hi hL q tO kk, List.forall_mem_cons.mpr ⟨la_14 (xs := xs) hi hL q tO kk, List.forall_mem_cons.mpr ⟨la_15 (xs := xs) hi hL q tO kk, List.forall_mem_cons.mpr ⟨la_16 (xs := xs) hi hL q tO kk, List.forall_mem_cons.mpr ⟨la_17 (xs := xs) hi hL q tO kk, List.forall_mem_cons.mpr ⟨la_18 (xs := xs) hi hL q tO kk, List.forall_mem_cons.mpr ⟨la_19 (xs := xs) hi hL q tO kk, List.forall_mem_cons.mpr ⟨la_20 (xs := xs) hi hL q tO kk, List.forall_mem_cons.mpr ⟨la_21 (xs := xs) hi hL q tO kk, List.forall_mem_cons.mpr ⟨la_22 (xs := xs) hi hL q tO kk, List.forall_mem_cons.mpr ⟨la_23 (xs := xs) hi hL q tO kk, List.forall_mem_cons.mpr ⟨la_24 (xs := xs) hi hL q tO kk, List.forall_mem_cons.mpr ⟨la_25 (xs := xs) hi hL q tO kk, List.forall_mem_cons.mpr ⟨la_26 (xs := xs) hi hL q tO kk, List.forall_mem_cons.mpr ⟨la_27 (xs := xs) hi hL q tO kk, List.forall_mem_cons.mpr ⟨la_28 (xs := xs) hi hL q tO kk, List.forall_mem_cons.mpr ⟨la_29 (xs := xs) hi hL q tO kk, List.forall_mem_cons.mpr ⟨la_30 (xs := xs) hi hL q tO kk, fun _ h => absurd h List.not_mem_nil⟩⟩⟩⟩⟩⟩⟩⟩⟩⟩⟩⟩⟩⟩⟩⟩⟩⟩⟩⟩⟩⟩⟩⟩⟩⟩⟩⟩⟩⟩⟩
  exact all p (List.mem_of_getElem? hp)
