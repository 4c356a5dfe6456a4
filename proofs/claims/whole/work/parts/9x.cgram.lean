/-! ===== the class: GRAMMARS as they are kept; what no search changes ===== -/
/-- the sites of what is never changed once it is told -/
def GS : List Nat := [1, 2, 7, 9, 10, 11, 21, 28, 29, 30, 31, 32, 33, 34, 36, 37, 38, 39, 40, 41, 42, 52, 53, 54]
def Gk (h h' : AH) : Prop := ∀ a, hT h a ∈ GS → hT h' a = hT h a ∧ hL h' a = hL h a ∧ Sm h h' a
theorem Gk.rf {h : AH} : Gk h h := fun _ _ => ⟨rfl, rfl, rfl, rfl, rfl⟩
theorem Gk.tr {h h1 h2 : AH} (a : Gk h h1) (b : Gk h1 h2) : Gk h h2 := fun x hx => by
  obtain ⟨a1, a2, a3, a4, a5⟩ := a x hx
  obtain ⟨b1, b2, b3, b4, b5⟩ := b x (by rw [a1]; exact hx)
  exact ⟨b1.trans a1, b2.trans a2, b3.trans a3, b4.trans a4, b5.trans a5⟩
theorem GS0 : (0 : Nat) ∉ GS := by decide
theorem Gk_Le {w : List Nat} {h h' : AH} (wf : WF h) (l : Le w h h') (hw : ∀ t ∈ GS, t ∉ w) : Gk h h' := fun a ha => by
  have l1 := wf a (fun z => GS0 (z ▸ ha))
  obtain ⟨e1, e2, e3⟩ := l.2.2.1 a l1
  exact ⟨e1, e2, e3 (hw _ ha)⟩
theorem Gk_Fx {A : Nat → Prop} {n u : Nat} {h h' : AH} (wf : WF h) (l : Fx A n u h h') (hw : ∀ a, A a → hT h a ∉ GS) : Gk h h' := fun a ha => by
  have l1 := wf a (fun z => GS0 (z ▸ ha))
  obtain ⟨e1, e2, e3⟩ := l.2.2 a l1
  exact ⟨e1, e2, e3 (fun z => hw a z ha)⟩
theorem SgA_k {h h' : AH} {a : Nat} {nm row : List Nat} (q : SgA h a nm row) (k : Gk h h') (hs : hT h a ∈ GS) : SgA h' a nm row := by
  obtain ⟨e1, e2, e3, _⟩ := k a hs
  exact ⟨by rw [e1]; exact q.1, e2.trans q.2.1, fun i hi => by rw [e3]; exact q.2.2 i hi⟩
theorem FsAt_k {h h' : AH} {F : Nat} {X : List (List Nat)} (q : FsAt h F X) (k : Gk h h') : FsAt h' F X := by
  obtain ⟨e1, e2, e3, _, e5⟩ := k F (by rw [q.1.1]; decide)
  obtain ⟨f1, f2, f3, _⟩ := k (F + 1) (by rw [Fst_rows q.1]; decide)
  exact ⟨⟨e1.trans q.1.1, by rw [e5]; exact Fsr_rows q.1, f1.trans (Fst_rows q.1), f2.trans (Fsl_rows q.1)⟩, by rw [e3]; exact q.2.1, fun i hi => by rw [f3]; exact q.2.2 i hi⟩
theorem UpO_k {h h' : AH} {U : Nat} (q : UpO h U) (k : Gk h h') : UpO h' U := by
  obtain ⟨q0, ⟨a1, a2, a3⟩, ⟨b1, b2, b3⟩, ⟨c1, c2, c3⟩, ⟨d1, d2, d3⟩⟩ := q
  obtain ⟨e1, _, _, _, e5⟩ := k U (by rw [q0]; decide)
  obtain ⟨f1, f2, _⟩ := k (U + 1) (by rw [a2]; decide)
  obtain ⟨g1, g2, _⟩ := k (U + 2) (by rw [b2]; decide)
  obtain ⟨i1, i2, _⟩ := k (U + 3) (by rw [c2]; decide)
  obtain ⟨j1, j2, _⟩ := k (U + 4) (by rw [d2]; decide)
  exact ⟨e1.trans q0, ⟨by rw [e5]; exact a1, f1.trans a2, f2.trans a3⟩, ⟨by rw [e5]; exact b1, g1.trans b2, g2.trans b3⟩, ⟨by rw [e5]; exact c1, i1.trans c2, i2.trans c3⟩, ⟨by rw [e5]; exact d1, j1.trans d2, j2.trans d3⟩⟩
theorem UpS_k {h h' : AH} {U : Nat} {nm : List Nat} {A : Alts} (q : UpS h U nm A) (k : Gk h h') : UpS h' U nm A := by
  obtain ⟨q0, q1, q2, q3, q4⟩ := q
  obtain ⟨_, _, e3, _⟩ := k U (by rw [q0.1]; decide)
  obtain ⟨_, _, f3, _⟩ := k (U + 1) (by rw [Upt_slots q0]; decide)
  obtain ⟨_, _, g3, _⟩ := k (U + 2) (by rw [Upt_names q0]; decide)
  obtain ⟨_, _, _, _, i5⟩ := k (U + 3) (by rw [Upt_rows q0]; decide)
  obtain ⟨_, _, j3, _⟩ := k (U + 4) (by rw [Upt_many q0]; decide)
  refine ⟨UpO_k q0 k, by rw [e3]; exact q1, fun c c1 c2 => by rw [f3]; exact q2 c c1 c2, fun i hi => by rw [g3]; exact q3 i hi, fun i hi => ⟨by rw [j3]; exact (q4 i hi).1, fun kk hk => ?_⟩⟩
  obtain ⟨a, a1, a2, a3⟩ := (q4 i hi).2 kk hk
  have m : hT h a ∈ GS := by rw [a2]; decide
  exact ⟨a, by rw [i5]; exact a1, (k a m).1.trans a2, SgA_k a3 k m⟩
theorem WdsAt_k {h h' : AH} {U : Nat} {nm : List Nat} {A : Alts} (hU : hT h U = 11) (q : WdsAt h U nm A) (k : Gk h h') : WdsAt h' U nm A := by
  obtain ⟨W, w1, w2, w3⟩ := q
  obtain ⟨_, _, _, _, e5⟩ := k U (by rw [hU]; decide)
  obtain ⟨f1, f2, _, _, f5⟩ := k W (by rw [w2.1]; decide)
  exact ⟨W, by rw [e5]; exact w1, ⟨f1.trans w2.1, f2.trans w2.2.1, fun i hi => ⟨by rw [f5]; exact (w2.2.2 i hi).1, FsAt_k (w2.2.2 i hi).2 k⟩⟩, w3⟩
/-- an upper grammar that is told -/
def UpA (h : AH) (U : Nat) (nm : List Nat) (ms : Ms) : Prop := UpS h U nm (AofMs ms) ∧ WdsAt h U nm (AofMs ms) ∧ (∃ t, hI h U 5 = nI t ∧ Bt t 26 (fun q => q < nm.length)) ∧ AltOK nm (AofMs ms) ∧ nm.length ≤ 6 ∧ ∀ c, c ∈ nm ↔ c ∈ nmL ms
theorem UpA_k {h h' : AH} {U : Nat} {nm : List Nat} {ms : Ms} (q : UpA h U nm ms) (k : Gk h h') : UpA h' U nm ms := by
  obtain ⟨q1, q2, ⟨t, q3, q4⟩, q5⟩ := q
  obtain ⟨_, _, e3, _⟩ := k U (by rw [q1.1.1]; decide)
  exact ⟨UpS_k q1 k, WdsAt_k q1.1.1 q2 k, ⟨t, by rw [e3]; exact q3, q4⟩, q5⟩
def aheadN (ch : ChoT) : Nat := (ch.takeWhile (fun m => m.1)).length
/-- rows of MEMBERS, the last one as far as it is read -/
def rws (ch : ChoT) (pr : List Nat) : List (List Nat) := ch.map (fun m => m.2) ++ [pr]
/-- where FREE ones are said to stand: all that are ahead come before them -/
def PosA (h : AH) (C : Nat) (hd : List Nat) (rows : List (List Nat)) (fr : List Nat) : Prop := (∀ x ∈ rows, ∀ c ∈ x, cap c = true → c ∉ hd → c ∈ fr) ∧ ∀ j, j < fr.length → ∃ m p, hI h (C + 3) j = nI m ∧ hI h (C + 4) j = nI p ∧ m < rows.length ∧ p < (rows.getD m []).length ∧ (∀ x ∈ rows.take m, ∀ c ∈ x, cap c = true → c ∉ hd → c ∈ fr.take j) ∧ ∀ c ∈ (rows.getD m []).take p, cap c = true → c ∉ hd → c ∈ fr.take j
/-- an alternative -/
def CcAt (h : AH) (C : Nat) (nm hd : List Nat) (ch : ChoT) : Prop := ChO h C ∧ hI h C 2 = nI ch.length ∧ (∀ k, k < ch.length → ∃ a, hR h (C + 1) k = some a ∧ hT h a = 39 ∧ SgA h a nm (ch.getD k (false, [])).2) ∧ (∃ b, hI h C 3 = nI b ∧ Bt b 4 (fun k => k < ch.length ∧ (ch.getD k (false, [])).1 = true)) ∧ (∃ b, hI h C 4 = nI b ∧ Bt b 26 (fun q => ∃ m ∈ ch, ∃ c ∈ m.2, cap c = true ∧ nm.idxOf c = q)) ∧ (hI h C 6 = nI (frs hd ch).length ∧ ∀ j, j < (frs hd ch).length → hI h (C + 2) j = nI (nm.idxOf ((frs hd ch).getD j 0))) ∧ (∃ b, hI h C 7 = nI b ∧ Bt b 26 (fun q => ∃ c ∈ frs hd ch, nm.idxOf c = q)) ∧ PosA h C hd (rws ch []) (frs hd ch) ∧ hI h C 10 = nI (aheadN ch)
theorem CcAt_k {h h' : AH} {C : Nat} {nm hd : List Nat} {ch : ChoT} (q : CcAt h C nm hd ch) (k : Gk h h') : CcAt h' C nm hd ch := by
  obtain ⟨q0, q1, q2, q3, q4, q5, q6, q7, q8⟩ := q
  obtain ⟨e1, e2, e3, _, e5⟩ := k C (by rw [q0.1]; decide)
  obtain ⟨f1, f2, f3, _, f5⟩ := k (C + 1) (by rw [Cht_members q0]; decide)
  obtain ⟨g1, g2, g3, _, g5⟩ := k (C + 2) (by rw [Cht_frees q0]; decide)
  obtain ⟨i1, i2, i3, _, i5⟩ := k (C + 3) (by rw [Cht_freeMembers q0]; decide)
  obtain ⟨j1, j2, j3, _, j5⟩ := k (C + 4) (by rw [Cht_freeSigns q0]; decide)
  unfold CcAt ChO PosA
  rw [e1, e3, e5, f1, f2, f5, g1, g2, g3, i1, i2, i3, j1, j2, j3]
  refine ⟨q0, q1, fun i hi => ?_, q3, q4, q5, q6, q7, q8⟩
  obtain ⟨a, a1, a2, a3⟩ := q2 i hi
  have m : hT h a ∈ GS := by rw [a2]; decide
  exact ⟨a, a1, (k a m).1.trans a2, SgA_k a3 k m⟩
theorem RuH_k {h h' : AH} {R sg fs : Nat} {nm hd : List Nat} (q : RuH h R sg fs nm hd) (k : Gk h h') : RuH h' R sg fs nm hd := by
  obtain ⟨q1, q2, q3, q4, q5, q6, q7, q8, b, q9, q10⟩ := q
  obtain ⟨e1, _, e3, _, e5⟩ := k R (by rw [q1]; decide)
  have m : hT h sg ∈ GS := by rw [q3]; decide
  obtain ⟨f1, f2, f3, _⟩ := k fs (by rw [q6]; decide)
  exact ⟨e1.trans q1, by rw [e5]; exact q2, (k sg m).1.trans q3, SgA_k q4 k m, by rw [e5]; exact q5, f1.trans q6, f2.trans q7, fun i hi => by rw [f3]; exact q8 i hi, b, by rw [e3]; exact q9, q10⟩
/-- a RULE -/
def RuA (h : AH) (R : Nat) (nm : List Nat) (rt : RuleT) : Prop := (∃ sg fs, RuH h R sg fs nm rt.1) ∧ hR h R 3 = some (R + 2) ∧ hT h (R + 2) = 42 ∧ hL h (R + 2) = 4 ∧ hI h R 4 = nI rt.2.length ∧ ∀ k, k < rt.2.length → ∃ C, hR h (R + 2) k = some C ∧ CcAt h C nm rt.1 (rt.2.getD k [])
theorem RuA_k {h h' : AH} {R : Nat} {nm : List Nat} {rt : RuleT} (q : RuA h R nm rt) (k : Gk h h') : RuA h' R nm rt := by
  obtain ⟨⟨sg, fs, q0⟩, q1, q2, q3, q4, q5⟩ := q
  obtain ⟨e1, _, e3, _, e5⟩ := k R (by rw [q0.1]; decide)
  obtain ⟨f1, f2, _, _, f5⟩ := k (R + 2) (by rw [q2]; decide)
  refine ⟨⟨sg, fs, RuH_k q0 k⟩, by rw [e5]; exact q1, f1.trans q2, f2.trans q3, by rw [e3]; exact q4, fun i hi => ?_⟩
  obtain ⟨C, c1, c2⟩ := q5 i hi
  exact ⟨C, by rw [f5]; exact c1, CcAt_k c2 k⟩
/-- GRAMMAR and SETTINGS -/
def StA (h : AH) (S U : Nat) (nm : List Nat) (gr : GrT) : Prop := hT h S = 10 ∧ hR h S 0 = some U ∧ hI h S 2 = nI gr.2.2.1 ∧ hI h S 3 = nI gr.2.2.2 ∧ (∃ rl, hR h S 1 = some rl ∧ hT h rl = 28 ∧ hL h rl = gr.2.1.length ∧ ∀ r, r < gr.2.1.length → ∃ R, hR h rl r = some R ∧ RuA h R nm (gr.2.1.getD r ([], []))) ∧ UpA h U nm gr.1 ∧ GrOK gr
theorem StA_k {h h' : AH} {S U : Nat} {nm : List Nat} {gr : GrT} (q : StA h S U nm gr) (k : Gk h h') : StA h' S U nm gr := by
  obtain ⟨q0, q1, q2, q3, ⟨rl, r1, r2, r3, r4⟩, q5, q6⟩ := q
  obtain ⟨e1, _, e3, _, e5⟩ := k S (by rw [q0]; decide)
  obtain ⟨f1, f2, _, _, f5⟩ := k rl (by rw [r2]; decide)
  refine ⟨e1.trans q0, by rw [e5]; exact q1, by rw [e3]; exact q2, by rw [e3]; exact q3, ⟨rl, by rw [e5]; exact r1, f1.trans r2, f2.trans r3, fun r hr => ?_⟩, UpA_k q5 k, q6⟩
  obtain ⟨R, c1, c2⟩ := r4 r hr
  exact ⟨R, by rw [f5]; exact c1, RuA_k c2 k⟩
theorem q_isToken {h : AH} {C : Nat} {nm hd : List Nat} {ch : ChoT} (hC : CcAt h C nm hd ch) (h4 : ch.length ≤ 4) {k : Nat} (hk : k < ch.length) : d_Choice_isToken [.ref C, .int (nI k)] h = some (bI (ch.getD k (false, [])).1, h) := by
  obtain ⟨b, e1, e2⟩ := hC.2.2.2.1
  have bit := y_bit (show b < 2 ^ 31 by have := e2.1; omega) (show k < 32 by omega)
  rw [e2.2 k] at bit
  refine wpm_to ?_
  unfold d_Choice_isToken
  (rw [m_mth]; refine ⟨by simp only [m_mth, s_sk, s_brk, s_cnt, s_sq, s_if, s_rtn, s_rtnU, s_E, s_I1, s_R1, s_J1, s_Inc, s_h2, s_h3, s_u2, s_u3, e_C, e_h1, e_h2, e_lI, e_lJ, e_lR, e_if, e_and, e_or, e_not, a_nil, a_I, a_J, a_R, e_kS, e_kV, e_kN, e_nA, ok_some, ok_none, ok_bind, ok_guard, ok_guardN, asI_int, asJ_long, asR_ref, asR_rf, asR_null, entL, ent, sto, sto2, ok1, Value.category, va_rf, List.length_cons, List.length_nil, List.length_append, List.length_replicate, List.nil_append, List.cons_append, List.append_nil, List.replicate_succ, List.replicate_zero, List.getElem?_cons_zero, List.getElem?_cons_succ, List.set_cons_zero, List.set_cons_succ, gI, gJ, gR, pI, pJ, pR, aI, aJ, aR, aL, stI, stB, stZ, stJ, uF, uA, Option.bind_some, iaddF, isubF, imulF, iandF, iorF, ixorF, ishlF, ishrF, iushrF, inegF, i2bF, i2lF, l2iF, c_eq, c_ne, c_lt, c_le, c_gt, c_ge, z_eq, z_ne, z_lt, z_le, z_gt, z_ge, j_eq, j_ne, j_gt, n_nul, n_non, tt, zz, hN_u, hU_u, hT_u, hL_u, hI_u, hJ_u, hR_u, sI_u, decide_eq_true_eq, true_and, and_true, if_true, reduceIte, beq_self_eq_true, Bool.true_or, Bool.and_self, Nat.reduceAdd, Nat.reduceSub, Nat.reduceLT, Nat.reduceLeDiff, Nat.reduceBEq, Nat.reduceEqDiff, Bool.or_true, Bool.false_or, List.mem_cons, List.mem_singleton, true_or, or_true, mh_N, mh_U, mh_T, mh_L, mh_R, mh_J, mh_0, mh_s0, mh_I, mh_s, sa_20, sa_21, sa_22, sa_23, sa_24, sa_25, sa_26, sa_27, sa_28, sa_29, sa_30, sa_31, sa_32, sa_33, sa_34, sa_35, sa_36, sa_37, sa_38, sa_39, sa_40, sa_41, sa_42, sa_43, sa_44, sa_45, sa_46, sa_47, sa_48, sa_49, sa_50, sa_51, sa_52, sa_70, sa_71, sa_72, sa_73, sa_74, sa_75, sa_76, sa_77, sa_78, sa_79, sa_80, sa_81, sa_82, sa_83, sa_84, sa_85, sa_86, sa_87, sa_88, sa_89, sa_90, sa_91, sa_92, sa_93, sa_94, sa_95, sa_96, sa_97, sa_98, sa_99, sa_100, sa_101, decide_eq_false_iff_not, s_obj, e_cl, s_ar, e_st, stO, stA, lshrF, lshlF, lorF, landF, lsubF, a_eq, a_ne, ov_N, ov_U, ov_T, ov_L, ov_I, ov_I0, ov_J, ov_J0, ov_R, ov_R0, ov_sI, ov_sI0, ov_sJ, ov_sJ0, ov_sR, ov_sR0, sa_53, sa_54], ?_⟩; simp only [entL, ent, Value.category, List.length_cons, List.length_nil, Nat.reduceAdd, Nat.reduceSub, List.replicate_succ, List.replicate_zero, List.cons_append, List.nil_append, Nat.reduceBEq, Bool.false_eq_true, if_false, beq_self_eq_true, if_true, reduceIte])
  cases z : (ch.getD k (false, [])).1 with
  | true =>
    have y := bit.mpr ⟨hk, z⟩
    simp (disch := omega) only [m_mth, s_sk, s_brk, s_cnt, s_sq, s_if, s_rtn, s_rtnU, s_E, s_I1, s_R1, s_J1, s_Inc, s_h2, s_h3, s_u2, s_u3, e_C, e_h1, e_h2, e_lI, e_lJ, e_lR, e_if, e_and, e_or, e_not, a_nil, a_I, a_J, a_R, e_kS, e_kV, e_kN, e_nA, ok_some, ok_none, ok_bind, ok_guard, ok_guardN, asI_int, asJ_long, asR_ref, asR_rf, asR_null, entL, ent, sto, sto2, ok1, Value.category, va_rf, List.length_cons, List.length_nil, List.length_append, List.length_replicate, List.nil_append, List.cons_append, List.append_nil, List.replicate_succ, List.replicate_zero, List.getElem?_cons_zero, List.getElem?_cons_succ, List.set_cons_zero, List.set_cons_succ, gI, gJ, gR, pI, pJ, pR, aI, aJ, aR, aL, stI, stB, stZ, stJ, uF, uA, Option.bind_some, iaddF, isubF, imulF, iandF, iorF, ixorF, ishlF, ishrF, iushrF, inegF, i2bF, i2lF, l2iF, c_eq, c_ne, c_lt, c_le, c_gt, c_ge, z_eq, z_ne, z_lt, z_le, z_gt, z_ge, j_eq, j_ne, j_gt, n_nul, n_non, tt, zz, hN_u, hU_u, hT_u, hL_u, hI_u, hJ_u, hR_u, sI_u, decide_eq_true_eq, true_and, and_true, if_true, reduceIte, beq_self_eq_true, Bool.true_or, Bool.and_self, Nat.reduceAdd, Nat.reduceSub, Nat.reduceLT, Nat.reduceLeDiff, Nat.reduceBEq, Nat.reduceEqDiff, Bool.or_true, Bool.false_or, List.mem_cons, List.mem_singleton, true_or, or_true, mh_N, mh_U, mh_T, mh_L, mh_R, mh_J, mh_0, mh_s0, mh_I, mh_s, sa_20, sa_21, sa_22, sa_23, sa_24, sa_25, sa_26, sa_27, sa_28, sa_29, sa_30, sa_31, sa_32, sa_33, sa_34, sa_35, sa_36, sa_37, sa_38, sa_39, sa_40, sa_41, sa_42, sa_43, sa_44, sa_45, sa_46, sa_47, sa_48, sa_49, sa_50, sa_51, sa_52, sa_70, sa_71, sa_72, sa_73, sa_74, sa_75, sa_76, sa_77, sa_78, sa_79, sa_80, sa_81, sa_82, sa_83, sa_84, sa_85, sa_86, sa_87, sa_88, sa_89, sa_90, sa_91, sa_92, sa_93, sa_94, sa_95, sa_96, sa_97, sa_98, sa_99, sa_100, sa_101, decide_eq_false_iff_not, s_obj, e_cl, s_ar, e_st, stO, stA, lshrF, lshlF, lorF, landF, lsubF, a_eq, a_ne, ov_N, ov_U, ov_T, ov_L, ov_I, ov_I0, ov_J, ov_J0, ov_R, ov_R0, ov_sI, ov_sI0, ov_sJ, ov_sJ0, ov_sR, ov_sR0, sa_53, sa_54, hC.1.1, e1, y, decide_true, bI]
    decide
  | false =>
    have y : ¬ (nI b >>> (nI k &&& 31)) &&& nI 1 = nI 1 := fun q => by have := (bit.mp q).2; rw [z] at this; cases this
    simp (disch := omega) only [m_mth, s_sk, s_brk, s_cnt, s_sq, s_if, s_rtn, s_rtnU, s_E, s_I1, s_R1, s_J1, s_Inc, s_h2, s_h3, s_u2, s_u3, e_C, e_h1, e_h2, e_lI, e_lJ, e_lR, e_if, e_and, e_or, e_not, a_nil, a_I, a_J, a_R, e_kS, e_kV, e_kN, e_nA, ok_some, ok_none, ok_bind, ok_guard, ok_guardN, asI_int, asJ_long, asR_ref, asR_rf, asR_null, entL, ent, sto, sto2, ok1, Value.category, va_rf, List.length_cons, List.length_nil, List.length_append, List.length_replicate, List.nil_append, List.cons_append, List.append_nil, List.replicate_succ, List.replicate_zero, List.getElem?_cons_zero, List.getElem?_cons_succ, List.set_cons_zero, List.set_cons_succ, gI, gJ, gR, pI, pJ, pR, aI, aJ, aR, aL, stI, stB, stZ, stJ, uF, uA, Option.bind_some, iaddF, isubF, imulF, iandF, iorF, ixorF, ishlF, ishrF, iushrF, inegF, i2bF, i2lF, l2iF, c_eq, c_ne, c_lt, c_le, c_gt, c_ge, z_eq, z_ne, z_lt, z_le, z_gt, z_ge, j_eq, j_ne, j_gt, n_nul, n_non, tt, zz, hN_u, hU_u, hT_u, hL_u, hI_u, hJ_u, hR_u, sI_u, decide_eq_true_eq, true_and, and_true, if_true, reduceIte, beq_self_eq_true, Bool.true_or, Bool.and_self, Nat.reduceAdd, Nat.reduceSub, Nat.reduceLT, Nat.reduceLeDiff, Nat.reduceBEq, Nat.reduceEqDiff, Bool.or_true, Bool.false_or, List.mem_cons, List.mem_singleton, true_or, or_true, mh_N, mh_U, mh_T, mh_L, mh_R, mh_J, mh_0, mh_s0, mh_I, mh_s, sa_20, sa_21, sa_22, sa_23, sa_24, sa_25, sa_26, sa_27, sa_28, sa_29, sa_30, sa_31, sa_32, sa_33, sa_34, sa_35, sa_36, sa_37, sa_38, sa_39, sa_40, sa_41, sa_42, sa_43, sa_44, sa_45, sa_46, sa_47, sa_48, sa_49, sa_50, sa_51, sa_52, sa_70, sa_71, sa_72, sa_73, sa_74, sa_75, sa_76, sa_77, sa_78, sa_79, sa_80, sa_81, sa_82, sa_83, sa_84, sa_85, sa_86, sa_87, sa_88, sa_89, sa_90, sa_91, sa_92, sa_93, sa_94, sa_95, sa_96, sa_97, sa_98, sa_99, sa_100, sa_101, decide_eq_false_iff_not, s_obj, e_cl, s_ar, e_st, stO, stA, lshrF, lshlF, lorF, landF, lsubF, a_eq, a_ne, ov_N, ov_U, ov_T, ov_L, ov_I, ov_I0, ov_J, ov_J0, ov_R, ov_R0, ov_sI, ov_sI0, ov_sJ, ov_sJ0, ov_sR, ov_sR0, sa_53, sa_54, hC.1.1, e1, y, decide_false, Bool.false_eq_true, if_false, bI]
    decide
theorem q_suits {h : AH} {C : Nat} {nm hd : List Nat} {ch : ChoT} (hC : CcAt h C nm hd ch) (h4 : ch.length ≤ 4) {m : Nat} (hm : m < 1000) : d_Choice_suits [.ref C, .int (nI m)] h = some (bI (if aheadN ch = ch.length then decide (m = ch.length) else decide (aheadN ch ≤ m)), h) := by
  have a4 : aheadN ch ≤ ch.length := by unfold aheadN; exact List.Sublist.length_le (List.takeWhile_sublist _)
  have e2 := hC.2.1
  have e9 := hC.2.2.2.2.2.2.2.2
  refine wpm_to ?_
  unfold d_Choice_suits
  (rw [m_mth]; refine ⟨by simp only [m_mth, s_sk, s_brk, s_cnt, s_sq, s_if, s_rtn, s_rtnU, s_E, s_I1, s_R1, s_J1, s_Inc, s_h2, s_h3, s_u2, s_u3, e_C, e_h1, e_h2, e_lI, e_lJ, e_lR, e_if, e_and, e_or, e_not, a_nil, a_I, a_J, a_R, e_kS, e_kV, e_kN, e_nA, ok_some, ok_none, ok_bind, ok_guard, ok_guardN, asI_int, asJ_long, asR_ref, asR_rf, asR_null, entL, ent, sto, sto2, ok1, Value.category, va_rf, List.length_cons, List.length_nil, List.length_append, List.length_replicate, List.nil_append, List.cons_append, List.append_nil, List.replicate_succ, List.replicate_zero, List.getElem?_cons_zero, List.getElem?_cons_succ, List.set_cons_zero, List.set_cons_succ, gI, gJ, gR, pI, pJ, pR, aI, aJ, aR, aL, stI, stB, stZ, stJ, uF, uA, Option.bind_some, iaddF, isubF, imulF, iandF, iorF, ixorF, ishlF, ishrF, iushrF, inegF, i2bF, i2lF, l2iF, c_eq, c_ne, c_lt, c_le, c_gt, c_ge, z_eq, z_ne, z_lt, z_le, z_gt, z_ge, j_eq, j_ne, j_gt, n_nul, n_non, tt, zz, hN_u, hU_u, hT_u, hL_u, hI_u, hJ_u, hR_u, sI_u, decide_eq_true_eq, true_and, and_true, if_true, reduceIte, beq_self_eq_true, Bool.true_or, Bool.and_self, Nat.reduceAdd, Nat.reduceSub, Nat.reduceLT, Nat.reduceLeDiff, Nat.reduceBEq, Nat.reduceEqDiff, Bool.or_true, Bool.false_or, List.mem_cons, List.mem_singleton, true_or, or_true, mh_N, mh_U, mh_T, mh_L, mh_R, mh_J, mh_0, mh_s0, mh_I, mh_s, sa_20, sa_21, sa_22, sa_23, sa_24, sa_25, sa_26, sa_27, sa_28, sa_29, sa_30, sa_31, sa_32, sa_33, sa_34, sa_35, sa_36, sa_37, sa_38, sa_39, sa_40, sa_41, sa_42, sa_43, sa_44, sa_45, sa_46, sa_47, sa_48, sa_49, sa_50, sa_51, sa_52, sa_70, sa_71, sa_72, sa_73, sa_74, sa_75, sa_76, sa_77, sa_78, sa_79, sa_80, sa_81, sa_82, sa_83, sa_84, sa_85, sa_86, sa_87, sa_88, sa_89, sa_90, sa_91, sa_92, sa_93, sa_94, sa_95, sa_96, sa_97, sa_98, sa_99, sa_100, sa_101, decide_eq_false_iff_not, s_obj, e_cl, s_ar, e_st, stO, stA, lshrF, lshlF, lorF, landF, lsubF, a_eq, a_ne, ov_N, ov_U, ov_T, ov_L, ov_I, ov_I0, ov_J, ov_J0, ov_R, ov_R0, ov_sI, ov_sI0, ov_sJ, ov_sJ0, ov_sR, ov_sR0, sa_53, sa_54], ?_⟩; simp only [entL, ent, Value.category, List.length_cons, List.length_nil, Nat.reduceAdd, Nat.reduceSub, List.replicate_succ, List.replicate_zero, List.cons_append, List.nil_append, Nat.reduceBEq, Bool.false_eq_true, if_false, beq_self_eq_true, if_true, reduceIte])
  by_cases z : aheadN ch = ch.length
  · rw [if_pos z]
    have y : nI (aheadN ch) = nI ch.length := by rw [z]
    by_cases x : m = ch.length
    · have w : nI m = nI ch.length := by rw [x]
      rw [decide_eq_true x]
      simp (disch := omega) only [m_mth, s_sk, s_brk, s_cnt, s_sq, s_if, s_rtn, s_rtnU, s_E, s_I1, s_R1, s_J1, s_Inc, s_h2, s_h3, s_u2, s_u3, e_C, e_h1, e_h2, e_lI, e_lJ, e_lR, e_if, e_and, e_or, e_not, a_nil, a_I, a_J, a_R, e_kS, e_kV, e_kN, e_nA, ok_some, ok_none, ok_bind, ok_guard, ok_guardN, asI_int, asJ_long, asR_ref, asR_rf, asR_null, entL, ent, sto, sto2, ok1, Value.category, va_rf, List.length_cons, List.length_nil, List.length_append, List.length_replicate, List.nil_append, List.cons_append, List.append_nil, List.replicate_succ, List.replicate_zero, List.getElem?_cons_zero, List.getElem?_cons_succ, List.set_cons_zero, List.set_cons_succ, gI, gJ, gR, pI, pJ, pR, aI, aJ, aR, aL, stI, stB, stZ, stJ, uF, uA, Option.bind_some, iaddF, isubF, imulF, iandF, iorF, ixorF, ishlF, ishrF, iushrF, inegF, i2bF, i2lF, l2iF, c_eq, c_ne, c_lt, c_le, c_gt, c_ge, z_eq, z_ne, z_lt, z_le, z_gt, z_ge, j_eq, j_ne, j_gt, n_nul, n_non, tt, zz, hN_u, hU_u, hT_u, hL_u, hI_u, hJ_u, hR_u, sI_u, decide_eq_true_eq, true_and, and_true, if_true, reduceIte, beq_self_eq_true, Bool.true_or, Bool.and_self, Nat.reduceAdd, Nat.reduceSub, Nat.reduceLT, Nat.reduceLeDiff, Nat.reduceBEq, Nat.reduceEqDiff, Bool.or_true, Bool.false_or, List.mem_cons, List.mem_singleton, true_or, or_true, mh_N, mh_U, mh_T, mh_L, mh_R, mh_J, mh_0, mh_s0, mh_I, mh_s, sa_20, sa_21, sa_22, sa_23, sa_24, sa_25, sa_26, sa_27, sa_28, sa_29, sa_30, sa_31, sa_32, sa_33, sa_34, sa_35, sa_36, sa_37, sa_38, sa_39, sa_40, sa_41, sa_42, sa_43, sa_44, sa_45, sa_46, sa_47, sa_48, sa_49, sa_50, sa_51, sa_52, sa_70, sa_71, sa_72, sa_73, sa_74, sa_75, sa_76, sa_77, sa_78, sa_79, sa_80, sa_81, sa_82, sa_83, sa_84, sa_85, sa_86, sa_87, sa_88, sa_89, sa_90, sa_91, sa_92, sa_93, sa_94, sa_95, sa_96, sa_97, sa_98, sa_99, sa_100, sa_101, decide_eq_false_iff_not, s_obj, e_cl, s_ar, e_st, stO, stA, lshrF, lshlF, lorF, landF, lsubF, a_eq, a_ne, ov_N, ov_U, ov_T, ov_L, ov_I, ov_I0, ov_J, ov_J0, ov_R, ov_R0, ov_sI, ov_sI0, ov_sJ, ov_sJ0, ov_sR, ov_sR0, sa_53, sa_54, hC.1.1, e2, e9, y, w, decide_true, bI]
      decide
    · have w : ¬ nI m = nI ch.length := nIne (by omega) (by omega) x
      rw [decide_eq_false x]
      simp (disch := omega) only [m_mth, s_sk, s_brk, s_cnt, s_sq, s_if, s_rtn, s_rtnU, s_E, s_I1, s_R1, s_J1, s_Inc, s_h2, s_h3, s_u2, s_u3, e_C, e_h1, e_h2, e_lI, e_lJ, e_lR, e_if, e_and, e_or, e_not, a_nil, a_I, a_J, a_R, e_kS, e_kV, e_kN, e_nA, ok_some, ok_none, ok_bind, ok_guard, ok_guardN, asI_int, asJ_long, asR_ref, asR_rf, asR_null, entL, ent, sto, sto2, ok1, Value.category, va_rf, List.length_cons, List.length_nil, List.length_append, List.length_replicate, List.nil_append, List.cons_append, List.append_nil, List.replicate_succ, List.replicate_zero, List.getElem?_cons_zero, List.getElem?_cons_succ, List.set_cons_zero, List.set_cons_succ, gI, gJ, gR, pI, pJ, pR, aI, aJ, aR, aL, stI, stB, stZ, stJ, uF, uA, Option.bind_some, iaddF, isubF, imulF, iandF, iorF, ixorF, ishlF, ishrF, iushrF, inegF, i2bF, i2lF, l2iF, c_eq, c_ne, c_lt, c_le, c_gt, c_ge, z_eq, z_ne, z_lt, z_le, z_gt, z_ge, j_eq, j_ne, j_gt, n_nul, n_non, tt, zz, hN_u, hU_u, hT_u, hL_u, hI_u, hJ_u, hR_u, sI_u, decide_eq_true_eq, true_and, and_true, if_true, reduceIte, beq_self_eq_true, Bool.true_or, Bool.and_self, Nat.reduceAdd, Nat.reduceSub, Nat.reduceLT, Nat.reduceLeDiff, Nat.reduceBEq, Nat.reduceEqDiff, Bool.or_true, Bool.false_or, List.mem_cons, List.mem_singleton, true_or, or_true, mh_N, mh_U, mh_T, mh_L, mh_R, mh_J, mh_0, mh_s0, mh_I, mh_s, sa_20, sa_21, sa_22, sa_23, sa_24, sa_25, sa_26, sa_27, sa_28, sa_29, sa_30, sa_31, sa_32, sa_33, sa_34, sa_35, sa_36, sa_37, sa_38, sa_39, sa_40, sa_41, sa_42, sa_43, sa_44, sa_45, sa_46, sa_47, sa_48, sa_49, sa_50, sa_51, sa_52, sa_70, sa_71, sa_72, sa_73, sa_74, sa_75, sa_76, sa_77, sa_78, sa_79, sa_80, sa_81, sa_82, sa_83, sa_84, sa_85, sa_86, sa_87, sa_88, sa_89, sa_90, sa_91, sa_92, sa_93, sa_94, sa_95, sa_96, sa_97, sa_98, sa_99, sa_100, sa_101, decide_eq_false_iff_not, s_obj, e_cl, s_ar, e_st, stO, stA, lshrF, lshlF, lorF, landF, lsubF, a_eq, a_ne, ov_N, ov_U, ov_T, ov_L, ov_I, ov_I0, ov_J, ov_J0, ov_R, ov_R0, ov_sI, ov_sI0, ov_sJ, ov_sJ0, ov_sR, ov_sR0, sa_53, sa_54, hC.1.1, e2, e9, y, w, decide_true, decide_false, Bool.false_eq_true, if_false, bI]
      decide
  · rw [if_neg z]
    have y : ¬ nI (aheadN ch) = nI ch.length := nIne (by omega) (by omega) z
    by_cases x : aheadN ch ≤ m
    · rw [decide_eq_true x]
      simp (disch := omega) only [m_mth, s_sk, s_brk, s_cnt, s_sq, s_if, s_rtn, s_rtnU, s_E, s_I1, s_R1, s_J1, s_Inc, s_h2, s_h3, s_u2, s_u3, e_C, e_h1, e_h2, e_lI, e_lJ, e_lR, e_if, e_and, e_or, e_not, a_nil, a_I, a_J, a_R, e_kS, e_kV, e_kN, e_nA, ok_some, ok_none, ok_bind, ok_guard, ok_guardN, asI_int, asJ_long, asR_ref, asR_rf, asR_null, entL, ent, sto, sto2, ok1, Value.category, va_rf, List.length_cons, List.length_nil, List.length_append, List.length_replicate, List.nil_append, List.cons_append, List.append_nil, List.replicate_succ, List.replicate_zero, List.getElem?_cons_zero, List.getElem?_cons_succ, List.set_cons_zero, List.set_cons_succ, gI, gJ, gR, pI, pJ, pR, aI, aJ, aR, aL, stI, stB, stZ, stJ, uF, uA, Option.bind_some, iaddF, isubF, imulF, iandF, iorF, ixorF, ishlF, ishrF, iushrF, inegF, i2bF, i2lF, l2iF, c_eq, c_ne, c_lt, c_le, c_gt, c_ge, z_eq, z_ne, z_lt, z_le, z_gt, z_ge, j_eq, j_ne, j_gt, n_nul, n_non, tt, zz, hN_u, hU_u, hT_u, hL_u, hI_u, hJ_u, hR_u, sI_u, decide_eq_true_eq, true_and, and_true, if_true, reduceIte, beq_self_eq_true, Bool.true_or, Bool.and_self, Nat.reduceAdd, Nat.reduceSub, Nat.reduceLT, Nat.reduceLeDiff, Nat.reduceBEq, Nat.reduceEqDiff, Bool.or_true, Bool.false_or, List.mem_cons, List.mem_singleton, true_or, or_true, mh_N, mh_U, mh_T, mh_L, mh_R, mh_J, mh_0, mh_s0, mh_I, mh_s, sa_20, sa_21, sa_22, sa_23, sa_24, sa_25, sa_26, sa_27, sa_28, sa_29, sa_30, sa_31, sa_32, sa_33, sa_34, sa_35, sa_36, sa_37, sa_38, sa_39, sa_40, sa_41, sa_42, sa_43, sa_44, sa_45, sa_46, sa_47, sa_48, sa_49, sa_50, sa_51, sa_52, sa_70, sa_71, sa_72, sa_73, sa_74, sa_75, sa_76, sa_77, sa_78, sa_79, sa_80, sa_81, sa_82, sa_83, sa_84, sa_85, sa_86, sa_87, sa_88, sa_89, sa_90, sa_91, sa_92, sa_93, sa_94, sa_95, sa_96, sa_97, sa_98, sa_99, sa_100, sa_101, decide_eq_false_iff_not, s_obj, e_cl, s_ar, e_st, stO, stA, lshrF, lshlF, lorF, landF, lsubF, a_eq, a_ne, ov_N, ov_U, ov_T, ov_L, ov_I, ov_I0, ov_J, ov_J0, ov_R, ov_R0, ov_sI, ov_sI0, ov_sJ, ov_sJ0, ov_sR, ov_sR0, sa_53, sa_54, hC.1.1, e2, e9, y, nI_clamp, nI_pos, nI_add, pk_mul, nI_ltI, nI_leI, not_false_eq_true, x, decide_true, decide_false, Bool.false_eq_true, if_false, bI]
      decide
    · rw [decide_eq_false x]
      simp (disch := omega) only [m_mth, s_sk, s_brk, s_cnt, s_sq, s_if, s_rtn, s_rtnU, s_E, s_I1, s_R1, s_J1, s_Inc, s_h2, s_h3, s_u2, s_u3, e_C, e_h1, e_h2, e_lI, e_lJ, e_lR, e_if, e_and, e_or, e_not, a_nil, a_I, a_J, a_R, e_kS, e_kV, e_kN, e_nA, ok_some, ok_none, ok_bind, ok_guard, ok_guardN, asI_int, asJ_long, asR_ref, asR_rf, asR_null, entL, ent, sto, sto2, ok1, Value.category, va_rf, List.length_cons, List.length_nil, List.length_append, List.length_replicate, List.nil_append, List.cons_append, List.append_nil, List.replicate_succ, List.replicate_zero, List.getElem?_cons_zero, List.getElem?_cons_succ, List.set_cons_zero, List.set_cons_succ, gI, gJ, gR, pI, pJ, pR, aI, aJ, aR, aL, stI, stB, stZ, stJ, uF, uA, Option.bind_some, iaddF, isubF, imulF, iandF, iorF, ixorF, ishlF, ishrF, iushrF, inegF, i2bF, i2lF, l2iF, c_eq, c_ne, c_lt, c_le, c_gt, c_ge, z_eq, z_ne, z_lt, z_le, z_gt, z_ge, j_eq, j_ne, j_gt, n_nul, n_non, tt, zz, hN_u, hU_u, hT_u, hL_u, hI_u, hJ_u, hR_u, sI_u, decide_eq_true_eq, true_and, and_true, if_true, reduceIte, beq_self_eq_true, Bool.true_or, Bool.and_self, Nat.reduceAdd, Nat.reduceSub, Nat.reduceLT, Nat.reduceLeDiff, Nat.reduceBEq, Nat.reduceEqDiff, Bool.or_true, Bool.false_or, List.mem_cons, List.mem_singleton, true_or, or_true, mh_N, mh_U, mh_T, mh_L, mh_R, mh_J, mh_0, mh_s0, mh_I, mh_s, sa_20, sa_21, sa_22, sa_23, sa_24, sa_25, sa_26, sa_27, sa_28, sa_29, sa_30, sa_31, sa_32, sa_33, sa_34, sa_35, sa_36, sa_37, sa_38, sa_39, sa_40, sa_41, sa_42, sa_43, sa_44, sa_45, sa_46, sa_47, sa_48, sa_49, sa_50, sa_51, sa_52, sa_70, sa_71, sa_72, sa_73, sa_74, sa_75, sa_76, sa_77, sa_78, sa_79, sa_80, sa_81, sa_82, sa_83, sa_84, sa_85, sa_86, sa_87, sa_88, sa_89, sa_90, sa_91, sa_92, sa_93, sa_94, sa_95, sa_96, sa_97, sa_98, sa_99, sa_100, sa_101, decide_eq_false_iff_not, s_obj, e_cl, s_ar, e_st, stO, stA, lshrF, lshlF, lorF, landF, lsubF, a_eq, a_ne, ov_N, ov_U, ov_T, ov_L, ov_I, ov_I0, ov_J, ov_J0, ov_R, ov_R0, ov_sI, ov_sI0, ov_sJ, ov_sJ0, ov_sR, ov_sR0, sa_53, sa_54, hC.1.1, e2, e9, y, nI_clamp, nI_pos, nI_add, pk_mul, nI_ltI, nI_leI, not_false_eq_true, x, decide_false, Bool.false_eq_true, if_false, bI]
      decide
