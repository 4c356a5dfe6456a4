/-! ===== the reference: rules as lists ===== -/
theorem orS_Bt {p : Nat → Bool} : ∀ n, Bt (orS p n) n (fun r => r < n ∧ p r = true)
  | 0 => Bt_to Bt_0 (fun q => ⟨fun z => z.elim, fun z => by omega⟩)
  | n + 1 => by
    have ih := orS_Bt (p := p) n
    have ih' : Bt (orS p n) (n + 1) (fun r => r < n ∧ p r = true) := ⟨Nat.lt_trans ih.1 (Nat.pow_lt_pow_right (by decide) (by omega)), ih.2⟩
    unfold orS
    by_cases z : p n = true
    · rw [if_pos z]
      refine Bt_to (Bt_or ih' (Bt_1 (by omega))) (fun q => ⟨?_, ?_⟩)
      · rintro (⟨a, b⟩ | rfl)
        · exact ⟨by omega, b⟩
        · exact ⟨by omega, z⟩
      · rintro ⟨a, b⟩
        by_cases y : q = n
        · exact Or.inr y
        · exact Or.inl ⟨by omega, b⟩
    · rw [if_neg z]
      refine Bt_to (Bt_or ih' Bt_0) (fun q => ⟨?_, ?_⟩)
      · rintro (⟨a, b⟩ | y)
        · exact ⟨by omega, b⟩
        · exact y.elim
      · rintro ⟨a, b⟩
        refine Or.inl ⟨?_, b⟩
        rcases Nat.lt_or_ge q n with y | y
        · exact y
        · rw [show q = n by omega] at b; exact absurd b z
def hasC (row : List Nat) (c : Nat) : Bool := decide (c ∈ row)
def inRule (rt : RuleT) (c : Nat) : Bool := hasC rt.1 c || rt.2.any (fun ch => ch.any (fun m => hasC m.2 c))
def capBits (row : List Nat) : Nat := row.foldl (fun s c => s ||| (if cap c = true then 2 ^ (c - 65) else 0)) 0
theorem sg256 {c : Nat} (h : SG c) : c < 256 := by unfold SG at h; omega
theorem rowB_c {g : Nat → Nat} {a : Nat} {row : List Nat} (hr : RowAt g a row) (hsg : ∀ c ∈ row, SG c) {c : Nat} (hc : c < 256) : rowB g a (nI c) = hasC row c := by
  unfold rowB hasC
  rw [hr.1, Bool.eq_iff_iff, List.any_eq_true, decide_eq_true_eq]
  constructor
  · rintro ⟨i, hi, e⟩
    have hi := List.mem_range.mp hi
    rw [decide_eq_true_eq, hr.2 i hi] at e
    have := sg256 (hsg _ (getD_mem hi))
    rw [nI_eq (by omega) (by omega)] at e
    rw [← e]; exact getD_mem hi
  · intro h
    obtain ⟨i, hi, e⟩ := in_getD (d := 0) h
    exact ⟨i, List.mem_range.mpr hi, by rw [decide_eq_true_eq, hr.2 i hi, e]⟩
theorem q_rowHs {h : AH} {M : Nat} (H : MOK h M) {f : Nat → Nat → Int32} {g : Nat → Nat} (hg : Rd (f 1) g 1684) {a : Nat} {row : List Nat} (hr : RowAt g a row) (ha : a + row.length < 1684) (hsg : ∀ c ∈ row, SG c) {c : Nat} (hc : c < 256) : d_M_rowHas [.ref M, .int (nI a), .int (nI c)] (mh h M f) = some (bI (hasC row c), (mh h M f)) := by
  have := q_rowHas H (F := mF h M f) (g := g) (Rd_of hg) (a := a) (by rw [hr.1]; exact ha) (nI c)
  rw [rowB_c hr hsg hc] at this
  exact this
theorem any_range {α : Type} {l : List α} {d : α} {p : α → Bool} {q : Nat → Bool} (h : ∀ i, i < l.length → q i = p (l.getD i d)) : (List.range l.length).any q = l.any p := by
  rw [Bool.eq_iff_iff, List.any_eq_true, List.any_eq_true]
  constructor
  · rintro ⟨i, hi, e⟩
    have hi := List.mem_range.mp hi
    exact ⟨_, getD_in hi, by rw [← h i hi]; exact e⟩
  · rintro ⟨x, hx, e⟩
    obtain ⟨i, hi, e2⟩ := in_getD (d := d) hx
    exact ⟨i, List.mem_range.mpr hi, by rw [h i hi, e2]; exact e⟩
theorem GOK_of {g : Nat → Nat} {gr : GrT} (hgr : GrAt g gr) (go : GrOK gr) : GOK g := by
  obtain ⟨h1, h2, h3, h4⟩ := hgr
  obtain ⟨o1, o2, o3, o4⟩ := go
  refine ⟨by rw [h1.1.1, nmL_len]; exact o1.1, by rw [h2.1]; exact o2, fun m hm => ?_, fun r hr => ?_⟩
  · rw [h1.1.1, nmL_len] at hm
    rw [(h1.2 m hm).1]
    refine ⟨Ms_many o1 hm, fun k hk => ?_⟩
    rw [((h1.2 m hm).2 k hk).1]
    exact (Ms_row o1 hm hk).2.1
  · rw [h2.1] at hr
    obtain ⟨a1, a2, a3⟩ := h2.2 r hr
    obtain ⟨b1, b2, b3, b4⟩ := o3 _ (getD_in (d := ([], [])) hr)
    refine ⟨by rw [a1.1]; exact b2.1, by rw [a2]; exact b3, fun k hk => ?_⟩
    rw [a2] at hk
    obtain ⟨c1, c2⟩ := a3 k hk
    obtain ⟨d1, d2, d3⟩ := b4 _ (getD_in (d := []) hk)
    rw [c1]
    refine ⟨d1, fun j hj => ?_⟩
    rw [(c2 j hj).2.1]
    exact (d2 _ (getD_in (d := (false, [])) hj)).2.1
theorem ruleB_c {g : Nat → Nat} {gr : GrT} (hgr : GrAt g gr) (go : GrOK gr) {r : Nat} (hr : r < gr.2.1.length) {c : Nat} (hc : c < 256) : ruleB g r (nI c) = inRule (gr.2.1.getD r ([], [])) c := by
  obtain ⟨h1, h2, h3, h4⟩ := hgr
  obtain ⟨o1, o2, o3, o4⟩ := go
  obtain ⟨a1, a2, a3⟩ := h2.2 r hr
  obtain ⟨b1, b2, b3, b4⟩ := o3 _ (getD_in (d := ([], [])) hr)
  unfold ruleB inRule chsB chB
  rw [rowB_c a1 (fun c hc => (b2.2 c hc).1) hc, a2]
  congr 1
  refine any_range (d := []) (fun k hk => ?_)
  obtain ⟨c1, c2⟩ := a3 k hk
  obtain ⟨d1, d2, d3⟩ := b4 _ (getD_in (d := []) hk)
  rw [c1]
  refine any_range (d := (false, [])) (fun j hj => ?_)
  exact rowB_c (c2 j hj).2 (fun c hc => ((d2 _ (getD_in hj)).2.2 c hc).1) hc
theorem q_stands {h : AH} {M : Nat} (H : MOK h M) {f : Nat → Nat → Int32} {g : Nat → Nat} {gr : GrT} {nt : List Nat} {tx : List (List Nat)} (hs : NowAt f g gr nt tx) {c : Nat} (hc : c < 256) : d_M_standsIn [.ref M, .int (nI c)] (mh h M f) = some (nI (orS (fun r => inRule (gr.2.1.getD r ([], [])) c) gr.2.1.length), (mh h M f)) := by
  obtain ⟨hg, hgr, hnt, htx, go, no, xo⟩ := hs
  have := q_standsIn H (F := mF h M f) (g := g) (Rd_of hg) (GOK_of hgr go) (nI c)
  rw [hgr.2.1.1] at this
  refine this.trans ?_
  congr 3
  have key : ∀ n, n ≤ gr.2.1.length → orS (fun r => ruleB g r (nI c)) n = orS (fun r => inRule (gr.2.1.getD r ([], [])) c) n := by
    intro n
    induction n with
    | zero => intro _; rfl
    | succ n ih =>
      intro hn
      simp only [orS, ih (by omega), ruleB_c hgr go (show n < gr.2.1.length by omega) hc]
  exact key _ (Nat.le_refl _)
theorem orR_cap {g : Nat → Nat} {a : Nat} {row : List Nat} (hr : RowAt g a row) : ∀ n, n ≤ row.length → orR g a n = capBits (row.take n)
  | 0, _ => rfl
  | n + 1, hn => by
    have ih := orR_cap hr n (by omega)
    rw [take_snoc (getD_some (show n < row.length by omega))]
    unfold capBits at *
    rw [List.foldl_append, ← ih]
    simp only [orR, List.foldl_cons, List.foldl_nil]
    rw [show g (a + (n + 1)) = row.getD n 0 by rw [← hr.2 n (by omega)]; congr 1; omega]
    congr 1
    unfold cap1
    by_cases z : 65 ≤ row.getD n 0 ∧ row.getD n 0 ≤ 90
    · rw [if_pos z, if_pos (cap_iff.mpr z)]
    · rw [if_neg z, if_neg (mt cap_iff.mp z)]
theorem rule_at {g : Nat → Nat} {gr : GrT} (hgr : GrAt g gr) (go : GrOK gr) {r : Nat} (hr : r < gr.2.1.length) : RuAt g r (gr.2.1.getD r ([], [])) ∧ RtOK gr.1 (gr.2.1.getD r ([], [])) := ⟨hgr.2.1.2 r hr, go.2.2.1 _ (getD_in hr)⟩
theorem q_hdMetas {h : AH} {M : Nat} (H : MOK h M) {f : Nat → Nat → Int32} {g : Nat → Nat} {gr : GrT} {nt : List Nat} {tx : List (List Nat)} (hs : NowAt f g gr nt tx) {r : Nat} (hr : r < gr.2.1.length) : d_M_headMetas [.ref M, .int (nI r)] (mh h M f) = some (nI (capBits (gr.2.1.getD r ([], [])).1), (mh h M f)) := by
  obtain ⟨hg, hgr, hnt, htx, go, no, xo⟩ := hs
  obtain ⟨⟨a1, a2, a3⟩, b1, b2, b3, b4⟩ := rule_at hgr go hr
  have := q_headMetas H (F := mF h M f) (g := g) (Rd_of hg) (GOK_of hgr go) (r := r) (by rw [hgr.2.1.1]; exact hr) (fun i hi => by
    rw [a1.1] at hi
    rw [show g (184 + 140 * r + (i + 1)) = (gr.2.1.getD r ([], [])).1.getD i 0 by rw [← a1.2 i hi]; congr 1; omega]
    exact sg256 (b2.2 _ (getD_mem hi)).1)
  rw [a1.1, orR_cap a1 _ (Nat.le_refl _), List.take_length] at this
  exact this
def ruleA (rs : List RuleT) (x y : Int32) : Int32 := match ixOf rs.length x with
  | none => -1
  | some r => if y = nI 0 then nI (rs.getD r ([], [])).1.length else if y = nI 1 then nI (rs.getD r ([], [])).2.length else if y = nI 2 then nI (capBits (rs.getD r ([], [])).1) else -1
theorem nIne {a b : Nat} (ha : a < 2 ^ 31) (hb : b < 2 ^ 31) (h : a ≠ b) : ¬ nI a = nI b := fun e => h ((nI_eq ha hb).mp e)
theorem q_chs {h : AH} {M : Nat} (H : MOK h M) {f : Nat → Nat → Int32} {g : Nat → Nat} {gr : GrT} {nt : List Nat} {tx : List (List Nat)} (hs : NowAt f g gr nt tx) {r : Nat} (hr : r < gr.2.1.length) : d_M_choices [.ref M, .int (nI r)] (mh h M f) = some (nI (gr.2.1.getD r ([], [])).2.length, (mh h M f)) := by
  obtain ⟨hg, hgr, hnt, htx, go, no, xo⟩ := hs
  obtain ⟨⟨a1, a2, a3⟩, -⟩ := rule_at hgr go hr
  have := q_choices H (F := mF h M f) (g := g) (Rd_of hg) (r := r) (by have := go.2.1; omega)
  rw [a2] at this
  exact this
theorem q_rule {h : AH} {M : Nat} (H : MOK h M) {f : Nat → Nat → Int32} {g : Nat → Nat} {gr : GrT} {nt : List Nat} {tx : List (List Nat)} (hs : NowAt f g gr nt tx) (x y : Int32) : d_M_rule [.ref M, .int x, .int y] (mh h M f) = some (ruleA gr.2.1 x y, (mh h M f)) := by
  have hs0 := hs
  obtain ⟨hg, hgr, hnt, htx, go, no, xo⟩ := hs
  have go10 := go.2.1
  cases hx : ixOf gr.2.1.length x with
  | none =>
    rw [show ruleA gr.2.1 x y = -1 by unfold ruleA; rw [hx]]
    refine wpm_to ?_
    unfold d_M_rule
    (rw [m_mth]; refine ⟨by simp only [m_mth, s_sk, s_brk, s_cnt, s_sq, s_if, s_rtn, s_rtnU, s_E, s_I1, s_R1, s_J1, s_Inc, s_h2, s_h3, s_u2, s_u3, e_C, e_h1, e_h2, e_lI, e_lJ, e_lR, e_if, e_and, e_or, e_not, a_nil, a_I, a_J, a_R, e_kS, e_kV, e_kN, e_nA, ok_some, ok_none, ok_bind, ok_guard, ok_guardN, asI_int, asJ_long, asR_ref, asR_rf, asR_null, entL, ent, sto, sto2, ok1, Value.category, va_rf, List.length_cons, List.length_nil, List.length_append, List.length_replicate, List.nil_append, List.cons_append, List.append_nil, List.replicate_succ, List.replicate_zero, List.getElem?_cons_zero, List.getElem?_cons_succ, List.set_cons_zero, List.set_cons_succ, gI, gJ, gR, pI, pJ, pR, aI, aJ, aR, aL, stI, stB, stZ, stJ, uF, uA, Option.bind_some, iaddF, isubF, imulF, iandF, iorF, ixorF, ishlF, ishrF, iushrF, inegF, i2bF, i2lF, l2iF, c_eq, c_ne, c_lt, c_le, c_gt, c_ge, z_eq, z_ne, z_lt, z_le, z_gt, z_ge, j_eq, j_ne, j_gt, n_nul, n_non, tt, zz, hN_u, hU_u, hT_u, hL_u, hI_u, hJ_u, hR_u, sI_u, decide_eq_true_eq, true_and, and_true, if_true, reduceIte, beq_self_eq_true, Bool.true_or, Bool.and_self, Nat.reduceAdd, Nat.reduceSub, Nat.reduceLT, Nat.reduceLeDiff, Nat.reduceBEq, Nat.reduceEqDiff, Bool.or_true, Bool.false_or, List.mem_cons, List.mem_singleton, true_or, or_true, mh_N, mh_U, mh_T, mh_L, mh_R, mh_J, mh_0, mh_s0, mh_I, mh_s, sa_20, sa_21, sa_22, sa_23, sa_24, sa_25, sa_26, sa_27, sa_28, sa_29, sa_30, sa_31, sa_32, sa_33, sa_34, sa_35, sa_36, sa_37, sa_38, sa_39, sa_40, sa_41, sa_42, sa_43, sa_44, sa_45, sa_46, sa_47, sa_48, sa_49, sa_50, sa_51, sa_52, sa_70, sa_71, sa_72, sa_73, sa_74, sa_75, sa_76, sa_77, sa_78, sa_79, sa_80, sa_81, sa_82, sa_83, sa_84, sa_85, sa_86, sa_87, sa_88, sa_89, sa_90, sa_91, sa_92, sa_93, sa_94, sa_95, sa_96, sa_97, sa_98, sa_99, sa_100, sa_101, decide_eq_false_iff_not], ?_⟩; simp only [entL, ent, Value.category, List.length_cons, List.length_nil, Nat.reduceAdd, Nat.reduceSub, List.replicate_succ, List.replicate_zero, List.cons_append, List.nil_append, Nat.reduceBEq, Bool.false_eq_true, if_false])
    refine seq fun N1 k1 => s_ifT (h' := (mh h M f)) ?_ ?_
    · simp only [m_mth, s_sk, s_brk, s_cnt, s_sq, s_if, s_rtn, s_rtnU, s_E, s_I1, s_R1, s_J1, s_Inc, s_h2, s_h3, s_u2, s_u3, e_C, e_h1, e_h2, e_lI, e_lJ, e_lR, e_if, e_and, e_or, e_not, a_nil, a_I, a_J, a_R, e_kS, e_kV, e_kN, e_nA, ok_some, ok_none, ok_bind, ok_guard, ok_guardN, asI_int, asJ_long, asR_ref, asR_rf, asR_null, entL, ent, sto, sto2, ok1, Value.category, va_rf, List.length_cons, List.length_nil, List.length_append, List.length_replicate, List.nil_append, List.cons_append, List.append_nil, List.replicate_succ, List.replicate_zero, List.getElem?_cons_zero, List.getElem?_cons_succ, List.set_cons_zero, List.set_cons_succ, gI, gJ, gR, pI, pJ, pR, aI, aJ, aR, aL, stI, stB, stZ, stJ, uF, uA, Option.bind_some, iaddF, isubF, imulF, iandF, iorF, ixorF, ishlF, ishrF, iushrF, inegF, i2bF, i2lF, l2iF, c_eq, c_ne, c_lt, c_le, c_gt, c_ge, z_eq, z_ne, z_lt, z_le, z_gt, z_ge, j_eq, j_ne, j_gt, n_nul, n_non, tt, zz, hN_u, hU_u, hT_u, hL_u, hI_u, hJ_u, hR_u, sI_u, decide_eq_true_eq, true_and, and_true, if_true, reduceIte, beq_self_eq_true, Bool.true_or, Bool.and_self, Nat.reduceAdd, Nat.reduceSub, Nat.reduceLT, Nat.reduceLeDiff, Nat.reduceBEq, Nat.reduceEqDiff, Bool.or_true, Bool.false_or, List.mem_cons, List.mem_singleton, true_or, or_true, mh_N, mh_U, mh_T, mh_L, mh_R, mh_J, mh_0, mh_s0, mh_I, mh_s, sa_20, sa_21, sa_22, sa_23, sa_24, sa_25, sa_26, sa_27, sa_28, sa_29, sa_30, sa_31, sa_32, sa_33, sa_34, sa_35, sa_36, sa_37, sa_38, sa_39, sa_40, sa_41, sa_42, sa_43, sa_44, sa_45, sa_46, sa_47, sa_48, sa_49, sa_50, sa_51, sa_52, sa_70, sa_71, sa_72, sa_73, sa_74, sa_75, sa_76, sa_77, sa_78, sa_79, sa_80, sa_81, sa_82, sa_83, sa_84, sa_85, sa_86, sa_87, sa_88, sa_89, sa_90, sa_91, sa_92, sa_93, sa_94, sa_95, sa_96, sa_97, sa_98, sa_99, sa_100, sa_101, decide_eq_false_iff_not, H.1, wpm_eq (q_isR H hs0 x), hx, Option.isSome_none, bI, Bool.false_eq_true, if_false, nI_0, not_true_eq_false, decide_false, Bool.not_false]
    · simp only [m_mth, s_sk, s_brk, s_cnt, s_sq, s_if, s_rtn, s_rtnU, s_E, s_I1, s_R1, s_J1, s_Inc, s_h2, s_h3, s_u2, s_u3, e_C, e_h1, e_h2, e_lI, e_lJ, e_lR, e_if, e_and, e_or, e_not, a_nil, a_I, a_J, a_R, e_kS, e_kV, e_kN, e_nA, ok_some, ok_none, ok_bind, ok_guard, ok_guardN, asI_int, asJ_long, asR_ref, asR_rf, asR_null, entL, ent, sto, sto2, ok1, Value.category, va_rf, List.length_cons, List.length_nil, List.length_append, List.length_replicate, List.nil_append, List.cons_append, List.append_nil, List.replicate_succ, List.replicate_zero, List.getElem?_cons_zero, List.getElem?_cons_succ, List.set_cons_zero, List.set_cons_succ, gI, gJ, gR, pI, pJ, pR, aI, aJ, aR, aL, stI, stB, stZ, stJ, uF, uA, Option.bind_some, iaddF, isubF, imulF, iandF, iorF, ixorF, ishlF, ishrF, iushrF, inegF, i2bF, i2lF, l2iF, c_eq, c_ne, c_lt, c_le, c_gt, c_ge, z_eq, z_ne, z_lt, z_le, z_gt, z_ge, j_eq, j_ne, j_gt, n_nul, n_non, tt, zz, hN_u, hU_u, hT_u, hL_u, hI_u, hJ_u, hR_u, sI_u, decide_eq_true_eq, true_and, and_true, if_true, reduceIte, beq_self_eq_true, Bool.true_or, Bool.and_self, Nat.reduceAdd, Nat.reduceSub, Nat.reduceLT, Nat.reduceLeDiff, Nat.reduceBEq, Nat.reduceEqDiff, Bool.or_true, Bool.false_or, List.mem_cons, List.mem_singleton, true_or, or_true, mh_N, mh_U, mh_T, mh_L, mh_R, mh_J, mh_0, mh_s0, mh_I, mh_s, sa_20, sa_21, sa_22, sa_23, sa_24, sa_25, sa_26, sa_27, sa_28, sa_29, sa_30, sa_31, sa_32, sa_33, sa_34, sa_35, sa_36, sa_37, sa_38, sa_39, sa_40, sa_41, sa_42, sa_43, sa_44, sa_45, sa_46, sa_47, sa_48, sa_49, sa_50, sa_51, sa_52, sa_70, sa_71, sa_72, sa_73, sa_74, sa_75, sa_76, sa_77, sa_78, sa_79, sa_80, sa_81, sa_82, sa_83, sa_84, sa_85, sa_86, sa_87, sa_88, sa_89, sa_90, sa_91, sa_92, sa_93, sa_94, sa_95, sa_96, sa_97, sa_98, sa_99, sa_100, sa_101, decide_eq_false_iff_not]
  | some r =>
    obtain ⟨hr, rfl⟩ := ix_some (by omega) hx
    obtain ⟨⟨a1, a2, a3⟩, b1, b2, b3, b4⟩ := rule_at hgr go hr
    refine wpm_to ?_
    unfold d_M_rule
    (rw [m_mth]; refine ⟨by simp only [m_mth, s_sk, s_brk, s_cnt, s_sq, s_if, s_rtn, s_rtnU, s_E, s_I1, s_R1, s_J1, s_Inc, s_h2, s_h3, s_u2, s_u3, e_C, e_h1, e_h2, e_lI, e_lJ, e_lR, e_if, e_and, e_or, e_not, a_nil, a_I, a_J, a_R, e_kS, e_kV, e_kN, e_nA, ok_some, ok_none, ok_bind, ok_guard, ok_guardN, asI_int, asJ_long, asR_ref, asR_rf, asR_null, entL, ent, sto, sto2, ok1, Value.category, va_rf, List.length_cons, List.length_nil, List.length_append, List.length_replicate, List.nil_append, List.cons_append, List.append_nil, List.replicate_succ, List.replicate_zero, List.getElem?_cons_zero, List.getElem?_cons_succ, List.set_cons_zero, List.set_cons_succ, gI, gJ, gR, pI, pJ, pR, aI, aJ, aR, aL, stI, stB, stZ, stJ, uF, uA, Option.bind_some, iaddF, isubF, imulF, iandF, iorF, ixorF, ishlF, ishrF, iushrF, inegF, i2bF, i2lF, l2iF, c_eq, c_ne, c_lt, c_le, c_gt, c_ge, z_eq, z_ne, z_lt, z_le, z_gt, z_ge, j_eq, j_ne, j_gt, n_nul, n_non, tt, zz, hN_u, hU_u, hT_u, hL_u, hI_u, hJ_u, hR_u, sI_u, decide_eq_true_eq, true_and, and_true, if_true, reduceIte, beq_self_eq_true, Bool.true_or, Bool.and_self, Nat.reduceAdd, Nat.reduceSub, Nat.reduceLT, Nat.reduceLeDiff, Nat.reduceBEq, Nat.reduceEqDiff, Bool.or_true, Bool.false_or, List.mem_cons, List.mem_singleton, true_or, or_true, mh_N, mh_U, mh_T, mh_L, mh_R, mh_J, mh_0, mh_s0, mh_I, mh_s, sa_20, sa_21, sa_22, sa_23, sa_24, sa_25, sa_26, sa_27, sa_28, sa_29, sa_30, sa_31, sa_32, sa_33, sa_34, sa_35, sa_36, sa_37, sa_38, sa_39, sa_40, sa_41, sa_42, sa_43, sa_44, sa_45, sa_46, sa_47, sa_48, sa_49, sa_50, sa_51, sa_52, sa_70, sa_71, sa_72, sa_73, sa_74, sa_75, sa_76, sa_77, sa_78, sa_79, sa_80, sa_81, sa_82, sa_83, sa_84, sa_85, sa_86, sa_87, sa_88, sa_89, sa_90, sa_91, sa_92, sa_93, sa_94, sa_95, sa_96, sa_97, sa_98, sa_99, sa_100, sa_101, decide_eq_false_iff_not], ?_⟩; simp only [entL, ent, Value.category, List.length_cons, List.length_nil, Nat.reduceAdd, Nat.reduceSub, List.replicate_succ, List.replicate_zero, List.cons_append, List.nil_append, Nat.reduceBEq, Bool.false_eq_true, if_false])
    refine seq fun N1 k1 => s_ifF (h' := (mh h M f)) ?_ (s_sk.mpr (k1 _ _ ?_))
    · simp only [m_mth, s_sk, s_brk, s_cnt, s_sq, s_if, s_rtn, s_rtnU, s_E, s_I1, s_R1, s_J1, s_Inc, s_h2, s_h3, s_u2, s_u3, e_C, e_h1, e_h2, e_lI, e_lJ, e_lR, e_if, e_and, e_or, e_not, a_nil, a_I, a_J, a_R, e_kS, e_kV, e_kN, e_nA, ok_some, ok_none, ok_bind, ok_guard, ok_guardN, asI_int, asJ_long, asR_ref, asR_rf, asR_null, entL, ent, sto, sto2, ok1, Value.category, va_rf, List.length_cons, List.length_nil, List.length_append, List.length_replicate, List.nil_append, List.cons_append, List.append_nil, List.replicate_succ, List.replicate_zero, List.getElem?_cons_zero, List.getElem?_cons_succ, List.set_cons_zero, List.set_cons_succ, gI, gJ, gR, pI, pJ, pR, aI, aJ, aR, aL, stI, stB, stZ, stJ, uF, uA, Option.bind_some, iaddF, isubF, imulF, iandF, iorF, ixorF, ishlF, ishrF, iushrF, inegF, i2bF, i2lF, l2iF, c_eq, c_ne, c_lt, c_le, c_gt, c_ge, z_eq, z_ne, z_lt, z_le, z_gt, z_ge, j_eq, j_ne, j_gt, n_nul, n_non, tt, zz, hN_u, hU_u, hT_u, hL_u, hI_u, hJ_u, hR_u, sI_u, decide_eq_true_eq, true_and, and_true, if_true, reduceIte, beq_self_eq_true, Bool.true_or, Bool.and_self, Nat.reduceAdd, Nat.reduceSub, Nat.reduceLT, Nat.reduceLeDiff, Nat.reduceBEq, Nat.reduceEqDiff, Bool.or_true, Bool.false_or, List.mem_cons, List.mem_singleton, true_or, or_true, mh_N, mh_U, mh_T, mh_L, mh_R, mh_J, mh_0, mh_s0, mh_I, mh_s, sa_20, sa_21, sa_22, sa_23, sa_24, sa_25, sa_26, sa_27, sa_28, sa_29, sa_30, sa_31, sa_32, sa_33, sa_34, sa_35, sa_36, sa_37, sa_38, sa_39, sa_40, sa_41, sa_42, sa_43, sa_44, sa_45, sa_46, sa_47, sa_48, sa_49, sa_50, sa_51, sa_52, sa_70, sa_71, sa_72, sa_73, sa_74, sa_75, sa_76, sa_77, sa_78, sa_79, sa_80, sa_81, sa_82, sa_83, sa_84, sa_85, sa_86, sa_87, sa_88, sa_89, sa_90, sa_91, sa_92, sa_93, sa_94, sa_95, sa_96, sa_97, sa_98, sa_99, sa_100, sa_101, decide_eq_false_iff_not, H.1, wpm_eq (q_isR H hs0 _), hx, Option.isSome_some, bI, show ¬ nI 1 = 0 by decide, not_false_eq_true, decide_true, Bool.not_true]
    refine s_sw y (mh h M f) (by simp only [m_mth, s_sk, s_brk, s_cnt, s_sq, s_if, s_rtn, s_rtnU, s_E, s_I1, s_R1, s_J1, s_Inc, s_h2, s_h3, s_u2, s_u3, e_C, e_h1, e_h2, e_lI, e_lJ, e_lR, e_if, e_and, e_or, e_not, a_nil, a_I, a_J, a_R, e_kS, e_kV, e_kN, e_nA, ok_some, ok_none, ok_bind, ok_guard, ok_guardN, asI_int, asJ_long, asR_ref, asR_rf, asR_null, entL, ent, sto, sto2, ok1, Value.category, va_rf, List.length_cons, List.length_nil, List.length_append, List.length_replicate, List.nil_append, List.cons_append, List.append_nil, List.replicate_succ, List.replicate_zero, List.getElem?_cons_zero, List.getElem?_cons_succ, List.set_cons_zero, List.set_cons_succ, gI, gJ, gR, pI, pJ, pR, aI, aJ, aR, aL, stI, stB, stZ, stJ, uF, uA, Option.bind_some, iaddF, isubF, imulF, iandF, iorF, ixorF, ishlF, ishrF, iushrF, inegF, i2bF, i2lF, l2iF, c_eq, c_ne, c_lt, c_le, c_gt, c_ge, z_eq, z_ne, z_lt, z_le, z_gt, z_ge, j_eq, j_ne, j_gt, n_nul, n_non, tt, zz, hN_u, hU_u, hT_u, hL_u, hI_u, hJ_u, hR_u, sI_u, decide_eq_true_eq, true_and, and_true, if_true, reduceIte, beq_self_eq_true, Bool.true_or, Bool.and_self, Nat.reduceAdd, Nat.reduceSub, Nat.reduceLT, Nat.reduceLeDiff, Nat.reduceBEq, Nat.reduceEqDiff, Bool.or_true, Bool.false_or, List.mem_cons, List.mem_singleton, true_or, or_true, mh_N, mh_U, mh_T, mh_L, mh_R, mh_J, mh_0, mh_s0, mh_I, mh_s, sa_20, sa_21, sa_22, sa_23, sa_24, sa_25, sa_26, sa_27, sa_28, sa_29, sa_30, sa_31, sa_32, sa_33, sa_34, sa_35, sa_36, sa_37, sa_38, sa_39, sa_40, sa_41, sa_42, sa_43, sa_44, sa_45, sa_46, sa_47, sa_48, sa_49, sa_50, sa_51, sa_52, sa_70, sa_71, sa_72, sa_73, sa_74, sa_75, sa_76, sa_77, sa_78, sa_79, sa_80, sa_81, sa_82, sa_83, sa_84, sa_85, sa_86, sa_87, sa_88, sa_89, sa_90, sa_91, sa_92, sa_93, sa_94, sa_95, sa_96, sa_97, sa_98, sa_99, sa_100, sa_101, decide_eq_false_iff_not]) ?_ ?_ (by decide)
    · intro i q _ hq hy
      match i, hq with
      | 0, hq =>
        cases hq
        rw [show ruleA gr.2.1 (nI r) y = nI (gr.2.1.getD r ([], [])).1.length by unfold ruleA; simp only [hx, hy, if_true]]
        simp (disch := omega) only [m_mth, s_sk, s_brk, s_cnt, s_sq, s_if, s_rtn, s_rtnU, s_E, s_I1, s_R1, s_J1, s_Inc, s_h2, s_h3, s_u2, s_u3, e_C, e_h1, e_h2, e_lI, e_lJ, e_lR, e_if, e_and, e_or, e_not, a_nil, a_I, a_J, a_R, e_kS, e_kV, e_kN, e_nA, ok_some, ok_none, ok_bind, ok_guard, ok_guardN, asI_int, asJ_long, asR_ref, asR_rf, asR_null, entL, ent, sto, sto2, ok1, Value.category, va_rf, List.length_cons, List.length_nil, List.length_append, List.length_replicate, List.nil_append, List.cons_append, List.append_nil, List.replicate_succ, List.replicate_zero, List.getElem?_cons_zero, List.getElem?_cons_succ, List.set_cons_zero, List.set_cons_succ, gI, gJ, gR, pI, pJ, pR, aI, aJ, aR, aL, stI, stB, stZ, stJ, uF, uA, Option.bind_some, iaddF, isubF, imulF, iandF, iorF, ixorF, ishlF, ishrF, iushrF, inegF, i2bF, i2lF, l2iF, c_eq, c_ne, c_lt, c_le, c_gt, c_ge, z_eq, z_ne, z_lt, z_le, z_gt, z_ge, j_eq, j_ne, j_gt, n_nul, n_non, tt, zz, hN_u, hU_u, hT_u, hL_u, hI_u, hJ_u, hR_u, sI_u, decide_eq_true_eq, true_and, and_true, if_true, reduceIte, beq_self_eq_true, Bool.true_or, Bool.and_self, Nat.reduceAdd, Nat.reduceSub, Nat.reduceLT, Nat.reduceLeDiff, Nat.reduceBEq, Nat.reduceEqDiff, Bool.or_true, Bool.false_or, List.mem_cons, List.mem_singleton, true_or, or_true, mh_N, mh_U, mh_T, mh_L, mh_R, mh_J, mh_0, mh_s0, mh_I, mh_s, sa_20, sa_21, sa_22, sa_23, sa_24, sa_25, sa_26, sa_27, sa_28, sa_29, sa_30, sa_31, sa_32, sa_33, sa_34, sa_35, sa_36, sa_37, sa_38, sa_39, sa_40, sa_41, sa_42, sa_43, sa_44, sa_45, sa_46, sa_47, sa_48, sa_49, sa_50, sa_51, sa_52, sa_70, sa_71, sa_72, sa_73, sa_74, sa_75, sa_76, sa_77, sa_78, sa_79, sa_80, sa_81, sa_82, sa_83, sa_84, sa_85, sa_86, sa_87, sa_88, sa_89, sa_90, sa_91, sa_92, sa_93, sa_94, sa_95, sa_96, sa_97, sa_98, sa_99, sa_100, sa_101, decide_eq_false_iff_not, H.1, mr_now H, mt_now H, ml_now H, wpm_eq (q_ruleAt (show r < 20 by omega)), nI_clamp, nI_pos, nI_add, pk_mul, nI_ltI, nI_leI, not_false_eq_true, hg _, a1.1] <;> omega
      | 1, hq =>
        cases hq
        rw [show ruleA gr.2.1 (nI r) y = nI (gr.2.1.getD r ([], [])).2.length by unfold ruleA; simp only [hx, hy, if_true, nIne (show 1 < 2 ^ 31 by decide) (show 0 < 2 ^ 31 by decide) (by decide), if_false]]
        simp only [m_mth, s_sk, s_brk, s_cnt, s_sq, s_if, s_rtn, s_rtnU, s_E, s_I1, s_R1, s_J1, s_Inc, s_h2, s_h3, s_u2, s_u3, e_C, e_h1, e_h2, e_lI, e_lJ, e_lR, e_if, e_and, e_or, e_not, a_nil, a_I, a_J, a_R, e_kS, e_kV, e_kN, e_nA, ok_some, ok_none, ok_bind, ok_guard, ok_guardN, asI_int, asJ_long, asR_ref, asR_rf, asR_null, entL, ent, sto, sto2, ok1, Value.category, va_rf, List.length_cons, List.length_nil, List.length_append, List.length_replicate, List.nil_append, List.cons_append, List.append_nil, List.replicate_succ, List.replicate_zero, List.getElem?_cons_zero, List.getElem?_cons_succ, List.set_cons_zero, List.set_cons_succ, gI, gJ, gR, pI, pJ, pR, aI, aJ, aR, aL, stI, stB, stZ, stJ, uF, uA, Option.bind_some, iaddF, isubF, imulF, iandF, iorF, ixorF, ishlF, ishrF, iushrF, inegF, i2bF, i2lF, l2iF, c_eq, c_ne, c_lt, c_le, c_gt, c_ge, z_eq, z_ne, z_lt, z_le, z_gt, z_ge, j_eq, j_ne, j_gt, n_nul, n_non, tt, zz, hN_u, hU_u, hT_u, hL_u, hI_u, hJ_u, hR_u, sI_u, decide_eq_true_eq, true_and, and_true, if_true, reduceIte, beq_self_eq_true, Bool.true_or, Bool.and_self, Nat.reduceAdd, Nat.reduceSub, Nat.reduceLT, Nat.reduceLeDiff, Nat.reduceBEq, Nat.reduceEqDiff, Bool.or_true, Bool.false_or, List.mem_cons, List.mem_singleton, true_or, or_true, mh_N, mh_U, mh_T, mh_L, mh_R, mh_J, mh_0, mh_s0, mh_I, mh_s, sa_20, sa_21, sa_22, sa_23, sa_24, sa_25, sa_26, sa_27, sa_28, sa_29, sa_30, sa_31, sa_32, sa_33, sa_34, sa_35, sa_36, sa_37, sa_38, sa_39, sa_40, sa_41, sa_42, sa_43, sa_44, sa_45, sa_46, sa_47, sa_48, sa_49, sa_50, sa_51, sa_52, sa_70, sa_71, sa_72, sa_73, sa_74, sa_75, sa_76, sa_77, sa_78, sa_79, sa_80, sa_81, sa_82, sa_83, sa_84, sa_85, sa_86, sa_87, sa_88, sa_89, sa_90, sa_91, sa_92, sa_93, sa_94, sa_95, sa_96, sa_97, sa_98, sa_99, sa_100, sa_101, decide_eq_false_iff_not, H.1, wpm_eq (q_chs H hs0 hr)]
      | 2, hq =>
        cases hq
        rw [show ruleA gr.2.1 (nI r) y = nI (capBits (gr.2.1.getD r ([], [])).1) by unfold ruleA; simp only [hx, hy, if_true, nIne (show 2 < 2 ^ 31 by decide) (show 0 < 2 ^ 31 by decide) (by decide), nIne (show 2 < 2 ^ 31 by decide) (show 1 < 2 ^ 31 by decide) (by decide), if_false]]
        simp only [m_mth, s_sk, s_brk, s_cnt, s_sq, s_if, s_rtn, s_rtnU, s_E, s_I1, s_R1, s_J1, s_Inc, s_h2, s_h3, s_u2, s_u3, e_C, e_h1, e_h2, e_lI, e_lJ, e_lR, e_if, e_and, e_or, e_not, a_nil, a_I, a_J, a_R, e_kS, e_kV, e_kN, e_nA, ok_some, ok_none, ok_bind, ok_guard, ok_guardN, asI_int, asJ_long, asR_ref, asR_rf, asR_null, entL, ent, sto, sto2, ok1, Value.category, va_rf, List.length_cons, List.length_nil, List.length_append, List.length_replicate, List.nil_append, List.cons_append, List.append_nil, List.replicate_succ, List.replicate_zero, List.getElem?_cons_zero, List.getElem?_cons_succ, List.set_cons_zero, List.set_cons_succ, gI, gJ, gR, pI, pJ, pR, aI, aJ, aR, aL, stI, stB, stZ, stJ, uF, uA, Option.bind_some, iaddF, isubF, imulF, iandF, iorF, ixorF, ishlF, ishrF, iushrF, inegF, i2bF, i2lF, l2iF, c_eq, c_ne, c_lt, c_le, c_gt, c_ge, z_eq, z_ne, z_lt, z_le, z_gt, z_ge, j_eq, j_ne, j_gt, n_nul, n_non, tt, zz, hN_u, hU_u, hT_u, hL_u, hI_u, hJ_u, hR_u, sI_u, decide_eq_true_eq, true_and, and_true, if_true, reduceIte, beq_self_eq_true, Bool.true_or, Bool.and_self, Nat.reduceAdd, Nat.reduceSub, Nat.reduceLT, Nat.reduceLeDiff, Nat.reduceBEq, Nat.reduceEqDiff, Bool.or_true, Bool.false_or, List.mem_cons, List.mem_singleton, true_or, or_true, mh_N, mh_U, mh_T, mh_L, mh_R, mh_J, mh_0, mh_s0, mh_I, mh_s, sa_20, sa_21, sa_22, sa_23, sa_24, sa_25, sa_26, sa_27, sa_28, sa_29, sa_30, sa_31, sa_32, sa_33, sa_34, sa_35, sa_36, sa_37, sa_38, sa_39, sa_40, sa_41, sa_42, sa_43, sa_44, sa_45, sa_46, sa_47, sa_48, sa_49, sa_50, sa_51, sa_52, sa_70, sa_71, sa_72, sa_73, sa_74, sa_75, sa_76, sa_77, sa_78, sa_79, sa_80, sa_81, sa_82, sa_83, sa_84, sa_85, sa_86, sa_87, sa_88, sa_89, sa_90, sa_91, sa_92, sa_93, sa_94, sa_95, sa_96, sa_97, sa_98, sa_99, sa_100, sa_101, decide_eq_false_iff_not, H.1, wpm_eq (q_hdMetas H hs0 hr)]
      | (j + 3), hq => simp at hq
    · intro hn
      rw [show ruleA gr.2.1 (nI r) y = -1 by unfold ruleA; simp only [hx, hn 0 (by decide) (by decide), hn 1 (by decide) (by decide), hn 2 (by decide) (by decide), if_false]]
      simp only [m_mth, s_sk, s_brk, s_cnt, s_sq, s_if, s_rtn, s_rtnU, s_E, s_I1, s_R1, s_J1, s_Inc, s_h2, s_h3, s_u2, s_u3, e_C, e_h1, e_h2, e_lI, e_lJ, e_lR, e_if, e_and, e_or, e_not, a_nil, a_I, a_J, a_R, e_kS, e_kV, e_kN, e_nA, ok_some, ok_none, ok_bind, ok_guard, ok_guardN, asI_int, asJ_long, asR_ref, asR_rf, asR_null, entL, ent, sto, sto2, ok1, Value.category, va_rf, List.length_cons, List.length_nil, List.length_append, List.length_replicate, List.nil_append, List.cons_append, List.append_nil, List.replicate_succ, List.replicate_zero, List.getElem?_cons_zero, List.getElem?_cons_succ, List.set_cons_zero, List.set_cons_succ, gI, gJ, gR, pI, pJ, pR, aI, aJ, aR, aL, stI, stB, stZ, stJ, uF, uA, Option.bind_some, iaddF, isubF, imulF, iandF, iorF, ixorF, ishlF, ishrF, iushrF, inegF, i2bF, i2lF, l2iF, c_eq, c_ne, c_lt, c_le, c_gt, c_ge, z_eq, z_ne, z_lt, z_le, z_gt, z_ge, j_eq, j_ne, j_gt, n_nul, n_non, tt, zz, hN_u, hU_u, hT_u, hL_u, hI_u, hJ_u, hR_u, sI_u, decide_eq_true_eq, true_and, and_true, if_true, reduceIte, beq_self_eq_true, Bool.true_or, Bool.and_self, Nat.reduceAdd, Nat.reduceSub, Nat.reduceLT, Nat.reduceLeDiff, Nat.reduceBEq, Nat.reduceEqDiff, Bool.or_true, Bool.false_or, List.mem_cons, List.mem_singleton, true_or, or_true, mh_N, mh_U, mh_T, mh_L, mh_R, mh_J, mh_0, mh_s0, mh_I, mh_s, sa_20, sa_21, sa_22, sa_23, sa_24, sa_25, sa_26, sa_27, sa_28, sa_29, sa_30, sa_31, sa_32, sa_33, sa_34, sa_35, sa_36, sa_37, sa_38, sa_39, sa_40, sa_41, sa_42, sa_43, sa_44, sa_45, sa_46, sa_47, sa_48, sa_49, sa_50, sa_51, sa_52, sa_70, sa_71, sa_72, sa_73, sa_74, sa_75, sa_76, sa_77, sa_78, sa_79, sa_80, sa_81, sa_82, sa_83, sa_84, sa_85, sa_86, sa_87, sa_88, sa_89, sa_90, sa_91, sa_92, sa_93, sa_94, sa_95, sa_96, sa_97, sa_98, sa_99, sa_100, sa_101, decide_eq_false_iff_not]
