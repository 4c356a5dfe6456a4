/-! ===== what a state of the reference stands for ===== -/
abbrev GrT : Type := Ms × List RuleT × Nat × Nat
def ChAt (g : Nat → Nat) (a : Nat) (ch : ChoT) : Prop := g a = ch.length ∧ ∀ j, j < ch.length → g (a + 1 + 8 * j) = (if (ch.getD j (false, [])).1 = true then 1 else 0) ∧ RowAt g (a + 1 + 8 * j + 1) (ch.getD j (false, [])).2
def RuAt (g : Nat → Nat) (r : Nat) (rt : RuleT) : Prop := RowAt g (184 + 140 * r) rt.1 ∧ g (184 + 140 * r + 7) = rt.2.length ∧ ∀ k, k < rt.2.length → ChAt g (184 + 140 * r + 8 + 33 * k) (rt.2.getD k [])
def RsAt (g : Nat → Nat) (rs : List RuleT) : Prop := g 1 = rs.length ∧ ∀ r, r < rs.length → RuAt g r (rs.getD r ([], []))
def GrAt (g : Nat → Nat) (gr : GrT) : Prop := MsAt g gr.1 ∧ RsAt g gr.2.1 ∧ g 2 = gr.2.2.1 ∧ g 3 = gr.2.2.2
def TxAt (g : Nat → Nat) (tx : List (List Nat)) : Prop := g 1595 = tx.length ∧ ∀ k, k < tx.length → RowAt g (1596 + 11 * k) (tx.getD k [])
def SgOK (ms : Ms) (row : List Nat) : Prop := row.length ≤ 6 ∧ ∀ c ∈ row, SG c ∧ (cap c = true → c ∈ nmL ms)
def ChOK (ms : Ms) (hd : List Nat) (ch : ChoT) : Prop := ch.length ≤ 4 ∧ (∀ m ∈ ch, 1 ≤ m.2.length ∧ SgOK ms m.2) ∧ (frs hd ch).length ≤ 2
def RtOK (ms : Ms) (rt : RuleT) : Prop := 1 ≤ rt.1.length ∧ SgOK ms rt.1 ∧ rt.2.length ≤ 4 ∧ ∀ ch ∈ rt.2, ChOK ms rt.1 ch
def GrOK (gr : GrT) : Prop := MsOK gr.1 ∧ gr.2.1.length ≤ 10 ∧ (∀ rt ∈ gr.2.1, RtOK gr.1 rt) ∧ (1 ≤ gr.2.2.1 ∧ gr.2.2.1 ≤ 12) ∧ gr.2.2.2 ≤ 3
def NtOK (nt : List Nat) : Prop := WL nt ∧ nt.length ≤ 10
def TxOK (tx : List (List Nat)) : Prop := tx.length ≤ 8 ∧ ∀ w ∈ tx, NtOK w
/-- the array of the state -/
def NowAt (f : Nat → Nat → Int32) (g : Nat → Nat) (gr : GrT) (nt : List Nat) (tx : List (List Nat)) : Prop := Rd (f 1) g 1684 ∧ GrAt g gr ∧ RowAt g 1584 nt ∧ TxAt g tx ∧ GrOK gr ∧ NtOK nt ∧ TxOK tx
theorem s_sw {ρ : Type} {e : EX Int32} {brs : List (ST ρ × Nat)} {df : ST ρ} {σ : List Value} {h : AH} {N B C : List Value → AH → Prop} {R : ρ → AH → Prop} (v : Int32) (h' : AH) (he : wpe e σ h (fun x h1 => x = v ∧ h1 = h')) (hb : ∀ i q, i < 100 → brs[i]? = some q → v = nI i → wps q.1 σ h' Fl Fl Fl R) (hd : (∀ i, i < 100 → i < brs.length → ¬ v = nI i) → wps df σ h' Fl Fl Fl R) (hl : brs.length ≤ 100) : wps (sSw e brs df) σ h N B C R := by
  obtain ⟨⟨x, h1⟩, e1, rfl, rfl⟩ := he
  dsimp only at hb hd
  have key : wps (if 0 ≤ x.toInt then (match brs[x.toInt.toNat]? with | some q => q.1 | none => df) else df) σ h1 Fl Fl Fl R := by
    split
    · rename_i hx
      split
      · rename_i q hq
        have hi : x.toInt.toNat < brs.length := by
          rcases Nat.lt_or_ge x.toInt.toNat brs.length with z | z
          · exact z
          · rw [List.getElem?_eq_none z] at hq; cases hq
        refine hb _ q (by omega) hq ?_
        apply Int32.toInt_inj.mp
        rw [nI_toInt (by omega)]
        omega
      · rename_i hq
        refine hd (fun i _ hi e => ?_)
        rw [e, nI_toInt (by omega)] at hq
        simp at hq
        omega
    · rename_i hx
      refine hd (fun i _ hi e => hx ?_)
      rw [e, nI_toInt (by omega)]
      omega
  unfold wps sSw
  rw [e1, Option.bind_some, ok_bind]
  refine ok_mono key ?_
  rintro ⟨o, σ2, h2⟩ q
  match o, q with
  | .inl r, q => exact ok_some.mpr q
  | .inr 0, q => exact q.elim
  | .inr 1, q => exact q.elim
  | .inr (_ + 2), q => exact q.elim
theorem q_tr {h : AH} {b : Bool} : d_M_truth [.int (bI b)] h = some (bI b, h) := by
  rw [q_truth]; cases b <;> rfl
theorem q_hasB {h : AH} {s j : Nat} (hs : s < 2 ^ 31) (hj : j < 32) : d_M_has [.int (nI s), .int (nI j)] h = some (bI (s.testBit j), h) := by
  rw [q_has hs hj]; cases s.testBit j <;> rfl
/-- the place of a METANOTION by any int -/
def cI (ms : Ms) (x : Int32) : Option Nat := (List.range ms.length).find? (fun m => decide (nI ((nmL ms).getD m 0) = x))
theorem cI_mIx {g : Nat → Nat} {ms : Ms} (hm : MsAt g ms) (x : Int32) : mIx g x = cI ms x := by
  unfold mIx cI
  rw [hm.1.1, nmL_len]
  refine find_cg _ (fun m hm' => ?_)
  rw [(hm.1.2.2 m (by rw [nmL_len]; exact List.mem_range.mp hm')).1]
theorem q_nm {h : AH} {M : Nat} (H : MOK h M) {f : Nat → Nat → Int32} {g : Nat → Nat} (hg : Rd (f 1) g 1684) {ms : Ms} (hm : MsAt g ms) (x : Int32) : d_M_metaOf [.ref M, .int x] (mh h M f) = some (oI (cI ms x), mh h M f) := by
  have := q_metaOf H (F := mF h M f) (g := g) (by rw [show mF h M f (M + 1) = f 1 from mh_I (by decide)]; exact hg) (by rw [hm.1.1]; exact hm.1.2.1) x
  rw [cI_mIx hm] at this
  exact this
theorem cI_some {ms : Ms} {x : Int32} {m : Nat} (h : cI ms x = some m) : m < ms.length ∧ x = nI ((nmL ms).getD m 0) := by
  unfold cI at h
  have h2 := List.find?_some h
  simp only [decide_eq_true_eq] at h2
  exact ⟨List.mem_range.mp (List.mem_of_find?_eq_some h), h2.symm⟩
theorem cI_none {ms : Ms} {x : Int32} (h : cI ms x = none) {c : Nat} (hc : c ∈ nmL ms) : ¬ x = nI c := by
  intro e
  obtain ⟨i, hi, e2⟩ := in_getD (d := 0) hc
  unfold cI at h
  have := List.find?_eq_none.mp h i (List.mem_range.mpr (by rw [nmL_len] at hi; exact hi))
  rw [e2, e] at this
  simp at this
theorem oI_m1 {o : Option Nat} (h : ∀ m, o = some m → m < 2 ^ 31) : (oI o = -1) ↔ o = none := by
  cases o with
  | none => simp [oI]
  | some m => simp only [oI, reduceCtorEq, iff_false]; exact nI_m1 (h m rfl)
theorem nI_as {x : Int32} {n : Nat} (h0 : ¬ x < 0) (h1 : ¬ nI n < x) (hn : n < 2 ^ 31) : ∃ j, j ≤ n ∧ x = nI j := by
  obtain ⟨j, hj, rfl⟩ := nI_of h0
  rw [nI_ltI hn hj] at h1
  exact ⟨j, by omega, rfl⟩
/-- the reference lays a notion at a level -/
def LvF (f f' : Nat → Nat → Int32) (l : Nat) : Prop := (∀ k, k ≠ 10 → k ≠ 11 → k ≠ 12 → f' k = f k) ∧ (∀ k, k < 10 * l ∨ 10 * l + 10 ≤ k → f' 10 k = f 10 k) ∧ (∀ k, k ≠ l → f' 11 k = f 11 k) ∧ (∀ k, k < 66 * l ∨ 66 * l + 66 ≤ k → f' 12 k = f 12 k)
/-- spans that stand at a level -/
def SpL (f : Nat → Nat → Int32) (ms : Ms) (l : Nat) (w : List Nat) (sv : Nat → Nat → Nat) : Prop := SvS f l (w.length + 1) sv ∧ ∀ m p q, m < ms.length → p ≤ w.length → ((sv m p).testBit q = true ↔ Spn (AofMs ms) w ((nmL ms).getD m 0) p q)
theorem q_laysSp {h : AH} {M : Nat} (H : MOK h M) {f : Nat → Nat → Int32} {g : Nat → Nat} (hg : Rd (f 1) g 1684) {ms : Ms} (ho : MsOK ms) (hms : MsAt g ms) {l : Nat} (hl : l < 14) {w : List Nat} (hw : LvS f l w) (hwl : WL w) :
    ∃ f' sv, d_M_laysSpans [.ref M, .int (nI l)] (mh h M f) = some ((), mh h M f') ∧ (∀ k, k ≠ 12 → f' k = f k) ∧ (∀ k, k < 66 * l ∨ 66 * l + 66 ≤ k → f' 12 k = f 12 k) ∧ LvS f' l w ∧ SpL f' ms l w sv := by
  obtain ⟨S, sv, e, h1, h2⟩ := q_laysSpans H hg ho hms hl hw hwl
  exact ⟨_, sv, e, fun k hk => uc_ne hk, fun k hk => (by rw [uc_eq]; exact h1.1 k hk), hw, h1.2, h2⟩
theorem q_laysNotion {h : AH} {M : Nat} (H : MOK h M) {f : Nat → Nat → Int32} {g : Nat → Nat} {gr : GrT} {nt : List Nat} {tx : List (List Nat)} (hs : NowAt f g gr nt tx) {l : Nat} (hl : l < 14) :
    ∃ f' sv, d_M_laysNotion [.ref M, .int (nI l)] (mh h M f) = some ((), mh h M f') ∧ LvF f f' l ∧ LvS f' l nt ∧ SpL f' gr.1 l nt sv := by
  obtain ⟨hg, hgr, hnt, htx, go, no, xo⟩ := hs
  have hn10 := no.2
  obtain ⟨r, h', e, f', sv, rfl, e1, e2, e3⟩ := wpm_intro (d := d_M_laysNotion) (av := [.ref M, .int (nI l)]) (h := mh h M f) (P := fun r h' => ∃ f' sv, h' = mh h M f' ∧ LvF f f' l ∧ LvS f' l nt ∧ SpL f' gr.1 l nt sv) (by
    unfold d_M_laysNotion
    rw [m_mth]
    refine ⟨by simp only [m_mth, s_sk, s_brk, s_cnt, s_sq, s_if, s_rtn, s_rtnU, s_E, s_I1, s_R1, s_J1, s_Inc, s_h2, s_h3, s_u2, s_u3, e_C, e_h1, e_h2, e_lI, e_lJ, e_lR, e_if, e_and, e_or, e_not, a_nil, a_I, a_J, a_R, e_kS, e_kV, e_kN, e_nA, ok_some, ok_none, ok_bind, ok_guard, ok_guardN, asI_int, asJ_long, asR_ref, asR_rf, asR_null, entL, ent, sto, sto2, ok1, Value.category, va_rf, List.length_cons, List.length_nil, List.length_append, List.length_replicate, List.nil_append, List.cons_append, List.append_nil, List.replicate_succ, List.replicate_zero, List.getElem?_cons_zero, List.getElem?_cons_succ, List.set_cons_zero, List.set_cons_succ, gI, gJ, gR, pI, pJ, pR, aI, aJ, aR, aL, stI, stB, stZ, stJ, uF, uA, Option.bind_some, iaddF, isubF, imulF, iandF, iorF, ixorF, ishlF, ishrF, iushrF, inegF, i2bF, i2lF, l2iF, c_eq, c_ne, c_lt, c_le, c_gt, c_ge, z_eq, z_ne, z_lt, z_le, z_gt, z_ge, j_eq, j_ne, j_gt, n_nul, n_non, tt, zz, hN_u, hU_u, hT_u, hL_u, hI_u, hJ_u, hR_u, sI_u, decide_eq_true_eq, true_and, and_true, if_true, reduceIte, beq_self_eq_true, Bool.true_or, Bool.and_self, Nat.reduceAdd, Nat.reduceSub, Nat.reduceLT, Nat.reduceLeDiff, Nat.reduceBEq, Nat.reduceEqDiff, Bool.or_true, Bool.false_or, List.mem_cons, List.mem_singleton, true_or, or_true, mh_N, mh_U, mh_T, mh_L, mh_R, mh_J, mh_0, mh_s0, mh_I, mh_s, sa_20, sa_21, sa_22, sa_23, sa_24, sa_25, sa_26, sa_27, sa_28, sa_29, sa_30, sa_31, sa_32, sa_33, sa_34, sa_35, sa_36, sa_37, sa_38, sa_39, sa_40, sa_41, sa_42, sa_43, sa_44, sa_45, sa_46, sa_47, sa_48, sa_49, sa_50, sa_51, sa_52, sa_70, sa_71, sa_72, sa_73, sa_74, sa_75, sa_76, sa_77, sa_78, sa_79, sa_80, sa_81, sa_82, sa_83, sa_84, sa_85, sa_86, sa_87, sa_88, sa_89, sa_90, sa_91, sa_92, sa_93, sa_94, sa_95, sa_96, sa_97, sa_98, sa_99, sa_100, sa_101, decide_eq_false_iff_not], ?_⟩
    simp only [entL, ent, Value.category, List.length_cons, List.length_nil, Nat.reduceAdd, Nat.reduceSub, List.replicate_succ, List.replicate_zero, List.cons_append, List.nil_append, Nat.reduceBEq, Bool.false_eq_true, if_false]
    refine seq fun N1 k1 => ?_
    simp (disch := omega) only [m_mth, s_sk, s_brk, s_cnt, s_sq, s_if, s_rtn, s_rtnU, s_E, s_I1, s_R1, s_J1, s_Inc, s_h2, s_h3, s_u2, s_u3, e_C, e_h1, e_h2, e_lI, e_lJ, e_lR, e_if, e_and, e_or, e_not, a_nil, a_I, a_J, a_R, e_kS, e_kV, e_kN, e_nA, ok_some, ok_none, ok_bind, ok_guard, ok_guardN, asI_int, asJ_long, asR_ref, asR_rf, asR_null, entL, ent, sto, sto2, ok1, Value.category, va_rf, List.length_cons, List.length_nil, List.length_append, List.length_replicate, List.nil_append, List.cons_append, List.append_nil, List.replicate_succ, List.replicate_zero, List.getElem?_cons_zero, List.getElem?_cons_succ, List.set_cons_zero, List.set_cons_succ, gI, gJ, gR, pI, pJ, pR, aI, aJ, aR, aL, stI, stB, stZ, stJ, uF, uA, Option.bind_some, iaddF, isubF, imulF, iandF, iorF, ixorF, ishlF, ishrF, iushrF, inegF, i2bF, i2lF, l2iF, c_eq, c_ne, c_lt, c_le, c_gt, c_ge, z_eq, z_ne, z_lt, z_le, z_gt, z_ge, j_eq, j_ne, j_gt, n_nul, n_non, tt, zz, hN_u, hU_u, hT_u, hL_u, hI_u, hJ_u, hR_u, sI_u, decide_eq_true_eq, true_and, and_true, if_true, reduceIte, beq_self_eq_true, Bool.true_or, Bool.and_self, Nat.reduceAdd, Nat.reduceSub, Nat.reduceLT, Nat.reduceLeDiff, Nat.reduceBEq, Nat.reduceEqDiff, Bool.or_true, Bool.false_or, List.mem_cons, List.mem_singleton, true_or, or_true, mh_N, mh_U, mh_T, mh_L, mh_R, mh_J, mh_0, mh_s0, mh_I, mh_s, sa_20, sa_21, sa_22, sa_23, sa_24, sa_25, sa_26, sa_27, sa_28, sa_29, sa_30, sa_31, sa_32, sa_33, sa_34, sa_35, sa_36, sa_37, sa_38, sa_39, sa_40, sa_41, sa_42, sa_43, sa_44, sa_45, sa_46, sa_47, sa_48, sa_49, sa_50, sa_51, sa_52, sa_70, sa_71, sa_72, sa_73, sa_74, sa_75, sa_76, sa_77, sa_78, sa_79, sa_80, sa_81, sa_82, sa_83, sa_84, sa_85, sa_86, sa_87, sa_88, sa_89, sa_90, sa_91, sa_92, sa_93, sa_94, sa_95, sa_96, sa_97, sa_98, sa_99, sa_100, sa_101, decide_eq_false_iff_not, H.1, mr_length H, mt_length H, ml_length H, mr_now H, mt_now H, ml_now H, nI_clamp, nI_pos, nI_add, pk_mul, nI_ltI, nI_leI, not_false_eq_true, hg _, hnt.1, up2_uc]
    refine ⟨by omega, k1 _ _ (seq fun N2 k2 => seq fun N3 k3 => ?_)⟩
    simp only [m_mth, s_sk, s_brk, s_cnt, s_sq, s_if, s_rtn, s_rtnU, s_E, s_I1, s_R1, s_J1, s_Inc, s_h2, s_h3, s_u2, s_u3, e_C, e_h1, e_h2, e_lI, e_lJ, e_lR, e_if, e_and, e_or, e_not, a_nil, a_I, a_J, a_R, e_kS, e_kV, e_kN, e_nA, ok_some, ok_none, ok_bind, ok_guard, ok_guardN, asI_int, asJ_long, asR_ref, asR_rf, asR_null, entL, ent, sto, sto2, ok1, Value.category, va_rf, List.length_cons, List.length_nil, List.length_append, List.length_replicate, List.nil_append, List.cons_append, List.append_nil, List.replicate_succ, List.replicate_zero, List.getElem?_cons_zero, List.getElem?_cons_succ, List.set_cons_zero, List.set_cons_succ, gI, gJ, gR, pI, pJ, pR, aI, aJ, aR, aL, stI, stB, stZ, stJ, uF, uA, Option.bind_some, iaddF, isubF, imulF, iandF, iorF, ixorF, ishlF, ishrF, iushrF, inegF, i2bF, i2lF, l2iF, c_eq, c_ne, c_lt, c_le, c_gt, c_ge, z_eq, z_ne, z_lt, z_le, z_gt, z_ge, j_eq, j_ne, j_gt, n_nul, n_non, tt, zz, hN_u, hU_u, hT_u, hL_u, hI_u, hJ_u, hR_u, sI_u, decide_eq_true_eq, true_and, and_true, if_true, reduceIte, beq_self_eq_true, Bool.true_or, Bool.and_self, Nat.reduceAdd, Nat.reduceSub, Nat.reduceLT, Nat.reduceLeDiff, Nat.reduceBEq, Nat.reduceEqDiff, Bool.or_true, Bool.false_or, List.mem_cons, List.mem_singleton, true_or, or_true, mh_N, mh_U, mh_T, mh_L, mh_R, mh_J, mh_0, mh_s0, mh_I, mh_s, sa_20, sa_21, sa_22, sa_23, sa_24, sa_25, sa_26, sa_27, sa_28, sa_29, sa_30, sa_31, sa_32, sa_33, sa_34, sa_35, sa_36, sa_37, sa_38, sa_39, sa_40, sa_41, sa_42, sa_43, sa_44, sa_45, sa_46, sa_47, sa_48, sa_49, sa_50, sa_51, sa_52, sa_70, sa_71, sa_72, sa_73, sa_74, sa_75, sa_76, sa_77, sa_78, sa_79, sa_80, sa_81, sa_82, sa_83, sa_84, sa_85, sa_86, sa_87, sa_88, sa_89, sa_90, sa_91, sa_92, sa_93, sa_94, sa_95, sa_96, sa_97, sa_98, sa_99, sa_100, sa_101, decide_eq_false_iff_not]
    refine k3 _ _ ?_
    refine s_for (fun i σ h' => ∃ S, σ = [.ref M, .int (nI l), .int (nI i)] ∧ h' = mh h M (uc (uc f 11 (uc (f 11) l (nI nt.length))) 10 S) ∧ (∀ k, k < 10 * l ∨ 10 * l + i ≤ k → S k = f 10 k) ∧ ∀ j, j < i → S (10 * l + j) = nI (nt.getD j 0)) 0 nt.length (by omega) (by omega) ⟨f 10, rfl, by rw [show f 10 = uc f 11 (uc (f 11) l (nI nt.length)) 10 from rfl, uc_self], fun _ _ => rfl, fun j hj => by omega⟩ ?_ ?_
    · rintro i σ h' hi ⟨S, rfl, rfl, a1, a2⟩
      have hni : g (1585 + i) = nt.getD i 0 := by rw [← hnt.2 i hi]
      refine wpe_to true (mh h M (uc (uc f 11 (uc (f 11) l (nI nt.length))) 10 S)) ?_ ⟨rfl, ?_⟩
      · simp (disch := omega) only [m_mth, s_sk, s_brk, s_cnt, s_sq, s_if, s_rtn, s_rtnU, s_E, s_I1, s_R1, s_J1, s_Inc, s_h2, s_h3, s_u2, s_u3, e_C, e_h1, e_h2, e_lI, e_lJ, e_lR, e_if, e_and, e_or, e_not, a_nil, a_I, a_J, a_R, e_kS, e_kV, e_kN, e_nA, ok_some, ok_none, ok_bind, ok_guard, ok_guardN, asI_int, asJ_long, asR_ref, asR_rf, asR_null, entL, ent, sto, sto2, ok1, Value.category, va_rf, List.length_cons, List.length_nil, List.length_append, List.length_replicate, List.nil_append, List.cons_append, List.append_nil, List.replicate_succ, List.replicate_zero, List.getElem?_cons_zero, List.getElem?_cons_succ, List.set_cons_zero, List.set_cons_succ, gI, gJ, gR, pI, pJ, pR, aI, aJ, aR, aL, stI, stB, stZ, stJ, uF, uA, Option.bind_some, iaddF, isubF, imulF, iandF, iorF, ixorF, ishlF, ishrF, iushrF, inegF, i2bF, i2lF, l2iF, c_eq, c_ne, c_lt, c_le, c_gt, c_ge, z_eq, z_ne, z_lt, z_le, z_gt, z_ge, j_eq, j_ne, j_gt, n_nul, n_non, tt, zz, hN_u, hU_u, hT_u, hL_u, hI_u, hJ_u, hR_u, sI_u, decide_eq_true_eq, true_and, and_true, if_true, reduceIte, beq_self_eq_true, Bool.true_or, Bool.and_self, Nat.reduceAdd, Nat.reduceSub, Nat.reduceLT, Nat.reduceLeDiff, Nat.reduceBEq, Nat.reduceEqDiff, Bool.or_true, Bool.false_or, List.mem_cons, List.mem_singleton, true_or, or_true, mh_N, mh_U, mh_T, mh_L, mh_R, mh_J, mh_0, mh_s0, mh_I, mh_s, sa_20, sa_21, sa_22, sa_23, sa_24, sa_25, sa_26, sa_27, sa_28, sa_29, sa_30, sa_31, sa_32, sa_33, sa_34, sa_35, sa_36, sa_37, sa_38, sa_39, sa_40, sa_41, sa_42, sa_43, sa_44, sa_45, sa_46, sa_47, sa_48, sa_49, sa_50, sa_51, sa_52, sa_70, sa_71, sa_72, sa_73, sa_74, sa_75, sa_76, sa_77, sa_78, sa_79, sa_80, sa_81, sa_82, sa_83, sa_84, sa_85, sa_86, sa_87, sa_88, sa_89, sa_90, sa_91, sa_92, sa_93, sa_94, sa_95, sa_96, sa_97, sa_98, sa_99, sa_100, sa_101, decide_eq_false_iff_not, H.1, mr_now H, mt_now H, ml_now H, nI_clamp, nI_pos, nI_add, pk_mul, nI_ltI, nI_leI, not_false_eq_true, uc_ne, hg _, hnt.1] <;> omega
      refine hid fun N0 B0 C0 R0 kN kB kC kR => ?_
      simp (disch := omega) only [m_mth, s_sk, s_brk, s_cnt, s_sq, s_if, s_rtn, s_rtnU, s_E, s_I1, s_R1, s_J1, s_Inc, s_h2, s_h3, s_u2, s_u3, e_C, e_h1, e_h2, e_lI, e_lJ, e_lR, e_if, e_and, e_or, e_not, a_nil, a_I, a_J, a_R, e_kS, e_kV, e_kN, e_nA, ok_some, ok_none, ok_bind, ok_guard, ok_guardN, asI_int, asJ_long, asR_ref, asR_rf, asR_null, entL, ent, sto, sto2, ok1, Value.category, va_rf, List.length_cons, List.length_nil, List.length_append, List.length_replicate, List.nil_append, List.cons_append, List.append_nil, List.replicate_succ, List.replicate_zero, List.getElem?_cons_zero, List.getElem?_cons_succ, List.set_cons_zero, List.set_cons_succ, gI, gJ, gR, pI, pJ, pR, aI, aJ, aR, aL, stI, stB, stZ, stJ, uF, uA, Option.bind_some, iaddF, isubF, imulF, iandF, iorF, ixorF, ishlF, ishrF, iushrF, inegF, i2bF, i2lF, l2iF, c_eq, c_ne, c_lt, c_le, c_gt, c_ge, z_eq, z_ne, z_lt, z_le, z_gt, z_ge, j_eq, j_ne, j_gt, n_nul, n_non, tt, zz, hN_u, hU_u, hT_u, hL_u, hI_u, hJ_u, hR_u, sI_u, decide_eq_true_eq, true_and, and_true, if_true, reduceIte, beq_self_eq_true, Bool.true_or, Bool.and_self, Nat.reduceAdd, Nat.reduceSub, Nat.reduceLT, Nat.reduceLeDiff, Nat.reduceBEq, Nat.reduceEqDiff, Bool.or_true, Bool.false_or, List.mem_cons, List.mem_singleton, true_or, or_true, mh_N, mh_U, mh_T, mh_L, mh_R, mh_J, mh_0, mh_s0, mh_I, mh_s, sa_20, sa_21, sa_22, sa_23, sa_24, sa_25, sa_26, sa_27, sa_28, sa_29, sa_30, sa_31, sa_32, sa_33, sa_34, sa_35, sa_36, sa_37, sa_38, sa_39, sa_40, sa_41, sa_42, sa_43, sa_44, sa_45, sa_46, sa_47, sa_48, sa_49, sa_50, sa_51, sa_52, sa_70, sa_71, sa_72, sa_73, sa_74, sa_75, sa_76, sa_77, sa_78, sa_79, sa_80, sa_81, sa_82, sa_83, sa_84, sa_85, sa_86, sa_87, sa_88, sa_89, sa_90, sa_91, sa_92, sa_93, sa_94, sa_95, sa_96, sa_97, sa_98, sa_99, sa_100, sa_101, decide_eq_false_iff_not, H.1, mr_now H, mt_now H, ml_now H, mr_spelled H, mt_spelled H, ml_spelled H, nI_clamp, nI_pos, nI_add, pk_mul, nI_ltI, nI_leI, not_false_eq_true, uc_ne, hg _, hni, uc_up]
      refine ⟨by omega, by omega, kN _ _ (hid fun N4 B4 C4 R4 kN4 kB4 kC4 kR4 => ?_)⟩
      simp only [m_mth, s_sk, s_brk, s_cnt, s_sq, s_if, s_rtn, s_rtnU, s_E, s_I1, s_R1, s_J1, s_Inc, s_h2, s_h3, s_u2, s_u3, e_C, e_h1, e_h2, e_lI, e_lJ, e_lR, e_if, e_and, e_or, e_not, a_nil, a_I, a_J, a_R, e_kS, e_kV, e_kN, e_nA, ok_some, ok_none, ok_bind, ok_guard, ok_guardN, asI_int, asJ_long, asR_ref, asR_rf, asR_null, entL, ent, sto, sto2, ok1, Value.category, va_rf, List.length_cons, List.length_nil, List.length_append, List.length_replicate, List.nil_append, List.cons_append, List.append_nil, List.replicate_succ, List.replicate_zero, List.getElem?_cons_zero, List.getElem?_cons_succ, List.set_cons_zero, List.set_cons_succ, gI, gJ, gR, pI, pJ, pR, aI, aJ, aR, aL, stI, stB, stZ, stJ, uF, uA, Option.bind_some, iaddF, isubF, imulF, iandF, iorF, ixorF, ishlF, ishrF, iushrF, inegF, i2bF, i2lF, l2iF, c_eq, c_ne, c_lt, c_le, c_gt, c_ge, z_eq, z_ne, z_lt, z_le, z_gt, z_ge, j_eq, j_ne, j_gt, n_nul, n_non, tt, zz, hN_u, hU_u, hT_u, hL_u, hI_u, hJ_u, hR_u, sI_u, decide_eq_true_eq, true_and, and_true, if_true, reduceIte, beq_self_eq_true, Bool.true_or, Bool.and_self, Nat.reduceAdd, Nat.reduceSub, Nat.reduceLT, Nat.reduceLeDiff, Nat.reduceBEq, Nat.reduceEqDiff, Bool.or_true, Bool.false_or, List.mem_cons, List.mem_singleton, true_or, or_true, mh_N, mh_U, mh_T, mh_L, mh_R, mh_J, mh_0, mh_s0, mh_I, mh_s, sa_20, sa_21, sa_22, sa_23, sa_24, sa_25, sa_26, sa_27, sa_28, sa_29, sa_30, sa_31, sa_32, sa_33, sa_34, sa_35, sa_36, sa_37, sa_38, sa_39, sa_40, sa_41, sa_42, sa_43, sa_44, sa_45, sa_46, sa_47, sa_48, sa_49, sa_50, sa_51, sa_52, sa_70, sa_71, sa_72, sa_73, sa_74, sa_75, sa_76, sa_77, sa_78, sa_79, sa_80, sa_81, sa_82, sa_83, sa_84, sa_85, sa_86, sa_87, sa_88, sa_89, sa_90, sa_91, sa_92, sa_93, sa_94, sa_95, sa_96, sa_97, sa_98, sa_99, sa_100, sa_101, decide_eq_false_iff_not, nI_add]
      refine kN4 _ _ ⟨_, rfl, rfl, fun k hk => ?_, fun j hj => ?_⟩
      · rw [uc_ne (by omega)]; exact a1 k (by omega)
      · by_cases q : j = i
        · rw [q, uc_eq]
        · rw [uc_ne (by omega)]; exact a2 j (by omega)
    · rintro σ h' ⟨S, rfl, rfl, a1, a2⟩
      refine wpe_to false (mh h M (uc (uc f 11 (uc (f 11) l (nI nt.length))) 10 S)) ?_ ⟨rfl, ?_⟩
      · simp (disch := omega) only [m_mth, s_sk, s_brk, s_cnt, s_sq, s_if, s_rtn, s_rtnU, s_E, s_I1, s_R1, s_J1, s_Inc, s_h2, s_h3, s_u2, s_u3, e_C, e_h1, e_h2, e_lI, e_lJ, e_lR, e_if, e_and, e_or, e_not, a_nil, a_I, a_J, a_R, e_kS, e_kV, e_kN, e_nA, ok_some, ok_none, ok_bind, ok_guard, ok_guardN, asI_int, asJ_long, asR_ref, asR_rf, asR_null, entL, ent, sto, sto2, ok1, Value.category, va_rf, List.length_cons, List.length_nil, List.length_append, List.length_replicate, List.nil_append, List.cons_append, List.append_nil, List.replicate_succ, List.replicate_zero, List.getElem?_cons_zero, List.getElem?_cons_succ, List.set_cons_zero, List.set_cons_succ, gI, gJ, gR, pI, pJ, pR, aI, aJ, aR, aL, stI, stB, stZ, stJ, uF, uA, Option.bind_some, iaddF, isubF, imulF, iandF, iorF, ixorF, ishlF, ishrF, iushrF, inegF, i2bF, i2lF, l2iF, c_eq, c_ne, c_lt, c_le, c_gt, c_ge, z_eq, z_ne, z_lt, z_le, z_gt, z_ge, j_eq, j_ne, j_gt, n_nul, n_non, tt, zz, hN_u, hU_u, hT_u, hL_u, hI_u, hJ_u, hR_u, sI_u, decide_eq_true_eq, true_and, and_true, if_true, reduceIte, beq_self_eq_true, Bool.true_or, Bool.and_self, Nat.reduceAdd, Nat.reduceSub, Nat.reduceLT, Nat.reduceLeDiff, Nat.reduceBEq, Nat.reduceEqDiff, Bool.or_true, Bool.false_or, List.mem_cons, List.mem_singleton, true_or, or_true, mh_N, mh_U, mh_T, mh_L, mh_R, mh_J, mh_0, mh_s0, mh_I, mh_s, sa_20, sa_21, sa_22, sa_23, sa_24, sa_25, sa_26, sa_27, sa_28, sa_29, sa_30, sa_31, sa_32, sa_33, sa_34, sa_35, sa_36, sa_37, sa_38, sa_39, sa_40, sa_41, sa_42, sa_43, sa_44, sa_45, sa_46, sa_47, sa_48, sa_49, sa_50, sa_51, sa_52, sa_70, sa_71, sa_72, sa_73, sa_74, sa_75, sa_76, sa_77, sa_78, sa_79, sa_80, sa_81, sa_82, sa_83, sa_84, sa_85, sa_86, sa_87, sa_88, sa_89, sa_90, sa_91, sa_92, sa_93, sa_94, sa_95, sa_96, sa_97, sa_98, sa_99, sa_100, sa_101, decide_eq_false_iff_not, H.1, mr_now H, mt_now H, ml_now H, nI_clamp, nI_pos, nI_add, pk_mul, nI_ltI, nI_leI, not_false_eq_true, uc_ne, hg _, hnt.1] <;> omega
      have hw : LvS (uc (uc f 11 (uc (f 11) l (nI nt.length))) 10 S) l nt := ⟨(by rw [uc_ne (by decide), uc_eq, uc_eq]), hn10, fun i hi => (by rw [uc_eq]; exact a2 i hi)⟩
      obtain ⟨f', sv, e, b1, b2, b3, b4⟩ := q_laysSp H (f := uc (uc f 11 (uc (f 11) l (nI nt.length))) 10 S) (g := g) hg go.1 hgr.1 hl hw no.1
      refine k2 _ _ (hid fun N4 B4 C4 R4 kN4 kB4 kC4 kR4 => ?_)
      simp only [m_mth, s_sk, s_brk, s_cnt, s_sq, s_if, s_rtn, s_rtnU, s_E, s_I1, s_R1, s_J1, s_Inc, s_h2, s_h3, s_u2, s_u3, e_C, e_h1, e_h2, e_lI, e_lJ, e_lR, e_if, e_and, e_or, e_not, a_nil, a_I, a_J, a_R, e_kS, e_kV, e_kN, e_nA, ok_some, ok_none, ok_bind, ok_guard, ok_guardN, asI_int, asJ_long, asR_ref, asR_rf, asR_null, entL, ent, sto, sto2, ok1, Value.category, va_rf, List.length_cons, List.length_nil, List.length_append, List.length_replicate, List.nil_append, List.cons_append, List.append_nil, List.replicate_succ, List.replicate_zero, List.getElem?_cons_zero, List.getElem?_cons_succ, List.set_cons_zero, List.set_cons_succ, gI, gJ, gR, pI, pJ, pR, aI, aJ, aR, aL, stI, stB, stZ, stJ, uF, uA, Option.bind_some, iaddF, isubF, imulF, iandF, iorF, ixorF, ishlF, ishrF, iushrF, inegF, i2bF, i2lF, l2iF, c_eq, c_ne, c_lt, c_le, c_gt, c_ge, z_eq, z_ne, z_lt, z_le, z_gt, z_ge, j_eq, j_ne, j_gt, n_nul, n_non, tt, zz, hN_u, hU_u, hT_u, hL_u, hI_u, hJ_u, hR_u, sI_u, decide_eq_true_eq, true_and, and_true, if_true, reduceIte, beq_self_eq_true, Bool.true_or, Bool.and_self, Nat.reduceAdd, Nat.reduceSub, Nat.reduceLT, Nat.reduceLeDiff, Nat.reduceBEq, Nat.reduceEqDiff, Bool.or_true, Bool.false_or, List.mem_cons, List.mem_singleton, true_or, or_true, mh_N, mh_U, mh_T, mh_L, mh_R, mh_J, mh_0, mh_s0, mh_I, mh_s, sa_20, sa_21, sa_22, sa_23, sa_24, sa_25, sa_26, sa_27, sa_28, sa_29, sa_30, sa_31, sa_32, sa_33, sa_34, sa_35, sa_36, sa_37, sa_38, sa_39, sa_40, sa_41, sa_42, sa_43, sa_44, sa_45, sa_46, sa_47, sa_48, sa_49, sa_50, sa_51, sa_52, sa_70, sa_71, sa_72, sa_73, sa_74, sa_75, sa_76, sa_77, sa_78, sa_79, sa_80, sa_81, sa_82, sa_83, sa_84, sa_85, sa_86, sa_87, sa_88, sa_89, sa_90, sa_91, sa_92, sa_93, sa_94, sa_95, sa_96, sa_97, sa_98, sa_99, sa_100, sa_101, decide_eq_false_iff_not, H.1, wpm_eq e]
      refine kR4 _ _ ⟨rfl, f', sv, rfl, ⟨fun k q1 q2 q3 => ?_, fun k hk => ?_, fun k hk => ?_, fun k hk => ?_⟩, b3, b4⟩
      · rw [b1 k q3, uc_ne q1, uc_ne q2]
      · rw [b1 10 (by decide), uc_eq]; exact a1 k (by omega)
      · rw [b1 11 (by decide), uc_ne (by decide), uc_eq, uc_ne hk]
      · rw [b2 k hk]; rfl)
  exact ⟨f', sv, e, e1, e2, e3⟩
