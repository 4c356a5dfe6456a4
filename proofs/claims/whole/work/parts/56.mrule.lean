/-! ===== the reference: where a sign stands in a rule ===== -/
def chB (g : Nat → Nat) (r k : Nat) (c : Int32) (n : Nat) : Bool := (List.range n).any (fun j => rowB g (184 + 140 * r + 8 + 33 * k + 1 + 8 * j + 1) c)
def chsB (g : Nat → Nat) (r : Nat) (c : Int32) (n : Nat) : Bool := (List.range n).any (fun k => chB g r k c (g (184 + 140 * r + 8 + 33 * k)))
def ruleB (g : Nat → Nat) (r : Nat) (c : Int32) : Bool := rowB g (184 + 140 * r) c || chsB g r c (g (184 + 140 * r + 7))
theorem b_nf {b : Bool} (q : ¬ b = false) : b = true := by cases b with
  | true => rfl
  | false => exact absurd rfl q
theorem any_s {n : Nat} {p : Nat → Bool} : (List.range (n + 1)).any p = ((List.range n).any p || p n) := by
  rw [List.range_succ, List.any_append]; simp
theorem s_cut {ρ : Type} {S : ST ρ} {σ : List Value} {h : AH} {N B C : List Value → AH → Prop} {R : ρ → AH → Prop} (P : List Value → AH → Prop) (w : wps S σ h P (fun _ _ => False) (fun _ _ => False) (fun _ _ => False)) (k : ∀ σ2 h2, P σ2 h2 → N σ2 h2) : wps S σ h N B C R := by
  refine ok_mono w ?_
  rintro ⟨o, σ2, h2⟩ q
  match o, q with
  | .inl r, q => exact q.elim
  | .inr 0, q => exact k _ _ q
  | .inr 1, q => exact q.elim
  | .inr (_ + 2), q => exact q.elim
theorem q_ruleHas {h : AH} {M : Nat} (H : MOK h M) {F : Nat → Nat → Int32} {g : Nat → Nat} (hg : Rd (F (M + 1)) g 1684) (ho : GOK g) {r : Nat} (hr : r < g 1) (c : Int32) : d_M_ruleHas [.ref M, .int (nI r), .int c] (upI h F) = some (bI (ruleB g r c), upI h F) := by
  have hr10 : r < 10 := Nat.lt_of_lt_of_le hr ho.2.1
  have hr20 : r < 20 := Nat.lt_trans hr10 (by decide)
  obtain ⟨o1, o2, o3⟩ := ho.2.2.2 r hr
  refine wpm_to ?_
  unfold d_M_ruleHas
  simp (disch := omega) only [m_mth, s_sk, s_brk, s_cnt, s_sq, s_if, s_rtn, s_rtnU, s_E, s_I1, s_R1, s_J1, s_Inc, s_h2, s_h3, s_u2, s_u3, e_C, e_h1, e_h2, e_lI, e_lJ, e_lR, e_if, e_and, e_or, e_not, a_nil, a_I, a_J, a_R, e_kS, e_kV, e_kN, e_nA, ok_some, ok_none, ok_bind, ok_guard, ok_guardN, asI_int, asJ_long, asR_ref, asR_rf, asR_null, entL, ent, sto, sto2, ok1, Value.category, va_rf, List.length_cons, List.length_nil, List.length_append, List.length_replicate, List.nil_append, List.cons_append, List.append_nil, List.replicate_succ, List.replicate_zero, List.getElem?_cons_zero, List.getElem?_cons_succ, List.set_cons_zero, List.set_cons_succ, gI, gJ, gR, pI, pJ, pR, aI, aJ, aR, aL, stI, stB, stZ, stJ, uF, uA, Option.bind_some, iaddF, isubF, imulF, iandF, iorF, ixorF, ishlF, ishrF, iushrF, inegF, i2bF, i2lF, l2iF, c_eq, c_ne, c_lt, c_le, c_gt, c_ge, z_eq, z_ne, z_lt, z_le, z_gt, z_ge, j_eq, j_ne, j_gt, n_nul, n_non, tt, zz, hN_u, hU_u, hT_u, hL_u, hI_u, hJ_u, hR_u, sI_u, decide_eq_true_eq, true_and, and_true, if_true, reduceIte, beq_self_eq_true, Bool.true_or, Bool.and_self, Nat.reduceAdd, Nat.reduceSub, Nat.reduceLT, Nat.reduceLeDiff, Nat.reduceBEq, Nat.reduceEqDiff, Bool.or_true, Bool.false_or, List.mem_cons, List.mem_singleton, true_or, or_true, sa_20, sa_21, sa_22, sa_23, sa_24, sa_25, sa_26, sa_27, sa_28, sa_29, sa_30, sa_31, sa_32, sa_33, sa_34, sa_35, sa_36, sa_37, sa_38, sa_39, sa_40, sa_41, sa_42, sa_43, sa_44, sa_45, sa_46, sa_47, sa_48, sa_49, sa_50, sa_51, sa_52, sa_70, sa_71, sa_72, sa_73, sa_74, sa_75, sa_76, sa_77, sa_78, sa_79, sa_80, sa_81, sa_82, sa_83, sa_84, sa_85, sa_86, sa_87, sa_88, sa_89, sa_90, sa_91, sa_92, sa_93, sa_94, sa_95, sa_96, sa_97, sa_98, sa_99, sa_100, sa_101, H.1, mr_now H, mt_now H, ml_now H, wpm_eq (q_ruleAt hr20), wpm_eq (q_rowHas H hg (show 184 + 140 * r + g (184 + 140 * r) < 1684 by omega) c)]
  refine s_loop (fun n σ h' => ∃ k w, n = g (184 + 140 * r + 7) - k ∧ k ≤ g (184 + 140 * r + 7) ∧ σ = [.ref M, .int (nI r), .int c, .int (bI (rowB g (184 + 140 * r) c || chsB g r c k)), .int (nI k), w] ∧ h' = upI h F) (g (184 + 140 * r + 7)) (by omega) ⟨0, _, rfl, Nat.zero_le _, by simp [chsB]; rfl, rfl⟩ ?_
  rintro n σ h' ⟨k, w, rfl, hk, rfl, rfl⟩
  simp (disch := omega) only [m_mth, s_sk, s_brk, s_cnt, s_sq, s_if, s_rtn, s_rtnU, s_E, s_I1, s_R1, s_J1, s_Inc, s_h2, s_h3, s_u2, s_u3, e_C, e_h1, e_h2, e_lI, e_lJ, e_lR, e_if, e_and, e_or, e_not, a_nil, a_I, a_J, a_R, e_kS, e_kV, e_kN, e_nA, ok_some, ok_none, ok_bind, ok_guard, ok_guardN, asI_int, asJ_long, asR_ref, asR_rf, asR_null, entL, ent, sto, sto2, ok1, Value.category, va_rf, List.length_cons, List.length_nil, List.length_append, List.length_replicate, List.nil_append, List.cons_append, List.append_nil, List.replicate_succ, List.replicate_zero, List.getElem?_cons_zero, List.getElem?_cons_succ, List.set_cons_zero, List.set_cons_succ, gI, gJ, gR, pI, pJ, pR, aI, aJ, aR, aL, stI, stB, stZ, stJ, uF, uA, Option.bind_some, iaddF, isubF, imulF, iandF, iorF, ixorF, ishlF, ishrF, iushrF, inegF, i2bF, i2lF, l2iF, c_eq, c_ne, c_lt, c_le, c_gt, c_ge, z_eq, z_ne, z_lt, z_le, z_gt, z_ge, j_eq, j_ne, j_gt, n_nul, n_non, tt, zz, hN_u, hU_u, hT_u, hL_u, hI_u, hJ_u, hR_u, sI_u, decide_eq_true_eq, true_and, and_true, if_true, reduceIte, beq_self_eq_true, Bool.true_or, Bool.and_self, Nat.reduceAdd, Nat.reduceSub, Nat.reduceLT, Nat.reduceLeDiff, Nat.reduceBEq, Nat.reduceEqDiff, Bool.or_true, Bool.false_or, List.mem_cons, List.mem_singleton, true_or, or_true, sa_20, sa_21, sa_22, sa_23, sa_24, sa_25, sa_26, sa_27, sa_28, sa_29, sa_30, sa_31, sa_32, sa_33, sa_34, sa_35, sa_36, sa_37, sa_38, sa_39, sa_40, sa_41, sa_42, sa_43, sa_44, sa_45, sa_46, sa_47, sa_48, sa_49, sa_50, sa_51, sa_52, sa_70, sa_71, sa_72, sa_73, sa_74, sa_75, sa_76, sa_77, sa_78, sa_79, sa_80, sa_81, sa_82, sa_83, sa_84, sa_85, sa_86, sa_87, sa_88, sa_89, sa_90, sa_91, sa_92, sa_93, sa_94, sa_95, sa_96, sa_97, sa_98, sa_99, sa_100, sa_101, H.1, mr_now H, mt_now H, ml_now H, wpm_eq (q_choices H hg hr10), nI_clamp, nI_pos, nI_add, pk_mul, nI_ltI, nI_leI, hg _, not_false_eq_true]
  split
  · rename_i hlt
    obtain ⟨p1, p2⟩ := o3 k hlt
    have hk20 : k < 20 := by omega
    refine s_cut (fun σ2 h2 => σ2 = [.ref M, .int (nI r), .int c, .int (bI ((rowB g (184 + 140 * r) c || chsB g r c k) || chB g r k c (g (184 + 140 * r + 8 + 33 * k)))), .int (nI k), .int (nI (g (184 + 140 * r + 8 + 33 * k)))] ∧ h2 = upI h F) ?_ ?_
    rotate_left
    · rintro σ2 h2 ⟨rfl, rfl⟩
      simp (disch := omega) only [m_mth, s_sk, s_brk, s_cnt, s_sq, s_if, s_rtn, s_rtnU, s_E, s_I1, s_R1, s_J1, s_Inc, s_h2, s_h3, s_u2, s_u3, e_C, e_h1, e_h2, e_lI, e_lJ, e_lR, e_if, e_and, e_or, e_not, a_nil, a_I, a_J, a_R, e_kS, e_kV, e_kN, e_nA, ok_some, ok_none, ok_bind, ok_guard, ok_guardN, asI_int, asJ_long, asR_ref, asR_rf, asR_null, entL, ent, sto, sto2, ok1, Value.category, va_rf, List.length_cons, List.length_nil, List.length_append, List.length_replicate, List.nil_append, List.cons_append, List.append_nil, List.replicate_succ, List.replicate_zero, List.getElem?_cons_zero, List.getElem?_cons_succ, List.set_cons_zero, List.set_cons_succ, gI, gJ, gR, pI, pJ, pR, aI, aJ, aR, aL, stI, stB, stZ, stJ, uF, uA, Option.bind_some, iaddF, isubF, imulF, iandF, iorF, ixorF, ishlF, ishrF, iushrF, inegF, i2bF, i2lF, l2iF, c_eq, c_ne, c_lt, c_le, c_gt, c_ge, z_eq, z_ne, z_lt, z_le, z_gt, z_ge, j_eq, j_ne, j_gt, n_nul, n_non, tt, zz, hN_u, hU_u, hT_u, hL_u, hI_u, hJ_u, hR_u, sI_u, decide_eq_true_eq, true_and, and_true, if_true, reduceIte, beq_self_eq_true, Bool.true_or, Bool.and_self, Nat.reduceAdd, Nat.reduceSub, Nat.reduceLT, Nat.reduceLeDiff, Nat.reduceBEq, Nat.reduceEqDiff, Bool.or_true, Bool.false_or, List.mem_cons, List.mem_singleton, true_or, or_true, sa_20, sa_21, sa_22, sa_23, sa_24, sa_25, sa_26, sa_27, sa_28, sa_29, sa_30, sa_31, sa_32, sa_33, sa_34, sa_35, sa_36, sa_37, sa_38, sa_39, sa_40, sa_41, sa_42, sa_43, sa_44, sa_45, sa_46, sa_47, sa_48, sa_49, sa_50, sa_51, sa_52, sa_70, sa_71, sa_72, sa_73, sa_74, sa_75, sa_76, sa_77, sa_78, sa_79, sa_80, sa_81, sa_82, sa_83, sa_84, sa_85, sa_86, sa_87, sa_88, sa_89, sa_90, sa_91, sa_92, sa_93, sa_94, sa_95, sa_96, sa_97, sa_98, sa_99, sa_100, sa_101, nI_add]
      refine ⟨g (184 + 140 * r + 7) - (k + 1), by omega, k + 1, .int (nI (g (184 + 140 * r + 8 + 33 * k))), rfl, by omega, ?_⟩
      rw [show chsB g r c (k + 1) = (chsB g r c k || chB g r k c (g (184 + 140 * r + 8 + 33 * k))) from any_s, ← Bool.or_assoc]
    refine s_loop (fun n σ h' => ∃ j, n = g (184 + 140 * r + 8 + 33 * k) - j ∧ j ≤ g (184 + 140 * r + 8 + 33 * k) ∧ σ = [.ref M, .int (nI r), .int c, .int (bI ((rowB g (184 + 140 * r) c || chsB g r c k) || chB g r k c j)), .int (nI k), .int (nI j)] ∧ h' = upI h F) (g (184 + 140 * r + 8 + 33 * k)) (by omega) ⟨0, rfl, Nat.zero_le _, by simp [chB], rfl⟩ ?_
    rintro n σ h' ⟨j, rfl, hj, rfl, rfl⟩
    have e0 : ∀ Q : Bool → AH → Prop, wpe (eh2 c_lt (lI 5) (eh2 (aI .int) (eh1 (gR 13 0) (lR 0)) (kS d_M_choiceAt [vI (lI 1), vI (lI 4)]))) [.ref M, .int (nI r), .int c, .int (bI ((rowB g (184 + 140 * r) c || chsB g r c k) || chB g r k c j)), .int (nI k), .int (nI j)] (upI h F) Q ↔ Q (decide (j < g (184 + 140 * r + 8 + 33 * k))) (upI h F) := by
      intro Q
      simp (disch := omega) only [m_mth, s_sk, s_brk, s_cnt, s_sq, s_if, s_rtn, s_rtnU, s_E, s_I1, s_R1, s_J1, s_Inc, s_h2, s_h3, s_u2, s_u3, e_C, e_h1, e_h2, e_lI, e_lJ, e_lR, e_if, e_and, e_or, e_not, a_nil, a_I, a_J, a_R, e_kS, e_kV, e_kN, e_nA, ok_some, ok_none, ok_bind, ok_guard, ok_guardN, asI_int, asJ_long, asR_ref, asR_rf, asR_null, entL, ent, sto, sto2, ok1, Value.category, va_rf, List.length_cons, List.length_nil, List.length_append, List.length_replicate, List.nil_append, List.cons_append, List.append_nil, List.replicate_succ, List.replicate_zero, List.getElem?_cons_zero, List.getElem?_cons_succ, List.set_cons_zero, List.set_cons_succ, gI, gJ, gR, pI, pJ, pR, aI, aJ, aR, aL, stI, stB, stZ, stJ, uF, uA, Option.bind_some, iaddF, isubF, imulF, iandF, iorF, ixorF, ishlF, ishrF, iushrF, inegF, i2bF, i2lF, l2iF, c_eq, c_ne, c_lt, c_le, c_gt, c_ge, z_eq, z_ne, z_lt, z_le, z_gt, z_ge, j_eq, j_ne, j_gt, n_nul, n_non, tt, zz, hN_u, hU_u, hT_u, hL_u, hI_u, hJ_u, hR_u, sI_u, decide_eq_true_eq, true_and, and_true, if_true, reduceIte, beq_self_eq_true, Bool.true_or, Bool.and_self, Nat.reduceAdd, Nat.reduceSub, Nat.reduceLT, Nat.reduceLeDiff, Nat.reduceBEq, Nat.reduceEqDiff, Bool.or_true, Bool.false_or, List.mem_cons, List.mem_singleton, true_or, or_true, sa_20, sa_21, sa_22, sa_23, sa_24, sa_25, sa_26, sa_27, sa_28, sa_29, sa_30, sa_31, sa_32, sa_33, sa_34, sa_35, sa_36, sa_37, sa_38, sa_39, sa_40, sa_41, sa_42, sa_43, sa_44, sa_45, sa_46, sa_47, sa_48, sa_49, sa_50, sa_51, sa_52, sa_70, sa_71, sa_72, sa_73, sa_74, sa_75, sa_76, sa_77, sa_78, sa_79, sa_80, sa_81, sa_82, sa_83, sa_84, sa_85, sa_86, sa_87, sa_88, sa_89, sa_90, sa_91, sa_92, sa_93, sa_94, sa_95, sa_96, sa_97, sa_98, sa_99, sa_100, sa_101, H.1, mr_now H, mt_now H, ml_now H, wpm_eq (q_choiceAt hr20 hk20), nI_clamp, nI_pos, nI_add, pk_mul, nI_ltI, nI_leI, hg _, not_false_eq_true]
      simp (disch := omega) only [and_iff_right_iff_imp, nI_ltI]
      intro _
      omega
    rw [e0]
    simp only [decide_eq_true_eq]
    split
    · rename_i hjl
      have p3 := p2 j hjl
      have hj20 : j < 20 := by omega
      simp (disch := omega) only [m_mth, s_sk, s_brk, s_cnt, s_sq, s_if, s_rtn, s_rtnU, s_E, s_I1, s_R1, s_J1, s_Inc, s_h2, s_h3, s_u2, s_u3, e_C, e_h1, e_h2, e_lI, e_lJ, e_lR, e_if, e_and, e_or, e_not, a_nil, a_I, a_J, a_R, e_kS, e_kV, e_kN, e_nA, ok_some, ok_none, ok_bind, ok_guard, ok_guardN, asI_int, asJ_long, asR_ref, asR_rf, asR_null, entL, ent, sto, sto2, ok1, Value.category, va_rf, List.length_cons, List.length_nil, List.length_append, List.length_replicate, List.nil_append, List.cons_append, List.append_nil, List.replicate_succ, List.replicate_zero, List.getElem?_cons_zero, List.getElem?_cons_succ, List.set_cons_zero, List.set_cons_succ, gI, gJ, gR, pI, pJ, pR, aI, aJ, aR, aL, stI, stB, stZ, stJ, uF, uA, Option.bind_some, iaddF, isubF, imulF, iandF, iorF, ixorF, ishlF, ishrF, iushrF, inegF, i2bF, i2lF, l2iF, c_eq, c_ne, c_lt, c_le, c_gt, c_ge, z_eq, z_ne, z_lt, z_le, z_gt, z_ge, j_eq, j_ne, j_gt, n_nul, n_non, tt, zz, hN_u, hU_u, hT_u, hL_u, hI_u, hJ_u, hR_u, sI_u, decide_eq_true_eq, true_and, and_true, if_true, reduceIte, beq_self_eq_true, Bool.true_or, Bool.and_self, Nat.reduceAdd, Nat.reduceSub, Nat.reduceLT, Nat.reduceLeDiff, Nat.reduceBEq, Nat.reduceEqDiff, Bool.or_true, Bool.false_or, List.mem_cons, List.mem_singleton, true_or, or_true, sa_20, sa_21, sa_22, sa_23, sa_24, sa_25, sa_26, sa_27, sa_28, sa_29, sa_30, sa_31, sa_32, sa_33, sa_34, sa_35, sa_36, sa_37, sa_38, sa_39, sa_40, sa_41, sa_42, sa_43, sa_44, sa_45, sa_46, sa_47, sa_48, sa_49, sa_50, sa_51, sa_52, sa_70, sa_71, sa_72, sa_73, sa_74, sa_75, sa_76, sa_77, sa_78, sa_79, sa_80, sa_81, sa_82, sa_83, sa_84, sa_85, sa_86, sa_87, sa_88, sa_89, sa_90, sa_91, sa_92, sa_93, sa_94, sa_95, sa_96, sa_97, sa_98, sa_99, sa_100, sa_101, H.1, mr_now H, mt_now H, ml_now H, wpm_eq (q_memberAt hr20 hk20 hj20), nI_clamp, nI_pos, nI_add, wpm_eq (q_rowHas H hg (show 184 + 140 * r + 8 + 33 * k + 1 + 8 * j + 1 + g (184 + 140 * r + 8 + 33 * k + 1 + 8 * j + 1) < 1684 by omega) c), bI_0]
      have es : chB g r k c (j + 1) = (chB g r k c j || rowB g (184 + 140 * r + 8 + 33 * k + 1 + 8 * j + 1) c) := any_s
      split
      · rename_i q
        refine ⟨g (184 + 140 * r + 8 + 33 * k) - (j + 1), by omega, j + 1, rfl, by omega, ?_⟩
        rw [es, ← Bool.or_assoc, show (rowB g (184 + 140 * r) c || chsB g r c k || chB g r k c j) = true from b_nf q]
        rfl
      · rename_i q
        have q' : (rowB g (184 + 140 * r) c || chsB g r c k || chB g r k c j) = false := Decidable.not_not.mp q
        split
        · rename_i z
          refine ⟨g (184 + 140 * r + 8 + 33 * k) - (j + 1), by omega, j + 1, rfl, by omega, ?_⟩
          rw [es, ← Bool.or_assoc, q', show rowB g (184 + 140 * r + 8 + 33 * k + 1 + 8 * j + 1) c = true from b_nf z]
          rfl
        · rename_i z
          refine ⟨g (184 + 140 * r + 8 + 33 * k) - (j + 1), by omega, j + 1, rfl, by omega, ?_⟩
          rw [es, ← Bool.or_assoc, q', Decidable.not_not.mp z]
          rfl
    · rename_i hge
      rw [show j = g (184 + 140 * r + 8 + 33 * k) by omega]
      exact ⟨rfl, trivial⟩
  · rename_i hge
    rw [show k = g (184 + 140 * r + 7) by omega]
    exact ⟨bI_z _, rfl⟩
