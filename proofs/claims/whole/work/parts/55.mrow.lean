/-! ===== the reference: rows ===== -/
def bI (b : Bool) : Int32 := if b then nI 1 else nI 0
def rowB (g : Nat → Nat) (a : Nat) (c : Int32) : Bool := (List.range (g a)).any (fun i => decide (nI (g (a + 1 + i)) = c))
theorem any_t {n m : Nat} {p : Nat → Bool} (hm : m < n) (hp : p m = true) : (List.range n).any p = true := List.any_eq_true.mpr ⟨m, List.mem_range.mpr hm, hp⟩
theorem any_f {n : Nat} {p : Nat → Bool} (hj : ∀ j, j < n → p j = false) : (List.range n).any p = false := by
  rw [List.any_eq_false]
  intro j hj'
  simp [hj j (List.mem_range.mp hj')]
theorem q_rowHas {h : AH} {M : Nat} (H : MOK h M) {F : Nat → Nat → Int32} {g : Nat → Nat} (hg : Rd (F (M + 1)) g 1684) {a : Nat} (ha : a + g a < 1684) (c : Int32) : d_M_rowHas [.ref M, .int (nI a), .int c] (upI h F) = some (bI (rowB g a c), upI h F) := by
  refine wpm_to ?_
  unfold d_M_rowHas
  simp only [m_mth, s_sk, s_brk, s_cnt, s_sq, s_if, s_rtn, s_rtnU, s_E, s_I1, s_R1, s_J1, s_Inc, s_h2, s_h3, s_u2, s_u3, e_C, e_h1, e_h2, e_lI, e_lJ, e_lR, e_if, e_and, e_or, e_not, a_nil, a_I, a_J, a_R, e_kS, e_kV, e_kN, e_nA, ok_some, ok_none, ok_bind, ok_guard, ok_guardN, asI_int, asJ_long, asR_ref, asR_rf, asR_null, entL, ent, sto, sto2, ok1, Value.category, va_rf, List.length_cons, List.length_nil, List.length_append, List.length_replicate, List.nil_append, List.cons_append, List.append_nil, List.replicate_succ, List.replicate_zero, List.getElem?_cons_zero, List.getElem?_cons_succ, List.set_cons_zero, List.set_cons_succ, gI, gJ, gR, pI, pJ, pR, aI, aJ, aR, aL, stI, stB, stZ, stJ, uF, uA, Option.bind_some, iaddF, isubF, imulF, iandF, iorF, ixorF, ishlF, ishrF, iushrF, inegF, i2bF, i2lF, l2iF, c_eq, c_ne, c_lt, c_le, c_gt, c_ge, z_eq, z_ne, z_lt, z_le, z_gt, z_ge, j_eq, j_ne, j_gt, n_nul, n_non, tt, zz, hN_u, hU_u, hT_u, hL_u, hI_u, hJ_u, hR_u, sI_u, decide_eq_true_eq, true_and, and_true, if_true, reduceIte, beq_self_eq_true, Bool.true_or, Bool.and_self, Nat.reduceAdd, Nat.reduceSub, Nat.reduceLT, Nat.reduceLeDiff, Nat.reduceBEq, Nat.reduceEqDiff, Bool.or_true, Bool.false_or, List.mem_cons, List.mem_singleton, true_or, or_true, sa_20, sa_21, sa_22, sa_23, sa_24, sa_25, sa_26, sa_27, sa_28, sa_29, sa_30, sa_31, sa_32, sa_33, sa_34, sa_35, sa_36, sa_37, sa_38, sa_39, sa_40, sa_41, sa_42, sa_43, sa_44, sa_45, sa_46, sa_47, sa_48, sa_49, sa_50, sa_51, sa_52, sa_70, sa_71, sa_72, sa_73, sa_74, sa_75, sa_76, sa_77, sa_78, sa_79, sa_80, sa_81, sa_82, sa_83, sa_84, sa_85, sa_86, sa_87, sa_88, sa_89, sa_90, sa_91, sa_92, sa_93, sa_94, sa_95, sa_96, sa_97, sa_98, sa_99, sa_100, sa_101]
  refine s_loop (fun n σ h' => ∃ m, n = g a - m ∧ m ≤ g a ∧ σ = [.ref M, .int (nI a), .int c, .int (nI (m + 1))] ∧ h' = upI h F ∧ ∀ j, j < m → ¬ nI (g (a + 1 + j)) = c) (g a) (by omega) ⟨0, rfl, Nat.zero_le _, rfl, rfl, fun j hj => absurd hj (Nat.not_lt_zero j)⟩ ?_
  rintro n σ h' ⟨m, rfl, hm, rfl, rfl, hj⟩
  simp (disch := omega) only [m_mth, s_sk, s_brk, s_cnt, s_sq, s_if, s_rtn, s_rtnU, s_E, s_I1, s_R1, s_J1, s_Inc, s_h2, s_h3, s_u2, s_u3, e_C, e_h1, e_h2, e_lI, e_lJ, e_lR, e_if, e_and, e_or, e_not, a_nil, a_I, a_J, a_R, e_kS, e_kV, e_kN, e_nA, ok_some, ok_none, ok_bind, ok_guard, ok_guardN, asI_int, asJ_long, asR_ref, asR_rf, asR_null, entL, ent, sto, sto2, ok1, Value.category, va_rf, List.length_cons, List.length_nil, List.length_append, List.length_replicate, List.nil_append, List.cons_append, List.append_nil, List.replicate_succ, List.replicate_zero, List.getElem?_cons_zero, List.getElem?_cons_succ, List.set_cons_zero, List.set_cons_succ, gI, gJ, gR, pI, pJ, pR, aI, aJ, aR, aL, stI, stB, stZ, stJ, uF, uA, Option.bind_some, iaddF, isubF, imulF, iandF, iorF, ixorF, ishlF, ishrF, iushrF, inegF, i2bF, i2lF, l2iF, c_eq, c_ne, c_lt, c_le, c_gt, c_ge, z_eq, z_ne, z_lt, z_le, z_gt, z_ge, j_eq, j_ne, j_gt, n_nul, n_non, tt, zz, hN_u, hU_u, hT_u, hL_u, hI_u, hJ_u, hR_u, sI_u, decide_eq_true_eq, true_and, and_true, if_true, reduceIte, beq_self_eq_true, Bool.true_or, Bool.and_self, Nat.reduceAdd, Nat.reduceSub, Nat.reduceLT, Nat.reduceLeDiff, Nat.reduceBEq, Nat.reduceEqDiff, Bool.or_true, Bool.false_or, List.mem_cons, List.mem_singleton, true_or, or_true, sa_20, sa_21, sa_22, sa_23, sa_24, sa_25, sa_26, sa_27, sa_28, sa_29, sa_30, sa_31, sa_32, sa_33, sa_34, sa_35, sa_36, sa_37, sa_38, sa_39, sa_40, sa_41, sa_42, sa_43, sa_44, sa_45, sa_46, sa_47, sa_48, sa_49, sa_50, sa_51, sa_52, sa_70, sa_71, sa_72, sa_73, sa_74, sa_75, sa_76, sa_77, sa_78, sa_79, sa_80, sa_81, sa_82, sa_83, sa_84, sa_85, sa_86, sa_87, sa_88, sa_89, sa_90, sa_91, sa_92, sa_93, sa_94, sa_95, sa_96, sa_97, sa_98, sa_99, sa_100, sa_101, H.1, mr_now H, mt_now H, ml_now H, nI_clamp, nI_pos, nI_add, pk_mul, nI_ltI, nI_leI, hg _, not_false_eq_true]
  refine ⟨by omega, ?_⟩
  split
  · rename_i hlt
    refine ⟨by omega, ?_⟩
    split
    · rename_i hc
      rw [show rowB g a c = true from any_t (m := m) (by omega) (by rw [show a + 1 + m = a + (m + 1) by omega]; simpa using hc)]
      exact ⟨Or.inr rfl, rfl⟩
    · rename_i hc
      exact ⟨g a - (m + 1), by omega, m + 1, rfl, by omega, rfl, fun j hjm => by
        rcases Nat.lt_or_ge j m with q | q
        · exact hj j q
        · rw [show a + 1 + j = a + (m + 1) by omega]; exact hc⟩
  · rename_i hge
    rw [show rowB g a c = false from any_f (fun j hjm => by simpa using hj j (by omega))]
    exact ⟨Or.inl rfl, rfl⟩
theorem bI_0 (b : Bool) : bI b = 0 ↔ b = false := by cases b <;> decide
theorem bI_1 (b : Bool) : bI b = 1 ↔ b = true := by cases b <;> decide
theorem bI_z (b : Bool) : bI b = 0 ∨ bI b = 1 := by cases b <;> decide
theorem bI_if (p : Prop) [Decidable p] : (if p then nI 1 else nI 0) = bI (decide p) := by by_cases q : p <;> simp [q, bI]
/-- a state told to the reference keeps within its rows -/
def GOK (g : Nat → Nat) : Prop := g 0 ≤ 6 ∧ g 1 ≤ 10 ∧ (∀ m, m < g 0 → g (4 + 30 * m + 1) ≤ 4 ∧ ∀ k, k < g (4 + 30 * m + 1) → g (4 + 30 * m + 2 + 7 * k) ≤ 6) ∧ (∀ r, r < g 1 → g (184 + 140 * r) ≤ 6 ∧ g (184 + 140 * r + 7) ≤ 4 ∧ ∀ k, k < g (184 + 140 * r + 7) → g (184 + 140 * r + 8 + 33 * k) ≤ 4 ∧ ∀ j, j < g (184 + 140 * r + 8 + 33 * k) → g (184 + 140 * r + 8 + 33 * k + 1 + 8 * j + 1) ≤ 6)
