/-! ===== the reference: rows of numbers, names ===== -/
/-- a row of ints holds numbers -/
def Rd (f : Nat → Int32) (g : Nat → Nat) (n : Nat) : Prop := ∀ i, i < n → f i = nI (g i)
def oI : Option Nat → Int32
  | none => -1
  | some m => nI m
def mIx (g : Nat → Nat) (c : Int32) : Option Nat := (List.range (g 0)).find? (fun m => decide (nI (g (4 + 30 * m)) = c))
theorem fnd_some {n m : Nat} {p : Nat → Bool} (hm : m < n) (hp : p m = true) (hj : ∀ j, j < m → p j = false) : (List.range n).find? p = some m := by
  rw [List.find?_eq_some_iff_append]
  refine ⟨hp, List.range m, (List.range (n - m - 1)).map (fun x => m + 1 + x), ?_, fun j hj' => by simp [hj j (List.mem_range.mp hj')]⟩
  have e : n = m + (1 + (n - m - 1)) := by omega
  conv => lhs; rw [e]
  rw [List.range_add, List.range_add]
  simp [Nat.add_assoc]
theorem fnd_none {n : Nat} {p : Nat → Bool} (hj : ∀ j, j < n → p j = false) : (List.range n).find? p = none := by
  rw [List.find?_eq_none]
  intro j hj'
  simp [hj j (List.mem_range.mp hj')]
theorem q_metaOf {h : AH} {M : Nat} (H : MOK h M) {F : Nat → Nat → Int32} {g : Nat → Nat} (hg : Rd (F (M + 1)) g 1684) (h6 : g 0 ≤ 6) (c : Int32) : d_M_metaOf [.ref M, .int c] (upI h F) = some (oI (mIx g c), upI h F) := by
  obtain ⟨r, h', e, p⟩ := wpm_intro (d := d_M_metaOf) (av := [.ref M, .int c]) (h := upI h F) (P := fun r h' => r = oI (mIx g c) ∧ h' = upI h F) (by
    unfold d_M_metaOf
    simp only [m_mth, s_sk, s_brk, s_cnt, s_sq, s_if, s_rtn, s_rtnU, s_E, s_I1, s_R1, s_J1, s_Inc, s_h2, s_h3, s_u2, s_u3, e_C, e_h1, e_h2, e_lI, e_lJ, e_lR, e_if, e_and, e_or, e_not, a_nil, a_I, a_J, a_R, e_kS, e_kV, e_kN, e_nA, ok_some, ok_none, ok_bind, ok_guard, ok_guardN, asI_int, asJ_long, asR_ref, asR_rf, asR_null, entL, ent, sto, sto2, ok1, Value.category, va_rf, List.length_cons, List.length_nil, List.length_append, List.length_replicate, List.nil_append, List.cons_append, List.append_nil, List.replicate_succ, List.replicate_zero, List.getElem?_cons_zero, List.getElem?_cons_succ, List.set_cons_zero, List.set_cons_succ, gI, gJ, gR, pI, pJ, pR, aI, aJ, aR, aL, stI, stB, stZ, stJ, uF, uA, Option.bind_some, iaddF, isubF, imulF, iandF, iorF, ixorF, ishlF, ishrF, iushrF, inegF, i2bF, i2lF, l2iF, c_eq, c_ne, c_lt, c_le, c_gt, c_ge, z_eq, z_ne, z_lt, z_le, z_gt, z_ge, j_eq, j_ne, j_gt, n_nul, n_non, tt, zz, hN_u, hU_u, hT_u, hL_u, hI_u, hJ_u, hR_u, sI_u, decide_eq_true_eq, true_and, and_true, if_true, reduceIte, beq_self_eq_true, Bool.true_or, Bool.and_self, Nat.reduceAdd, Nat.reduceSub, Nat.reduceLT, Nat.reduceLeDiff, Nat.reduceBEq, Nat.reduceEqDiff, Bool.or_true, Bool.false_or, List.mem_cons, List.mem_singleton, true_or, or_true, sa_20, sa_21, sa_22, sa_23, sa_24, sa_25, sa_26, sa_27, sa_28, sa_29, sa_30, sa_31, sa_32, sa_33, sa_34, sa_35, sa_36, sa_37, sa_38, sa_39, sa_40, sa_41, sa_42, sa_43, sa_44, sa_45, sa_46, sa_47, sa_48, sa_49, sa_50, sa_51, sa_52, sa_70, sa_71, sa_72, sa_73, sa_74, sa_75, sa_76, sa_77, sa_78, sa_79, sa_80, sa_81, sa_82, sa_83, sa_84, sa_85, sa_86, sa_87, sa_88, sa_89, sa_90, sa_91, sa_92, sa_93, sa_94, sa_95, sa_96, sa_97, sa_98, sa_99, sa_100, sa_101]
    refine s_loop (fun n σ h' => ∃ m, n = g 0 - m ∧ m ≤ g 0 ∧ σ = [.ref M, .int c, .int (nI m)] ∧ h' = upI h F ∧ ∀ j, j < m → ¬ nI (g (4 + 30 * j)) = c) (g 0) (by omega) ⟨0, rfl, Nat.zero_le _, rfl, rfl, fun j hj => absurd hj (Nat.not_lt_zero j)⟩ ?_
    rintro n σ h' ⟨m, rfl, hm, rfl, rfl, hj⟩
    simp (disch := omega) only [m_mth, s_sk, s_brk, s_cnt, s_sq, s_if, s_rtn, s_rtnU, s_E, s_I1, s_R1, s_J1, s_Inc, s_h2, s_h3, s_u2, s_u3, e_C, e_h1, e_h2, e_lI, e_lJ, e_lR, e_if, e_and, e_or, e_not, a_nil, a_I, a_J, a_R, e_kS, e_kV, e_kN, e_nA, ok_some, ok_none, ok_bind, ok_guard, ok_guardN, asI_int, asJ_long, asR_ref, asR_rf, asR_null, entL, ent, sto, sto2, ok1, Value.category, va_rf, List.length_cons, List.length_nil, List.length_append, List.length_replicate, List.nil_append, List.cons_append, List.append_nil, List.replicate_succ, List.replicate_zero, List.getElem?_cons_zero, List.getElem?_cons_succ, List.set_cons_zero, List.set_cons_succ, gI, gJ, gR, pI, pJ, pR, aI, aJ, aR, aL, stI, stB, stZ, stJ, uF, uA, Option.bind_some, iaddF, isubF, imulF, iandF, iorF, ixorF, ishlF, ishrF, iushrF, inegF, i2bF, i2lF, l2iF, c_eq, c_ne, c_lt, c_le, c_gt, c_ge, z_eq, z_ne, z_lt, z_le, z_gt, z_ge, j_eq, j_ne, j_gt, n_nul, n_non, tt, zz, hN_u, hU_u, hT_u, hL_u, hI_u, hJ_u, hR_u, sI_u, decide_eq_true_eq, true_and, and_true, if_true, reduceIte, beq_self_eq_true, Bool.true_or, Bool.and_self, Nat.reduceAdd, Nat.reduceSub, Nat.reduceLT, Nat.reduceLeDiff, Nat.reduceBEq, Nat.reduceEqDiff, Bool.or_true, Bool.false_or, List.mem_cons, List.mem_singleton, true_or, or_true, sa_20, sa_21, sa_22, sa_23, sa_24, sa_25, sa_26, sa_27, sa_28, sa_29, sa_30, sa_31, sa_32, sa_33, sa_34, sa_35, sa_36, sa_37, sa_38, sa_39, sa_40, sa_41, sa_42, sa_43, sa_44, sa_45, sa_46, sa_47, sa_48, sa_49, sa_50, sa_51, sa_52, sa_70, sa_71, sa_72, sa_73, sa_74, sa_75, sa_76, sa_77, sa_78, sa_79, sa_80, sa_81, sa_82, sa_83, sa_84, sa_85, sa_86, sa_87, sa_88, sa_89, sa_90, sa_91, sa_92, sa_93, sa_94, sa_95, sa_96, sa_97, sa_98, sa_99, sa_100, sa_101, H.1, mr_now H, mt_now H, ml_now H, nI_clamp, nI_pos, nI_add, pk_mul, nI_ltI, hg _, not_false_eq_true]
    split
    · rename_i hlt
      refine ⟨by omega, ?_⟩
      split
      · rename_i hc
        rw [show mIx g c = some m from fnd_some hlt (by simpa using hc) (fun j hjm => by simpa using hj j hjm)]
        rfl
      · rename_i hc
        exact ⟨g 0 - (m + 1), by omega, m + 1, rfl, by omega, rfl, fun j hjm => by
          rcases Nat.lt_or_ge j m with q | q
          · exact hj j q
          · rw [show j = m by omega]; exact hc⟩
    · rename_i hge
      rw [show mIx g c = none from fnd_none (fun j hjm => by simpa using hj j (by omega))]
      rfl)
  rw [e, p.1, p.2]
