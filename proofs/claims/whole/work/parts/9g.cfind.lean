/-! ===== the class: Upper, what is told; the words that METANOTIONS have ===== -/
def UpS (h : AH) (U : Nat) (nm : List Nat) (A : Alts) : Prop := UpO h U ∧ hI h U 6 = nI nm.length ∧ (∀ c, 65 ≤ c → c ≤ 90 → hI h (U + 1) (c - 65) = nI (if c ∈ nm then nm.idxOf c + 1 else 0)) ∧ (∀ i, i < nm.length → hI h (U + 2) i = nI (nm.getD i 0)) ∧ ∀ i, i < 6 → hI h (U + 4) i = nI (A (nm.getD i 0)).length ∧ ∀ k, k < (A (nm.getD i 0)).length → ∃ a, hR h (U + 3) (i * 4 + k) = some a ∧ hT h a = 34 ∧ SgA h a nm ((A (nm.getD i 0)).getD k [])
/-- all that is told is fit -/
def AltOK (nm : List Nat) (A : Alts) : Prop := (∀ c, (A c).length ≤ 4 ∧ (A c ≠ [] → c ∈ nm) ∧ ∀ row ∈ A c, row.length ≤ 6 ∧ ∀ x ∈ row, SG x ∧ (cap x = true → x ∈ nm)) ∧ nm.Nodup ∧ (∀ c ∈ nm, 65 ≤ c ∧ c ≤ 90)
theorem UpO_x {A : Nat → Prop} {n u : Nat} {h h' : AH} {U : Nat} (q : UpO h U) (z : Fx A n u h h') (hN' : U + 4 < hN h) (h0 : hR h' U 0 = hR h U 0 ∧ hR h' U 1 = hR h U 1 ∧ hR h' U 2 = hR h U 2 ∧ hR h' U 3 = hR h U 3) : UpO h' U := by
  have t : ∀ k, k ≤ 4 → hT h' (U + k) = hT h (U + k) ∧ hL h' (U + k) = hL h (U + k) := fun k hk => ⟨(z.2.2 _ (by omega)).1, (z.2.2 _ (by omega)).2.1⟩
  obtain ⟨q0, ⟨a1, a2, a3⟩, ⟨b1, b2, b3⟩, ⟨c1, c2, c3⟩, ⟨d1, d2, d3⟩⟩ := q
  refine ⟨(t 0 (by decide)).1.trans q0, ⟨h0.1.trans a1, (t 1 (by decide)).1.trans a2, (t 1 (by decide)).2.trans a3⟩, ⟨h0.2.1.trans b1, (t 2 (by decide)).1.trans b2, (t 2 (by decide)).2.trans b3⟩, ⟨h0.2.2.1.trans c1, (t 3 (by decide)).1.trans c2, (t 3 (by decide)).2.trans c3⟩, ⟨h0.2.2.2.trans d1, (t 4 (by decide)).1.trans d2, (t 4 (by decide)).2.trans d3⟩⟩
/-- U's own words may have changed -/
theorem UpS_x {A : Nat → Prop} {n u : Nat} {h h' : AH} {U : Nat} {nm : List Nat} {AL : Alts} (q : UpS h U nm AL) (w : WF h) (z : Fx A n u h h') (hr : ∀ k, k ≠ 4 → hR h' U k = hR h U k) (hi : hI h' U 6 = hI h U 6) (hA : ∀ a, A a → a = U ∨ (hT h a ≠ 29 ∧ hT h a ≠ 30 ∧ hT h a ≠ 31 ∧ hT h a ≠ 32 ∧ hT h a ≠ 34)) : UpS h' U nm AL := by
  obtain ⟨q0, q1, q2, q3, q4⟩ := q
  have u4 : U + 4 < hN h := w _ (by rw [Upt_many q0]; decide)
  have nA : ∀ a, hT h a = 29 ∨ hT h a = 30 ∨ hT h a = 31 ∨ hT h a = 32 ∨ hT h a = 34 → ¬ A a := fun a ha z => by
    rcases hA a z with e | e
    · rw [e, q0.1] at ha; omega
    · omega
  have sm : ∀ a, hT h a = 29 ∨ hT h a = 30 ∨ hT h a = 31 ∨ hT h a = 32 ∨ hT h a = 34 → a < hN h ∧ hT h' a = hT h a ∧ hL h' a = hL h a ∧ Sm h h' a := fun a ha => by
    have l : a < hN h := w a (by omega)
    exact ⟨l, (z.2.2 a l).1, (z.2.2 a l).2.1, (z.2.2 a l).2.2 (nA a ha)⟩
  have s1 := sm (U + 1) (by rw [Upt_slots q0]; decide)
  have s2 := sm (U + 2) (by rw [Upt_names q0]; decide)
  have s3 := sm (U + 3) (by rw [Upt_rows q0]; decide)
  have s4 := sm (U + 4) (by rw [Upt_many q0]; decide)
  refine ⟨UpO_x q0 z u4 ⟨hr 0 (by decide), hr 1 (by decide), hr 2 (by decide), hr 3 (by decide)⟩, hi.trans q1, fun c c1 c2 => by rw [s1.2.2.2.1]; exact q2 c c1 c2, fun i hi => by rw [s2.2.2.2.1]; exact q3 i hi, fun i hi => ⟨by rw [s4.2.2.2.1]; exact (q4 i hi).1, fun k hk => ?_⟩⟩
  obtain ⟨a, a1, a2, a3, a4, a5⟩ := (q4 i hi).2 k hk
  obtain ⟨_, t1, t2, t3⟩ := sm a (by rw [a2]; decide)
  exact ⟨a, by rw [s3.2.2.2.2.2]; exact a1, t1.trans a2, by rw [t1]; exact a3, t2.trans a4, fun i hi => by rw [t3.1]; exact a5 i hi⟩
theorem FsAt_x {A : Nat → Prop} {n u : Nat} {h h' : AH} {F : Nat} {X : List (List Nat)} (q : FsAt h F X) (z : Fx A n u h h') (hF : F + 1 < hN h) (h0 : ¬ A F) (h1 : ¬ A (F + 1)) : FsAt h' F X := by
  obtain ⟨c1, c2, c3⟩ := z.2.2 F (by omega)
  obtain ⟨d1, d2, d3⟩ := z.2.2 (F + 1) hF
  exact ⟨⟨c1.trans q.1.1, by rw [(c3 h0).2.2]; exact Fsr_rows q.1, d1.trans (Fst_rows q.1), d2.trans (Fsl_rows q.1)⟩, by rw [(c3 h0).1]; exact q.2.1, fun i hi => by rw [(d3 h1).1]; exact q.2.2 i hi⟩
/-- a new Firsts -/
def nwFs (h : AH) : AH := sR (nw (nw h 2 0 2) 36 20 20) (hN h) 0 (some (hN h + 1))
theorem nwFs_at {h : AH} : FsAt (nwFs h) (hN h) [] ∧ hN (nwFs h) = hN h + 2 ∧ Fx (fun _ => False) 2 22 h (nwFs h) := by
  unfold nwFs
  refine ⟨⟨⟨?_, ?_, ?_, ?_⟩, ?_, fun i hi => (by cases hi)⟩, ?_, ⟨?_, ?_⟩, ⟨?_, ?_⟩, fun a ha => ⟨?_, ?_, fun _ => ⟨?_, ?_, ?_⟩⟩⟩
  all_goals simp (disch := omega) only [hN_sI, hU_sI, hT_sI, hL_sI, hI_sI, hJ_sI, hR_sI, hN_sJ, hU_sJ, hT_sJ, hL_sJ, hI_sJ, hJ_sJ, hR_sJ, hN_sR, hU_sR, hT_sR, hL_sR, hI_sR, hJ_sR, hR_sR, hN_nw, hU_nw, hT_nw, hL_nw, hI_nw, hJ_nw, hR_nw, vu_s, vu_n, u2_s, u2_o]
  all_goals first | rfl | omega
theorem e_nwFs {σ : List Value} {h : AH} {Q : Option Nat → AH → Prop} (k : Q (some (hN h)) (nwFs h)) : wpe (kN 2 2 d_Firsts_init []) σ h Q := by
  simp only [m_mth, s_sk, s_brk, s_cnt, s_sq, s_if, s_rtn, s_rtnU, s_E, s_I1, s_R1, s_J1, s_Inc, s_h2, s_h3, s_u2, s_u3, e_C, e_h1, e_h2, e_lI, e_lJ, e_lR, e_if, e_and, e_or, e_not, a_nil, a_I, a_J, a_R, e_kS, e_kV, e_kN, e_nA, ok_some, ok_none, ok_bind, ok_guard, ok_guardN, asI_int, asJ_long, asR_ref, asR_rf, asR_null, entL, ent, sto, sto2, ok1, Value.category, va_rf, List.length_cons, List.length_nil, List.length_append, List.length_replicate, List.nil_append, List.cons_append, List.append_nil, List.replicate_succ, List.replicate_zero, List.getElem?_cons_zero, List.getElem?_cons_succ, List.set_cons_zero, List.set_cons_succ, gI, gJ, gR, pI, pJ, pR, aI, aJ, aR, aL, stI, stB, stZ, stJ, uF, uA, Option.bind_some, iaddF, isubF, imulF, iandF, iorF, ixorF, ishlF, ishrF, iushrF, inegF, i2bF, i2lF, l2iF, c_eq, c_ne, c_lt, c_le, c_gt, c_ge, z_eq, z_ne, z_lt, z_le, z_gt, z_ge, j_eq, j_ne, j_gt, n_nul, n_non, tt, zz, hN_u, hU_u, hT_u, hL_u, hI_u, hJ_u, hR_u, sI_u, decide_eq_true_eq, true_and, and_true, if_true, reduceIte, beq_self_eq_true, Bool.true_or, Bool.and_self, Nat.reduceAdd, Nat.reduceSub, Nat.reduceLT, Nat.reduceLeDiff, Nat.reduceBEq, Nat.reduceEqDiff, Bool.or_true, Bool.false_or, List.mem_cons, List.mem_singleton, true_or, or_true, mh_N, mh_U, mh_T, mh_L, mh_R, mh_J, mh_0, mh_s0, mh_I, mh_s, sa_20, sa_21, sa_22, sa_23, sa_24, sa_25, sa_26, sa_27, sa_28, sa_29, sa_30, sa_31, sa_32, sa_33, sa_34, sa_35, sa_36, sa_37, sa_38, sa_39, sa_40, sa_41, sa_42, sa_43, sa_44, sa_45, sa_46, sa_47, sa_48, sa_49, sa_50, sa_51, sa_52, sa_70, sa_71, sa_72, sa_73, sa_74, sa_75, sa_76, sa_77, sa_78, sa_79, sa_80, sa_81, sa_82, sa_83, sa_84, sa_85, sa_86, sa_87, sa_88, sa_89, sa_90, sa_91, sa_92, sa_93, sa_94, sa_95, sa_96, sa_97, sa_98, sa_99, sa_100, sa_101, decide_eq_false_iff_not, s_obj, e_cl, s_ar, e_st, stO, stA, lshrF, lshlF, lorF, landF, lsubF, a_eq, a_ne, ov_N, ov_U, ov_T, ov_L, ov_I, ov_I0, ov_J, ov_J0, ov_R, ov_R0, ov_sI, ov_sI0, ov_sJ, ov_sJ0, ov_sR, ov_sR0, sa_53, sa_54]
  unfold d_Firsts_init
  simp (disch := omega) only [m_mth, s_sk, s_brk, s_cnt, s_sq, s_if, s_rtn, s_rtnU, s_E, s_I1, s_R1, s_J1, s_Inc, s_h2, s_h3, s_u2, s_u3, e_C, e_h1, e_h2, e_lI, e_lJ, e_lR, e_if, e_and, e_or, e_not, a_nil, a_I, a_J, a_R, e_kS, e_kV, e_kN, e_nA, ok_some, ok_none, ok_bind, ok_guard, ok_guardN, asI_int, asJ_long, asR_ref, asR_rf, asR_null, entL, ent, sto, sto2, ok1, Value.category, va_rf, List.length_cons, List.length_nil, List.length_append, List.length_replicate, List.nil_append, List.cons_append, List.append_nil, List.replicate_succ, List.replicate_zero, List.getElem?_cons_zero, List.getElem?_cons_succ, List.set_cons_zero, List.set_cons_succ, gI, gJ, gR, pI, pJ, pR, aI, aJ, aR, aL, stI, stB, stZ, stJ, uF, uA, Option.bind_some, iaddF, isubF, imulF, iandF, iorF, ixorF, ishlF, ishrF, iushrF, inegF, i2bF, i2lF, l2iF, c_eq, c_ne, c_lt, c_le, c_gt, c_ge, z_eq, z_ne, z_lt, z_le, z_gt, z_ge, j_eq, j_ne, j_gt, n_nul, n_non, tt, zz, hN_u, hU_u, hT_u, hL_u, hI_u, hJ_u, hR_u, sI_u, decide_eq_true_eq, true_and, and_true, if_true, reduceIte, beq_self_eq_true, Bool.true_or, Bool.and_self, Nat.reduceAdd, Nat.reduceSub, Nat.reduceLT, Nat.reduceLeDiff, Nat.reduceBEq, Nat.reduceEqDiff, Bool.or_true, Bool.false_or, List.mem_cons, List.mem_singleton, true_or, or_true, mh_N, mh_U, mh_T, mh_L, mh_R, mh_J, mh_0, mh_s0, mh_I, mh_s, sa_20, sa_21, sa_22, sa_23, sa_24, sa_25, sa_26, sa_27, sa_28, sa_29, sa_30, sa_31, sa_32, sa_33, sa_34, sa_35, sa_36, sa_37, sa_38, sa_39, sa_40, sa_41, sa_42, sa_43, sa_44, sa_45, sa_46, sa_47, sa_48, sa_49, sa_50, sa_51, sa_52, sa_70, sa_71, sa_72, sa_73, sa_74, sa_75, sa_76, sa_77, sa_78, sa_79, sa_80, sa_81, sa_82, sa_83, sa_84, sa_85, sa_86, sa_87, sa_88, sa_89, sa_90, sa_91, sa_92, sa_93, sa_94, sa_95, sa_96, sa_97, sa_98, sa_99, sa_100, sa_101, decide_eq_false_iff_not, s_obj, e_cl, s_ar, e_st, stO, stA, lshrF, lshlF, lorF, landF, lsubF, a_eq, a_ne, ov_N, ov_U, ov_T, ov_L, ov_I, ov_I0, ov_J, ov_J0, ov_R, ov_R0, ov_sI, ov_sI0, ov_sJ, ov_sJ0, ov_sR, ov_sR0, sa_53, sa_54, hN_sI, hU_sI, hT_sI, hL_sI, hI_sI, hJ_sI, hR_sI, hN_sJ, hU_sJ, hT_sJ, hL_sJ, hI_sJ, hJ_sJ, hR_sJ, hN_sR, hU_sR, hT_sR, hL_sR, hI_sR, hJ_sR, hR_sR, hN_nw, hU_nw, hT_nw, hL_nw, hI_nw, hJ_nw, hR_nw, vu_s, vu_n]
  refine ⟨?_, k⟩
  decide
theorem q_rowOf {h : AH} {U : Nat} (hU : UpO h U) {i k a : Nat} (hi : i < 6) (hk : k < 4) (e : hR h (U + 3) (i * 4 + k) = some a) : d_Upper_rowOf [.ref U, .int (nI i), .int (nI k)] h = some (some a, h) := by
  refine wpm_to ?_
  unfold d_Upper_rowOf
  simp (disch := omega) only [m_mth, s_sk, s_brk, s_cnt, s_sq, s_if, s_rtn, s_rtnU, s_E, s_I1, s_R1, s_J1, s_Inc, s_h2, s_h3, s_u2, s_u3, e_C, e_h1, e_h2, e_lI, e_lJ, e_lR, e_if, e_and, e_or, e_not, a_nil, a_I, a_J, a_R, e_kS, e_kV, e_kN, e_nA, ok_some, ok_none, ok_bind, ok_guard, ok_guardN, asI_int, asJ_long, asR_ref, asR_rf, asR_null, entL, ent, sto, sto2, ok1, Value.category, va_rf, List.length_cons, List.length_nil, List.length_append, List.length_replicate, List.nil_append, List.cons_append, List.append_nil, List.replicate_succ, List.replicate_zero, List.getElem?_cons_zero, List.getElem?_cons_succ, List.set_cons_zero, List.set_cons_succ, gI, gJ, gR, pI, pJ, pR, aI, aJ, aR, aL, stI, stB, stZ, stJ, uF, uA, Option.bind_some, iaddF, isubF, imulF, iandF, iorF, ixorF, ishlF, ishrF, iushrF, inegF, i2bF, i2lF, l2iF, c_eq, c_ne, c_lt, c_le, c_gt, c_ge, z_eq, z_ne, z_lt, z_le, z_gt, z_ge, j_eq, j_ne, j_gt, n_nul, n_non, tt, zz, hN_u, hU_u, hT_u, hL_u, hI_u, hJ_u, hR_u, sI_u, decide_eq_true_eq, true_and, and_true, if_true, reduceIte, beq_self_eq_true, Bool.true_or, Bool.and_self, Nat.reduceAdd, Nat.reduceSub, Nat.reduceLT, Nat.reduceLeDiff, Nat.reduceBEq, Nat.reduceEqDiff, Bool.or_true, Bool.false_or, List.mem_cons, List.mem_singleton, true_or, or_true, mh_N, mh_U, mh_T, mh_L, mh_R, mh_J, mh_0, mh_s0, mh_I, mh_s, sa_20, sa_21, sa_22, sa_23, sa_24, sa_25, sa_26, sa_27, sa_28, sa_29, sa_30, sa_31, sa_32, sa_33, sa_34, sa_35, sa_36, sa_37, sa_38, sa_39, sa_40, sa_41, sa_42, sa_43, sa_44, sa_45, sa_46, sa_47, sa_48, sa_49, sa_50, sa_51, sa_52, sa_70, sa_71, sa_72, sa_73, sa_74, sa_75, sa_76, sa_77, sa_78, sa_79, sa_80, sa_81, sa_82, sa_83, sa_84, sa_85, sa_86, sa_87, sa_88, sa_89, sa_90, sa_91, sa_92, sa_93, sa_94, sa_95, sa_96, sa_97, sa_98, sa_99, sa_100, sa_101, decide_eq_false_iff_not, s_obj, e_cl, s_ar, e_st, stO, stA, lshrF, lshlF, lorF, landF, lsubF, a_eq, a_ne, ov_N, ov_U, ov_T, ov_L, ov_I, ov_I0, ov_J, ov_J0, ov_R, ov_R0, ov_sI, ov_sI0, ov_sJ, ov_sJ0, ov_sR, ov_sR0, sa_53, sa_54, hU.1, Upr_rows hU, Upt_rows hU, Upl_rows hU, nI_clamp, nI_pos, nI_add, pk_mul, nI_ltI, nI_leI, not_false_eq_true, e]
  omega
/-! how much is still to come -/
noncomputable def cvd (X : List (List Nat)) (k : Nat) : Bool := @decide (∃ v, WL v ∧ v.length ≤ 3 ∧ cd v = k ∧ Cov X v) (Classical.propDecidable _)
theorem cvd_iff {X : List (List Nat)} {k : Nat} : cvd X k = true ↔ ∃ v, WL v ∧ v.length ≤ 3 ∧ cd v = k ∧ Cov X v := by
  unfold cvd
  exact @decide_eq_true_iff _ (Classical.propDecidable _)
noncomputable def mw (X : Nat → List (List Nat)) : Nat → Nat
  | 0 => 0
  | n + 1 => mw X n + (32768 - cntP (cvd (X n)) 32768)
theorem mw_max {X : Nat → List (List Nat)} : ∀ n, mw X n ≤ n * 32768
  | 0 => Nat.zero_le _
  | n + 1 => by
    have := mw_max (X := X) n
    rw [mw]; omega
theorem mw_le {X X' : Nat → List (List Nat)} (h : ∀ i u, Cov (X i) u → Cov (X' i) u) : ∀ n, mw X' n ≤ mw X n
  | 0 => Nat.le_refl _
  | n + 1 => by
    have a := mw_le h n
    have b := cntP_le (p := cvd (X n)) (q := cvd (X' n)) (n := 32768) (fun i hi => by
      obtain ⟨v, v1, v2, v3, v4⟩ := cvd_iff.mp hi
      exact cvd_iff.mpr ⟨v, v1, v2, v3, h n v v4⟩)
    rw [mw, mw]; omega
theorem mw_lt {X X' : Nat → List (List Nat)} (h : ∀ i u, Cov (X i) u → Cov (X' i) u) {q : Nat} {v : List Nat} (hv : WL v) (h3 : v.length ≤ 3) (h1 : ¬ Cov (X q) v) (h2 : Cov (X' q) v) : ∀ n, q < n → mw X' n < mw X n
  | 0, hq => by cases hq
  | n + 1, hq => by
    have b := cntP_le (p := cvd (X n)) (q := cvd (X' n)) (n := 32768) (fun i hi => by
      obtain ⟨v, v1, v2, v3, v4⟩ := cvd_iff.mp hi
      exact cvd_iff.mpr ⟨v, v1, v2, v3, h n v v4⟩)
    by_cases z : q = n
    · subst z
      have a := mw_le h q
      have c := cntP_lt (p := cvd (X q)) (q := cvd (X' q)) (n := 32768) (k := cd v) (fun i hi => by
        obtain ⟨v, v1, v2, v3, v4⟩ := cvd_iff.mp hi
        exact cvd_iff.mpr ⟨v, v1, v2, v3, h q v v4⟩) (cd15 hv h3) (by
          cases e : cvd (X q) (cd v) with
          | false => rfl
          | true =>
            obtain ⟨u, u1, u2, u3, u4⟩ := cvd_iff.mp e
            rw [cd_inj u1 hv u3] at u4
            exact absurd u4 h1) (cvd_iff.mpr ⟨v, hv, h3, rfl, h2⟩)
      have d := cntP_max (p := cvd (X' q)) (n := 32768)
      rw [mw, mw]; omega
    · have a := mw_lt h hv h3 h1 h2 n (by omega)
      rw [mw, mw]; omega
