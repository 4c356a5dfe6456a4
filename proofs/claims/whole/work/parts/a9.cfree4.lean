/-! ===== the class: Search.triesFrees, whole ===== -/
theorem Gro_tF {gr : GrT} {tx : List (List Nat)} {r lvl ix f m : Nat} {w : List Nat} {e : Env} {ch : ChoT} {fs : List Nat} {pre : List (Nat × Nat)} : Gro (fun x : FrN => x.2.length) (tF (gH (gG gr tx)) (frK gr tx r lvl ix f m w e ch) fs pre) := by
  unfold tF
  refine Gro_fst _ (fun t _ => ?_)
  unfold frK
  exact Gro_thn (sz := List.length) (sy := fun x : FrN => x.2.length) (k := fun ns => (pre ++ t, ns)) (Gro_mem (fun row f n i => Gro_ask (G := gG gr tx) r (lvl + 1) row f n i (some ix)) ch f (f + m) (ix + 1)) (fun b => Nat.le_refl _)
theorem dr_rng {n j : Nat} (h : j < n) : (List.range n).drop j = j :: (List.range n).drop (j + 1) := by
  rw [List.drop_eq_getElem_cons (by rw [List.length_range]; omega), List.getElem_range]
theorem PoF_v {S T N ix : Nat} {H : Nat → List (List Nat)} {h : AH} {v : Int32} {res : Res FrN} (p : PoF S T N ix H h v res) : v = nI 0 ∨ v = nI 1 := by
  match res, p with
  | none, p => exact Or.inl p.1
  | some (none, s), p => exact Or.inl p.1
  | some (some (fr, ns), s), p => exact Or.inr p.1
theorem q_triesF {Γ : Nat → List Nat × Alts} {S FA FB T U X : Nat} {nm : List Nat} {gr : GrT} {tx : List (List Nat)} {d : Nat} {r K N C ix lvl f m : Nat} {hd w : List Nat} {e : Env} {ch : ChoT} (ih : ∀ n, K ≤ n → AkS Γ S FA FB T U X nm gr tx d n r) (htx : TxOK tx) (hlv : lvl + 1 + r = d) (hx5 : ix < 500) (h4 : ch.length ≤ 4) (hch : ∀ m ∈ ch, m.2.length ≤ 6 ∧ ∀ c ∈ m.2, SG c ∧ (cap c = true → c ∈ nm)) (he : ∀ c, c ∉ hd → e c = none) (hH : ∀ c k, c ∉ hd → WL ((gH (gG gr tx) c).getD k []) ∧ ((gH (gG gr tx) c).getD k []).length ≤ 10) (hfm : f + m ≤ tx.length) (hf2 : (frs hd ch).length ≤ 2) (hdn : ∀ c ∈ hd, cap c = true → c ∈ nm) (hfn : ∀ c ∈ frs hd ch, c ∈ nm) (hft : (ch.getD 0 (false, [])).1 = true → f < tx.length) :
    ∀ (p n : Nat), K + 6 + p ≤ n → ∀ (h : AH) (pre : List (Nat × Nat)) (s : Ctr), pre.length + p = (frs hd ch).length → SI Γ S FA FB T U X nm gr tx d h → FrS S FB N C ix lvl f m nm hd w e (gH (gG gr tx)) ch pre h → ix < s.1 → s.1 ≤ 500 → CtrA h S s → hI h S 4 = nI 0 →
    ∃ h' v, R_Search_ask n 2 [.ref S, .ref N, .ref C, .int (nI pre.length)] h = some (v, h') ∧ SI Γ S FA FB T U X nm gr tx d h' ∧ SR S FB lvl ix h h' ∧ FrF FB N lvl nm ((frs hd ch).drop pre.length) pre.length h h' ∧ PoF S T N ix (gH (gG gr tx)) h' v (tF (gH (gG gr tx)) (frK gr tx r lvl ix f m w e ch) ((frs hd ch).drop pre.length) pre s) := by
  intro p
  induction p with
  | zero =>
    intro n hn h pre s hp q fs hs h500 hc hov
    obtain ⟨h', v, e1, e2, e3, e4, e5⟩ := q_triesF0 ih htx hlv hx5 h4 hch he hH hfm hf2 (n := n) (by omega) (by omega) q fs hs h500 hc hov
    have dn : (frs hd ch).drop pre.length = [] := List.drop_eq_nil_of_le (by omega)
    rw [dn, tF_nil]
    exact ⟨h', v, e1, e2, e3, e4, e5⟩
  | succ p ihp =>
    intro n hn h pre s hp q fs hs h500 hc hov
    obtain ⟨n, rfl⟩ : ∃ n', n = n' + 1 := ⟨n - 1, by omega⟩
    have hl12 : lvl < 12 := by have := q.2.2.2.2.2.2.2.2; omega
    have hj : pre.length < (frs hd ch).length := by omega
    obtain ⟨f1, f2, f3, f4, f5, f6, f7, f8⟩ := id fs
    have nd := q.2.2.2.2.1 ix hx5 N f1
    have sT := q.2.1.1
    generalize hcc : (frs hd ch).getD pre.length 0 = c
    have cM : c ∈ frs hd ch := by rw [← hcc]; exact getD_mem hj
    have cn := hfn c cM
    have chd : c ∉ hd := (frs_iff.mp cM).2.2
    have il := List.idxOf_lt_length_iff.mpr cn
    have dc : (frs hd ch).drop pre.length = c :: (frs hd ch).drop (pre.length + 1) := by rw [← hcc]; exact drop_cons hj
    have hch0 : 0 < ch.length := by
      obtain ⟨⟨x, x1, _⟩, _⟩ := frs_iff.mp cM
      exact List.length_pos_of_mem x1
    have efr : hI h (C + 2) pre.length = nI (nm.idxOf c) := by rw [f5.2.2.2.2.2.1.2 _ hj, hcc]
    have hpn : ∀ j, j < pre.length → (pre.getD j (0, 0)).1 ∈ nm := fun j hj' => by
      refine hfn _ (List.mem_of_mem_take (i := pre.length) ?_)
      rw [← f7]
      exact List.mem_map.mpr ⟨_, getD_in (d := ((0, 0) : Nat × Nat)) hj', rfl⟩
    suffices hw : wpm (b_Search_triesFrees (R_Search_ask n)) [.ref S, .ref N, .ref C, .int (nI pre.length)] h (fun v h' => SI Γ S FA FB T U X nm gr tx d h' ∧ SR S FB lvl ix h h' ∧ FrF FB N lvl nm ((frs hd ch).drop pre.length) pre.length h h' ∧ PoF S T N ix (gH (gG gr tx)) h' v (tF (gH (gG gr tx)) (frK gr tx r lvl ix f m w e ch) ((frs hd ch).drop pre.length) pre s)) by
      obtain ⟨v, h', e1, x⟩ := wpm_intro hw
      exact ⟨h', v, e1, x⟩
    unfold b_Search_triesFrees
    (rw [m_mth]; refine ⟨by simp only [m_mth, s_sk, s_brk, s_cnt, s_sq, s_if, s_rtn, s_rtnU, s_E, s_I1, s_R1, s_J1, s_Inc, s_h2, s_h3, s_u2, s_u3, e_C, e_h1, e_h2, e_lI, e_lJ, e_lR, e_if, e_and, e_or, e_not, a_nil, a_I, a_J, a_R, e_kS, e_kV, e_kN, e_nA, ok_some, ok_none, ok_bind, ok_guard, ok_guardN, asI_int, asJ_long, asR_ref, asR_rf, asR_null, entL, ent, sto, sto2, ok1, Value.category, va_rf, List.length_cons, List.length_nil, List.length_append, List.length_replicate, List.nil_append, List.cons_append, List.append_nil, List.replicate_succ, List.replicate_zero, List.getElem?_cons_zero, List.getElem?_cons_succ, List.set_cons_zero, List.set_cons_succ, gI, gJ, gR, pI, pJ, pR, aI, aJ, aR, aL, stI, stB, stZ, stJ, uF, uA, Option.bind_some, iaddF, isubF, imulF, iandF, iorF, ixorF, ishlF, ishrF, iushrF, inegF, i2bF, i2lF, l2iF, c_eq, c_ne, c_lt, c_le, c_gt, c_ge, z_eq, z_ne, z_lt, z_le, z_gt, z_ge, j_eq, j_ne, j_gt, n_nul, n_non, tt, zz, hN_u, hU_u, hT_u, hL_u, hI_u, hJ_u, hR_u, sI_u, decide_eq_true_eq, true_and, and_true, if_true, reduceIte, beq_self_eq_true, Bool.true_or, Bool.and_self, Nat.reduceAdd, Nat.reduceSub, Nat.reduceLT, Nat.reduceLeDiff, Nat.reduceBEq, Nat.reduceEqDiff, Bool.or_true, Bool.false_or, List.mem_cons, List.mem_singleton, true_or, or_true, mh_N, mh_U, mh_T, mh_L, mh_R, mh_J, mh_0, mh_s0, mh_I, mh_s, sa_20, sa_21, sa_22, sa_23, sa_24, sa_25, sa_26, sa_27, sa_28, sa_29, sa_30, sa_31, sa_32, sa_33, sa_34, sa_35, sa_36, sa_37, sa_38, sa_39, sa_40, sa_41, sa_42, sa_43, sa_44, sa_45, sa_46, sa_47, sa_48, sa_49, sa_50, sa_51, sa_52, sa_70, sa_71, sa_72, sa_73, sa_74, sa_75, sa_76, sa_77, sa_78, sa_79, sa_80, sa_81, sa_82, sa_83, sa_84, sa_85, sa_86, sa_87, sa_88, sa_89, sa_90, sa_91, sa_92, sa_93, sa_94, sa_95, sa_96, sa_97, sa_98, sa_99, sa_100, sa_101, decide_eq_false_iff_not, s_obj, e_cl, s_ar, e_st, stO, stA, lshrF, lshlF, lorF, landF, lsubF, a_eq, a_ne, ov_N, ov_U, ov_T, ov_L, ov_I, ov_I0, ov_J, ov_J0, ov_R, ov_R0, ov_sI, ov_sI0, ov_sJ, ov_sJ0, ov_sR, ov_sR0], ?_⟩; simp only [entL, ent, Value.category, List.length_cons, List.length_nil, Nat.reduceAdd, Nat.reduceSub, List.replicate_succ, List.replicate_zero, List.cons_append, List.nil_append, Nat.reduceBEq, Bool.false_eq_true, if_false, beq_self_eq_true, if_true, reduceIte])
    have nge : ¬ nI (frs hd ch).length ≤ nI pre.length := fun y => by have := (nI_leI (by omega) (by omega)).mp y; omega
    refine seq fun N1 k1 => s_ifF (h' := h) ?_ (s_sk.mpr (k1 _ _ (seq fun N2 k2 => ?_)))
    · simp (disch := omega) only [m_mth, s_sk, s_brk, s_cnt, s_sq, s_if, s_rtn, s_rtnU, s_E, s_I1, s_R1, s_J1, s_Inc, s_h2, s_h3, s_u2, s_u3, e_C, e_h1, e_h2, e_lI, e_lJ, e_lR, e_if, e_and, e_or, e_not, a_nil, a_I, a_J, a_R, e_kS, e_kV, e_kN, e_nA, ok_some, ok_none, ok_bind, ok_guard, ok_guardN, asI_int, asJ_long, asR_ref, asR_rf, asR_null, entL, ent, sto, sto2, ok1, Value.category, va_rf, List.length_cons, List.length_nil, List.length_append, List.length_replicate, List.nil_append, List.cons_append, List.append_nil, List.replicate_succ, List.replicate_zero, List.getElem?_cons_zero, List.getElem?_cons_succ, List.set_cons_zero, List.set_cons_succ, gI, gJ, gR, pI, pJ, pR, aI, aJ, aR, aL, stI, stB, stZ, stJ, uF, uA, Option.bind_some, iaddF, isubF, imulF, iandF, iorF, ixorF, ishlF, ishrF, iushrF, inegF, i2bF, i2lF, l2iF, c_eq, c_ne, c_lt, c_le, c_gt, c_ge, z_eq, z_ne, z_lt, z_le, z_gt, z_ge, j_eq, j_ne, j_gt, n_nul, n_non, tt, zz, hN_u, hU_u, hT_u, hL_u, hI_u, hJ_u, hR_u, sI_u, decide_eq_true_eq, true_and, and_true, if_true, reduceIte, beq_self_eq_true, Bool.true_or, Bool.and_self, Nat.reduceAdd, Nat.reduceSub, Nat.reduceLT, Nat.reduceLeDiff, Nat.reduceBEq, Nat.reduceEqDiff, Bool.or_true, Bool.false_or, List.mem_cons, List.mem_singleton, true_or, or_true, mh_N, mh_U, mh_T, mh_L, mh_R, mh_J, mh_0, mh_s0, mh_I, mh_s, sa_20, sa_21, sa_22, sa_23, sa_24, sa_25, sa_26, sa_27, sa_28, sa_29, sa_30, sa_31, sa_32, sa_33, sa_34, sa_35, sa_36, sa_37, sa_38, sa_39, sa_40, sa_41, sa_42, sa_43, sa_44, sa_45, sa_46, sa_47, sa_48, sa_49, sa_50, sa_51, sa_52, sa_70, sa_71, sa_72, sa_73, sa_74, sa_75, sa_76, sa_77, sa_78, sa_79, sa_80, sa_81, sa_82, sa_83, sa_84, sa_85, sa_86, sa_87, sa_88, sa_89, sa_90, sa_91, sa_92, sa_93, sa_94, sa_95, sa_96, sa_97, sa_98, sa_99, sa_100, sa_101, decide_eq_false_iff_not, s_obj, e_cl, s_ar, e_st, stO, stA, lshrF, lshlF, lorF, landF, lsubF, a_eq, a_ne, ov_N, ov_U, ov_T, ov_L, ov_I, ov_I0, ov_J, ov_J0, ov_R, ov_R0, ov_sI, ov_sI0, ov_sJ, ov_sJ0, ov_sR, ov_sR0, f5.1.1, f5.2.2.2.2.2.1.1, nge, decide_false, not_false_eq_true]
    have e8 := f5.2.2.2.2.2.2.2.1
    have el : (frs hd (ch.take 1)).length ≤ 2 := by
      have := congrArg List.length (frs_take (hd := hd) (ch := ch))
      rw [List.length_take] at this; omega
    -- whether it is left out
    by_cases out : pre.length = (frs hd (ch.take 1)).length ∧ opB tx f (spl w e (fwd (gH (gG gr tx)) pre) (ch.getD 0 (false, [])).2) (ch.getD 0 (false, [])).1 = false
    · sorry
    · sorry
