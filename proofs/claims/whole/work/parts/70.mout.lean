/-! ===== METANOTIONS that derive some word ===== -/
def prd (A : Alts) : Nat → Nat → Prop
  | 0, _ => False
  | n + 1, c => ∃ row, row ∈ A c ∧ ∀ s ∈ row, cap s = true → prd A n s
def Prd (A : Alts) (c : Nat) : Prop := ∃ n, prd A n c
theorem prd_succ {A : Alts} : ∀ (n c : Nat), prd A n c → prd A (n + 1) c
  | 0, _, h => h.elim
  | n + 1, _, ⟨row, hr, h⟩ => ⟨row, hr, fun s hs hc => prd_succ n s (h s hs hc)⟩
theorem prd_le {A : Alts} {n m : Nat} (h : n ≤ m) : ∀ c, prd A n c → prd A m c := by
  induction h with
  | refl => exact fun _ h => h
  | step _ ih => exact fun c h => prd_succ _ c (ih c h)
def okR (P : Nat → Bool) (row : List Nat) : Prop := ∀ s ∈ row, cap s = true → P s = true
theorem Prd_all {A : Alts} : ∀ (row : List Nat), (∀ s ∈ row, cap s = true → Prd A s) → ∃ n, ∀ s ∈ row, cap s = true → prd A n s
  | [], _ => ⟨0, fun s h => by cases h⟩
  | a :: r, h => by
    obtain ⟨n, hn⟩ := Prd_all r (fun s hs => h s (List.mem_cons_of_mem _ hs))
    by_cases q : cap a = true
    · obtain ⟨k, hk⟩ := h a (List.mem_cons_self ..) q
      refine ⟨n + k, fun s hs hc => ?_⟩
      rcases List.mem_cons.mp hs with e | e
      · rw [e]; exact prd_le (by omega) a hk
      · exact prd_le (by omega) s (hn s e hc)
    · refine ⟨n, fun s hs hc => ?_⟩
      rcases List.mem_cons.mp hs with e | e
      · rw [e] at hc; exact absurd hc q
      · exact hn s e hc
theorem Prd_in {A : Alts} {c : Nat} {row : List Nat} (hr : row ∈ A c) (h : ∀ s ∈ row, cap s = true → Prd A s) : Prd A c := by
  obtain ⟨n, hn⟩ := Prd_all row h
  exact ⟨n + 1, row, hr, hn⟩
theorem Prd_full {A : Alts} {P : Nat → Bool} (h : ∀ c row, row ∈ A c → okR P row → P c = true) {c : Nat} (hp : Prd A c) : P c = true := by
  obtain ⟨n, hp⟩ := hp
  induction n generalizing c with
  | zero => exact hp.elim
  | succ n ih =>
    obtain ⟨row, hr, hp⟩ := hp
    exact h c row hr (fun s hs hc => ih (hp s hs hc))
noncomputable def PrB (A : Alts) (c : Nat) : Bool := @decide (Prd A c) (Classical.propDecidable _)
theorem PrB_iff {A : Alts} {c : Nat} : PrB A c = true ↔ Prd A c := by
  unfold PrB
  exact @decide_eq_true_iff _ (Classical.propDecidable _)
/-- rounds over all rows: closed, or so many at least -/
def pSnd (A : Alts) (P : Nat → Bool) : Prop := ∀ c, P c = true → Prd A c
def pCl (A : Alts) (P : Nat → Bool) : Prop := ∀ c row, row ∈ A c → okR P row → P c = true
def pCnt (nm : List Nat) (P : Nat → Bool) : Nat := nm.countP P
def setP (P : Nat → Bool) (c : Nat) : Nat → Bool := fun x => P x || decide (x = c)
theorem okR_mono {P Q : Nat → Bool} (h : ∀ c, P c = true → Q c = true) {row : List Nat} (ho : okR P row) : okR Q row := fun s hs hc => h s (ho s hs hc)
theorem cnt_mono {nm : List Nat} {P Q : Nat → Bool} (h : ∀ c, P c = true → Q c = true) : pCnt nm P ≤ pCnt nm Q := List.countP_mono_left (fun x _ => h x)
theorem cnt_lt : ∀ {nm : List Nat} {P Q : Nat → Bool} (_ : ∀ c, P c = true → Q c = true) {c : Nat} (_ : c ∈ nm) (_ : P c = false) (_ : Q c = true), pCnt nm P < pCnt nm Q
  | [], _, _, _, _, hc, _, _ => by cases hc
  | a :: nm, P, Q, h, c, hc, h1, h2 => by
    unfold pCnt
    rw [List.countP_cons, List.countP_cons]
    have m := List.countP_mono_left (l := nm) (fun x _ => h x)
    rcases List.mem_cons.mp hc with e | e
    · rw [← e, h1, h2]
      simp only [if_true, Bool.false_eq_true, if_false]
      omega
    · have := cnt_lt h e h1 h2
      unfold pCnt at this
      by_cases q : P a = true
      · rw [q, h a q]
        simp only [if_true]
        omega
      · have q : P a = false := by simpa using q
        rw [q]
        simp only [Bool.false_eq_true, if_false]
        omega
theorem pSnd_set {A : Alts} {P : Nat → Bool} (h : pSnd A P) {c : Nat} {row : List Nat} (hr : row ∈ A c) (ho : okR P row) : pSnd A (setP P c) := by
  intro x hx
  unfold setP at hx
  rw [Bool.or_eq_true, decide_eq_true_eq] at hx
  rcases hx with q | q
  · exact h x q
  · rw [q]; exact Prd_in hr (fun s hs hc => h s (ho s hs hc))
/-- where a round stands: nothing is new and the rows in D are closed, or some is new -/
def pRd (A : Alts) (nm : List Nat) (P0 P : Nat → Bool) (D : Nat → List Nat → Prop) : Prop := pSnd A P ∧ (∀ c, P0 c = true → P c = true) ∧ ((P = P0 ∧ ∀ c row, D c row → okR P row → P c = true) ∨ pCnt nm P0 < pCnt nm P)
theorem pRd_step {A : Alts} {nm : List Nat} {P0 P : Nat → Bool} {D D' : Nat → List Nat → Prop} (h : pRd A nm P0 P D) {c : Nat} {row : List Nat} (hc : c ∈ nm) (hr : row ∈ A c) (hD : ∀ x y, D' x y → D x y ∨ (x = c ∧ y = row)) {b : Bool} (hb : b = true ↔ okR P row) : pRd A nm P0 (fun x => P x || (decide (x = c) && b)) D' := by
  obtain ⟨h1, h2, h3⟩ := h
  cases b with
  | false =>
    have e : (fun x => P x || (decide (x = c) && false)) = P := by funext x; simp
    rw [e]
    refine ⟨h1, h2, h3.imp (fun ⟨z1, z2⟩ => ⟨z1, fun x y hxy ho => ?_⟩) id⟩
    rcases hD x y hxy with q | ⟨q1, q2⟩
    · exact z2 x y q ho
    · rw [q2] at ho; exact absurd (hb.mpr ho) (by decide)
  | true =>
    have ho := hb.mp rfl
    by_cases q : P c = true
    · have e : (fun x => P x || (decide (x = c) && true)) = P := by
        funext x
        by_cases z : x = c
        · rw [z, q]; rfl
        · simp [z]
      rw [e]
      refine ⟨h1, h2, h3.imp (fun ⟨z1, z2⟩ => ⟨z1, fun x y hxy ho => ?_⟩) id⟩
      rcases hD x y hxy with z | ⟨z, -⟩
      · exact z2 x y z ho
      · rw [z]; exact q
    · have e : (fun x => P x || (decide (x = c) && true)) = setP P c := by funext x; simp [setP]
      rw [e]
      have gr : ∀ x, P x = true → setP P c x = true := fun x hx => by simp [setP, hx]
      refine ⟨pSnd_set h1 hr ho, fun x hx => gr x (h2 x hx), Or.inr ?_⟩
      have a := cnt_lt (nm := nm) gr hc (by simpa using q) (by simp [setP])
      have b := cnt_mono (nm := nm) h2
      omega
def pOut (A : Alts) (nm : List Nat) (P : Nat → Bool) (i : Nat) : Prop := pSnd A P ∧ (pCl A P ∨ i ≤ pCnt nm P)
theorem pOut_next {A : Alts} {nm : List Nat} {P0 P : Nat → Bool} {D : Nat → List Nat → Prop} {i : Nat} (h : pOut A nm P0 i) (hr : pRd A nm P0 P D) (hD : ∀ c row, row ∈ A c → D c row) : pOut A nm P (i + 1) := by
  obtain ⟨r1, r2, r3⟩ := hr
  refine ⟨r1, ?_⟩
  rcases r3 with ⟨-, q⟩ | q
  · exact Or.inl (fun c row hr ho => q c row (hD c row hr) ho)
  · rcases h.2 with z | z
    · have := cnt_mono (nm := nm) (P := P) (Q := P0) (fun c hc => Prd_full z (r1 c hc))
      omega
    · exact Or.inr (by omega)
theorem cnt_full : ∀ {nm : List Nat} {P : Nat → Bool}, nm.length ≤ pCnt nm P → ∀ c ∈ nm, P c = true
  | nm, P, h => by
    intro c hc
    refine Classical.byContradiction fun q => ?_
    have := cnt_lt (nm := nm) (P := P) (Q := fun _ => true) (fun _ _ => rfl) hc (by simpa using q) rfl
    have := List.countP_le_length (p := fun _ => true) (l := nm)
    unfold pCnt at *
    omega
theorem pOut_end {A : Alts} {nm : List Nat} {P : Nat → Bool} {i : Nat} (h : pOut A nm P i) (hi : nm.length ≤ i) (hA : ∀ c row, row ∈ A c → c ∈ nm) (c : Nat) : P c = PrB A c := by
  have cl : pCl A P := by
    rcases h.2 with q | q
    · exact q
    · exact fun c row hr _ => cnt_full (by omega) c (hA c row hr)
  rw [Bool.eq_iff_iff, PrB_iff]
  exact ⟨h.1 c, Prd_full cl⟩
/-! ===== the reference: the same ===== -/
theorem Rd_of {f : Nat → Nat → Int32} {h : AH} {M : Nat} {g : Nat → Nat} (hg : Rd (f 1) g 1684) : Rd (mF h M f (M + 1)) g 1684 := by rw [show mF h M f (M + 1) = f 1 from mh_I (by decide)]; exact hg
theorem q_canRow {h : AH} {M : Nat} (H : MOK h M) {f : Nat → Nat → Int32} {g : Nat → Nat} (hg : Rd (f 1) g 1684) {ms : Ms} (ho : MsOK ms) (hms : MsAt g ms) {P : Nat → Bool} (hP : ∀ m, m < ms.length → f 17 m = bI (P ((nmL ms).getD m 0))) {a : Nat} {row : List Nat} (hr : RowAt g a row) (ha : a + row.length < 1584) (hsg : ∀ c ∈ row, SG c ∧ (cap c = true → ∃ m, mI (nmL ms) c = some m)) :
    ∃ b, (b = true ↔ okR P row) ∧ d_M_canRow [.ref M, .int (nI a)] (mh h M f) = some (bI b, mh h M f) := by
  obtain ⟨r, h', e, b, q, rfl, rfl⟩ := wpm_intro (d := d_M_canRow) (av := [.ref M, .int (nI a)]) (h := mh h M f) (P := fun r h' => ∃ b, (b = true ↔ okR P row) ∧ r = bI b ∧ h' = mh h M f) (by
    have ho6 := ho.1
    unfold d_M_canRow
    (rw [m_mth]; refine ⟨by simp only [m_mth, s_sk, s_brk, s_cnt, s_sq, s_if, s_rtn, s_rtnU, s_E, s_I1, s_R1, s_J1, s_Inc, s_h2, s_h3, s_u2, s_u3, e_C, e_h1, e_h2, e_lI, e_lJ, e_lR, e_if, e_and, e_or, e_not, a_nil, a_I, a_J, a_R, e_kS, e_kV, e_kN, e_nA, ok_some, ok_none, ok_bind, ok_guard, ok_guardN, asI_int, asJ_long, asR_ref, asR_rf, asR_null, entL, ent, sto, sto2, ok1, Value.category, va_rf, List.length_cons, List.length_nil, List.length_append, List.length_replicate, List.nil_append, List.cons_append, List.append_nil, List.replicate_succ, List.replicate_zero, List.getElem?_cons_zero, List.getElem?_cons_succ, List.set_cons_zero, List.set_cons_succ, gI, gJ, gR, pI, pJ, pR, aI, aJ, aR, aL, stI, stB, stZ, stJ, uF, uA, Option.bind_some, iaddF, isubF, imulF, iandF, iorF, ixorF, ishlF, ishrF, iushrF, inegF, i2bF, i2lF, l2iF, c_eq, c_ne, c_lt, c_le, c_gt, c_ge, z_eq, z_ne, z_lt, z_le, z_gt, z_ge, j_eq, j_ne, j_gt, n_nul, n_non, tt, zz, hN_u, hU_u, hT_u, hL_u, hI_u, hJ_u, hR_u, sI_u, decide_eq_true_eq, true_and, and_true, if_true, reduceIte, beq_self_eq_true, Bool.true_or, Bool.and_self, Nat.reduceAdd, Nat.reduceSub, Nat.reduceLT, Nat.reduceLeDiff, Nat.reduceBEq, Nat.reduceEqDiff, Bool.or_true, Bool.false_or, List.mem_cons, List.mem_singleton, true_or, or_true, mh_N, mh_U, mh_T, mh_L, mh_R, mh_J, mh_0, mh_s0, mh_I, mh_s, sa_20, sa_21, sa_22, sa_23, sa_24, sa_25, sa_26, sa_27, sa_28, sa_29, sa_30, sa_31, sa_32, sa_33, sa_34, sa_35, sa_36, sa_37, sa_38, sa_39, sa_40, sa_41, sa_42, sa_43, sa_44, sa_45, sa_46, sa_47, sa_48, sa_49, sa_50, sa_51, sa_52, sa_70, sa_71, sa_72, sa_73, sa_74, sa_75, sa_76, sa_77, sa_78, sa_79, sa_80, sa_81, sa_82, sa_83, sa_84, sa_85, sa_86, sa_87, sa_88, sa_89, sa_90, sa_91, sa_92, sa_93, sa_94, sa_95, sa_96, sa_97, sa_98, sa_99, sa_100, sa_101, decide_eq_false_iff_not], ?_⟩; simp only [entL, ent, Value.category, List.length_cons, List.length_nil, Nat.reduceAdd, Nat.reduceSub, List.replicate_succ, List.replicate_zero, List.cons_append, List.nil_append, Nat.reduceBEq, Bool.false_eq_true, if_false])
    refine seq fun N1 k1 => seq fun N2 k2 => ?_
    simp only [m_mth, s_sk, s_brk, s_cnt, s_sq, s_if, s_rtn, s_rtnU, s_E, s_I1, s_R1, s_J1, s_Inc, s_h2, s_h3, s_u2, s_u3, e_C, e_h1, e_h2, e_lI, e_lJ, e_lR, e_if, e_and, e_or, e_not, a_nil, a_I, a_J, a_R, e_kS, e_kV, e_kN, e_nA, ok_some, ok_none, ok_bind, ok_guard, ok_guardN, asI_int, asJ_long, asR_ref, asR_rf, asR_null, entL, ent, sto, sto2, ok1, Value.category, va_rf, List.length_cons, List.length_nil, List.length_append, List.length_replicate, List.nil_append, List.cons_append, List.append_nil, List.replicate_succ, List.replicate_zero, List.getElem?_cons_zero, List.getElem?_cons_succ, List.set_cons_zero, List.set_cons_succ, gI, gJ, gR, pI, pJ, pR, aI, aJ, aR, aL, stI, stB, stZ, stJ, uF, uA, Option.bind_some, iaddF, isubF, imulF, iandF, iorF, ixorF, ishlF, ishrF, iushrF, inegF, i2bF, i2lF, l2iF, c_eq, c_ne, c_lt, c_le, c_gt, c_ge, z_eq, z_ne, z_lt, z_le, z_gt, z_ge, j_eq, j_ne, j_gt, n_nul, n_non, tt, zz, hN_u, hU_u, hT_u, hL_u, hI_u, hJ_u, hR_u, sI_u, decide_eq_true_eq, true_and, and_true, if_true, reduceIte, beq_self_eq_true, Bool.true_or, Bool.and_self, Nat.reduceAdd, Nat.reduceSub, Nat.reduceLT, Nat.reduceLeDiff, Nat.reduceBEq, Nat.reduceEqDiff, Bool.or_true, Bool.false_or, List.mem_cons, List.mem_singleton, true_or, or_true, mh_N, mh_U, mh_T, mh_L, mh_R, mh_J, mh_0, mh_s0, mh_I, mh_s, sa_20, sa_21, sa_22, sa_23, sa_24, sa_25, sa_26, sa_27, sa_28, sa_29, sa_30, sa_31, sa_32, sa_33, sa_34, sa_35, sa_36, sa_37, sa_38, sa_39, sa_40, sa_41, sa_42, sa_43, sa_44, sa_45, sa_46, sa_47, sa_48, sa_49, sa_50, sa_51, sa_52, sa_70, sa_71, sa_72, sa_73, sa_74, sa_75, sa_76, sa_77, sa_78, sa_79, sa_80, sa_81, sa_82, sa_83, sa_84, sa_85, sa_86, sa_87, sa_88, sa_89, sa_90, sa_91, sa_92, sa_93, sa_94, sa_95, sa_96, sa_97, sa_98, sa_99, sa_100, sa_101, decide_eq_false_iff_not]
    refine k2 _ _ ?_
    refine s_for (fun i σ h' => σ = [.ref M, .int (nI a), .int (nI (i + 1))] ∧ h' = mh h M f ∧ okR P (row.take i)) 0 row.length (by omega) (by omega) ⟨rfl, rfl, fun s hs => by simp at hs⟩ ?_ ?_
    · rintro i σ h' hi ⟨rfl, rfl, hk⟩
      have hc : g (a + (i + 1)) = row.getD i 0 := by rw [← hr.2 i hi]; congr 1; omega
      obtain ⟨hsgc, hcap⟩ := hsg _ (getD_mem hi)
      have hcg := getD_some hi
      generalize hcc : row.getD i 0 = c at *
      have hc122 : c ≤ 122 := by unfold SG at hsgc; omega
      refine wpe_to true (mh h M f) ?_ ⟨rfl, ?_⟩
      · simp (disch := omega) only [m_mth, s_sk, s_brk, s_cnt, s_sq, s_if, s_rtn, s_rtnU, s_E, s_I1, s_R1, s_J1, s_Inc, s_h2, s_h3, s_u2, s_u3, e_C, e_h1, e_h2, e_lI, e_lJ, e_lR, e_if, e_and, e_or, e_not, a_nil, a_I, a_J, a_R, e_kS, e_kV, e_kN, e_nA, ok_some, ok_none, ok_bind, ok_guard, ok_guardN, asI_int, asJ_long, asR_ref, asR_rf, asR_null, entL, ent, sto, sto2, ok1, Value.category, va_rf, List.length_cons, List.length_nil, List.length_append, List.length_replicate, List.nil_append, List.cons_append, List.append_nil, List.replicate_succ, List.replicate_zero, List.getElem?_cons_zero, List.getElem?_cons_succ, List.set_cons_zero, List.set_cons_succ, gI, gJ, gR, pI, pJ, pR, aI, aJ, aR, aL, stI, stB, stZ, stJ, uF, uA, Option.bind_some, iaddF, isubF, imulF, iandF, iorF, ixorF, ishlF, ishrF, iushrF, inegF, i2bF, i2lF, l2iF, c_eq, c_ne, c_lt, c_le, c_gt, c_ge, z_eq, z_ne, z_lt, z_le, z_gt, z_ge, j_eq, j_ne, j_gt, n_nul, n_non, tt, zz, hN_u, hU_u, hT_u, hL_u, hI_u, hJ_u, hR_u, sI_u, decide_eq_true_eq, true_and, and_true, if_true, reduceIte, beq_self_eq_true, Bool.true_or, Bool.and_self, Nat.reduceAdd, Nat.reduceSub, Nat.reduceLT, Nat.reduceLeDiff, Nat.reduceBEq, Nat.reduceEqDiff, Bool.or_true, Bool.false_or, List.mem_cons, List.mem_singleton, true_or, or_true, mh_N, mh_U, mh_T, mh_L, mh_R, mh_J, mh_0, mh_s0, mh_I, mh_s, sa_20, sa_21, sa_22, sa_23, sa_24, sa_25, sa_26, sa_27, sa_28, sa_29, sa_30, sa_31, sa_32, sa_33, sa_34, sa_35, sa_36, sa_37, sa_38, sa_39, sa_40, sa_41, sa_42, sa_43, sa_44, sa_45, sa_46, sa_47, sa_48, sa_49, sa_50, sa_51, sa_52, sa_70, sa_71, sa_72, sa_73, sa_74, sa_75, sa_76, sa_77, sa_78, sa_79, sa_80, sa_81, sa_82, sa_83, sa_84, sa_85, sa_86, sa_87, sa_88, sa_89, sa_90, sa_91, sa_92, sa_93, sa_94, sa_95, sa_96, sa_97, sa_98, sa_99, sa_100, sa_101, decide_eq_false_iff_not, H.1, mr_now H, mt_now H, ml_now H, nI_clamp, nI_pos, nI_add, pk_mul, nI_ltI, nI_leI, not_false_eq_true, hg _, hr.1] <;> omega
      refine hid fun N0 B0 C0 R0 kN kB kC kR => ?_
      have fin : okR P (row.take (i + 1)) → N0 [.ref M, .int (nI a), .int (nI (i + 1))] (mh h M f) := by
        intro hok
        refine kN _ _ (hid fun N3 B3 C3 R3 kN3 kB3 kC3 kR3 => ?_)
        simp only [m_mth, s_sk, s_brk, s_cnt, s_sq, s_if, s_rtn, s_rtnU, s_E, s_I1, s_R1, s_J1, s_Inc, s_h2, s_h3, s_u2, s_u3, e_C, e_h1, e_h2, e_lI, e_lJ, e_lR, e_if, e_and, e_or, e_not, a_nil, a_I, a_J, a_R, e_kS, e_kV, e_kN, e_nA, ok_some, ok_none, ok_bind, ok_guard, ok_guardN, asI_int, asJ_long, asR_ref, asR_rf, asR_null, entL, ent, sto, sto2, ok1, Value.category, va_rf, List.length_cons, List.length_nil, List.length_append, List.length_replicate, List.nil_append, List.cons_append, List.append_nil, List.replicate_succ, List.replicate_zero, List.getElem?_cons_zero, List.getElem?_cons_succ, List.set_cons_zero, List.set_cons_succ, gI, gJ, gR, pI, pJ, pR, aI, aJ, aR, aL, stI, stB, stZ, stJ, uF, uA, Option.bind_some, iaddF, isubF, imulF, iandF, iorF, ixorF, ishlF, ishrF, iushrF, inegF, i2bF, i2lF, l2iF, c_eq, c_ne, c_lt, c_le, c_gt, c_ge, z_eq, z_ne, z_lt, z_le, z_gt, z_ge, j_eq, j_ne, j_gt, n_nul, n_non, tt, zz, hN_u, hU_u, hT_u, hL_u, hI_u, hJ_u, hR_u, sI_u, decide_eq_true_eq, true_and, and_true, if_true, reduceIte, beq_self_eq_true, Bool.true_or, Bool.and_self, Nat.reduceAdd, Nat.reduceSub, Nat.reduceLT, Nat.reduceLeDiff, Nat.reduceBEq, Nat.reduceEqDiff, Bool.or_true, Bool.false_or, List.mem_cons, List.mem_singleton, true_or, or_true, mh_N, mh_U, mh_T, mh_L, mh_R, mh_J, mh_0, mh_s0, mh_I, mh_s, sa_20, sa_21, sa_22, sa_23, sa_24, sa_25, sa_26, sa_27, sa_28, sa_29, sa_30, sa_31, sa_32, sa_33, sa_34, sa_35, sa_36, sa_37, sa_38, sa_39, sa_40, sa_41, sa_42, sa_43, sa_44, sa_45, sa_46, sa_47, sa_48, sa_49, sa_50, sa_51, sa_52, sa_70, sa_71, sa_72, sa_73, sa_74, sa_75, sa_76, sa_77, sa_78, sa_79, sa_80, sa_81, sa_82, sa_83, sa_84, sa_85, sa_86, sa_87, sa_88, sa_89, sa_90, sa_91, sa_92, sa_93, sa_94, sa_95, sa_96, sa_97, sa_98, sa_99, sa_100, sa_101, decide_eq_false_iff_not, nI_add]
        exact kN3 _ _ ⟨rfl, rfl, hok⟩
      by_cases hcp : cap c = true
      · obtain ⟨m, hm⟩ := hcap hcp
        have hml := (mI_lt hm).1
        have hmc := (mI_lt hm).2
        rw [nmL_len] at hml
        have hPm := hP m hml
        rw [hmc] at hPm
        have hcp' := cap_iff.mp hcp
        by_cases hpc : P c = true
        · refine s_ifF (h' := mh h M f) ?_ ?_
          · simp (disch := omega) only [m_mth, s_sk, s_brk, s_cnt, s_sq, s_if, s_rtn, s_rtnU, s_E, s_I1, s_R1, s_J1, s_Inc, s_h2, s_h3, s_u2, s_u3, e_C, e_h1, e_h2, e_lI, e_lJ, e_lR, e_if, e_and, e_or, e_not, a_nil, a_I, a_J, a_R, e_kS, e_kV, e_kN, e_nA, ok_some, ok_none, ok_bind, ok_guard, ok_guardN, asI_int, asJ_long, asR_ref, asR_rf, asR_null, entL, ent, sto, sto2, ok1, Value.category, va_rf, List.length_cons, List.length_nil, List.length_append, List.length_replicate, List.nil_append, List.cons_append, List.append_nil, List.replicate_succ, List.replicate_zero, List.getElem?_cons_zero, List.getElem?_cons_succ, List.set_cons_zero, List.set_cons_succ, gI, gJ, gR, pI, pJ, pR, aI, aJ, aR, aL, stI, stB, stZ, stJ, uF, uA, Option.bind_some, iaddF, isubF, imulF, iandF, iorF, ixorF, ishlF, ishrF, iushrF, inegF, i2bF, i2lF, l2iF, c_eq, c_ne, c_lt, c_le, c_gt, c_ge, z_eq, z_ne, z_lt, z_le, z_gt, z_ge, j_eq, j_ne, j_gt, n_nul, n_non, tt, zz, hN_u, hU_u, hT_u, hL_u, hI_u, hJ_u, hR_u, sI_u, decide_eq_true_eq, true_and, and_true, if_true, reduceIte, beq_self_eq_true, Bool.true_or, Bool.and_self, Nat.reduceAdd, Nat.reduceSub, Nat.reduceLT, Nat.reduceLeDiff, Nat.reduceBEq, Nat.reduceEqDiff, Bool.or_true, Bool.false_or, List.mem_cons, List.mem_singleton, true_or, or_true, mh_N, mh_U, mh_T, mh_L, mh_R, mh_J, mh_0, mh_s0, mh_I, mh_s, sa_20, sa_21, sa_22, sa_23, sa_24, sa_25, sa_26, sa_27, sa_28, sa_29, sa_30, sa_31, sa_32, sa_33, sa_34, sa_35, sa_36, sa_37, sa_38, sa_39, sa_40, sa_41, sa_42, sa_43, sa_44, sa_45, sa_46, sa_47, sa_48, sa_49, sa_50, sa_51, sa_52, sa_70, sa_71, sa_72, sa_73, sa_74, sa_75, sa_76, sa_77, sa_78, sa_79, sa_80, sa_81, sa_82, sa_83, sa_84, sa_85, sa_86, sa_87, sa_88, sa_89, sa_90, sa_91, sa_92, sa_93, sa_94, sa_95, sa_96, sa_97, sa_98, sa_99, sa_100, sa_101, decide_eq_false_iff_not, H.1, mr_now H, mt_now H, ml_now H, mr_comesOut H, mt_comesOut H, ml_comesOut H, nI_clamp, nI_pos, nI_add, pk_mul, nI_ltI, nI_leI, not_false_eq_true, hg _, hc, wpm_eq q_isCapital, hcp', and_self, show ¬ nI 1 = 0 by decide, decide_true, wpm_eq (q_meta H hg hms.1 (show c < 2 ^ 31 by omega)), hm, oI, hPm, hpc, bI, Bool.not_true]
            omega
          · refine s_sk.mpr (fin ?_)
            rw [take_snoc hcg]
            intro s hs hcs
            rcases List.mem_append.mp hs with z | z
            · exact hk s z hcs
            · rw [List.mem_singleton] at z; rw [z]; exact hpc
        · refine s_ifT (h' := mh h M f) ?_ ?_
          · have hpc : P c = false := by simpa using hpc
            simp (disch := omega) only [m_mth, s_sk, s_brk, s_cnt, s_sq, s_if, s_rtn, s_rtnU, s_E, s_I1, s_R1, s_J1, s_Inc, s_h2, s_h3, s_u2, s_u3, e_C, e_h1, e_h2, e_lI, e_lJ, e_lR, e_if, e_and, e_or, e_not, a_nil, a_I, a_J, a_R, e_kS, e_kV, e_kN, e_nA, ok_some, ok_none, ok_bind, ok_guard, ok_guardN, asI_int, asJ_long, asR_ref, asR_rf, asR_null, entL, ent, sto, sto2, ok1, Value.category, va_rf, List.length_cons, List.length_nil, List.length_append, List.length_replicate, List.nil_append, List.cons_append, List.append_nil, List.replicate_succ, List.replicate_zero, List.getElem?_cons_zero, List.getElem?_cons_succ, List.set_cons_zero, List.set_cons_succ, gI, gJ, gR, pI, pJ, pR, aI, aJ, aR, aL, stI, stB, stZ, stJ, uF, uA, Option.bind_some, iaddF, isubF, imulF, iandF, iorF, ixorF, ishlF, ishrF, iushrF, inegF, i2bF, i2lF, l2iF, c_eq, c_ne, c_lt, c_le, c_gt, c_ge, z_eq, z_ne, z_lt, z_le, z_gt, z_ge, j_eq, j_ne, j_gt, n_nul, n_non, tt, zz, hN_u, hU_u, hT_u, hL_u, hI_u, hJ_u, hR_u, sI_u, decide_eq_true_eq, true_and, and_true, if_true, reduceIte, beq_self_eq_true, Bool.true_or, Bool.and_self, Nat.reduceAdd, Nat.reduceSub, Nat.reduceLT, Nat.reduceLeDiff, Nat.reduceBEq, Nat.reduceEqDiff, Bool.or_true, Bool.false_or, List.mem_cons, List.mem_singleton, true_or, or_true, mh_N, mh_U, mh_T, mh_L, mh_R, mh_J, mh_0, mh_s0, mh_I, mh_s, sa_20, sa_21, sa_22, sa_23, sa_24, sa_25, sa_26, sa_27, sa_28, sa_29, sa_30, sa_31, sa_32, sa_33, sa_34, sa_35, sa_36, sa_37, sa_38, sa_39, sa_40, sa_41, sa_42, sa_43, sa_44, sa_45, sa_46, sa_47, sa_48, sa_49, sa_50, sa_51, sa_52, sa_70, sa_71, sa_72, sa_73, sa_74, sa_75, sa_76, sa_77, sa_78, sa_79, sa_80, sa_81, sa_82, sa_83, sa_84, sa_85, sa_86, sa_87, sa_88, sa_89, sa_90, sa_91, sa_92, sa_93, sa_94, sa_95, sa_96, sa_97, sa_98, sa_99, sa_100, sa_101, decide_eq_false_iff_not, H.1, mr_now H, mt_now H, ml_now H, mr_comesOut H, mt_comesOut H, ml_comesOut H, nI_clamp, nI_pos, nI_add, pk_mul, nI_ltI, nI_leI, not_false_eq_true, hg _, hc, wpm_eq q_isCapital, hcp', and_self, show ¬ nI 1 = 0 by decide, decide_true, wpm_eq (q_meta H hg hms.1 (show c < 2 ^ 31 by omega)), hm, oI, hPm, hpc, bI, Bool.false_eq_true, if_false, nI_0, not_true_eq_false, decide_false, Bool.not_false]
            omega
          · simp only [m_mth, s_sk, s_brk, s_cnt, s_sq, s_if, s_rtn, s_rtnU, s_E, s_I1, s_R1, s_J1, s_Inc, s_h2, s_h3, s_u2, s_u3, e_C, e_h1, e_h2, e_lI, e_lJ, e_lR, e_if, e_and, e_or, e_not, a_nil, a_I, a_J, a_R, e_kS, e_kV, e_kN, e_nA, ok_some, ok_none, ok_bind, ok_guard, ok_guardN, asI_int, asJ_long, asR_ref, asR_rf, asR_null, entL, ent, sto, sto2, ok1, Value.category, va_rf, List.length_cons, List.length_nil, List.length_append, List.length_replicate, List.nil_append, List.cons_append, List.append_nil, List.replicate_succ, List.replicate_zero, List.getElem?_cons_zero, List.getElem?_cons_succ, List.set_cons_zero, List.set_cons_succ, gI, gJ, gR, pI, pJ, pR, aI, aJ, aR, aL, stI, stB, stZ, stJ, uF, uA, Option.bind_some, iaddF, isubF, imulF, iandF, iorF, ixorF, ishlF, ishrF, iushrF, inegF, i2bF, i2lF, l2iF, c_eq, c_ne, c_lt, c_le, c_gt, c_ge, z_eq, z_ne, z_lt, z_le, z_gt, z_ge, j_eq, j_ne, j_gt, n_nul, n_non, tt, zz, hN_u, hU_u, hT_u, hL_u, hI_u, hJ_u, hR_u, sI_u, decide_eq_true_eq, true_and, and_true, if_true, reduceIte, beq_self_eq_true, Bool.true_or, Bool.and_self, Nat.reduceAdd, Nat.reduceSub, Nat.reduceLT, Nat.reduceLeDiff, Nat.reduceBEq, Nat.reduceEqDiff, Bool.or_true, Bool.false_or, List.mem_cons, List.mem_singleton, true_or, or_true, mh_N, mh_U, mh_T, mh_L, mh_R, mh_J, mh_0, mh_s0, mh_I, mh_s, sa_20, sa_21, sa_22, sa_23, sa_24, sa_25, sa_26, sa_27, sa_28, sa_29, sa_30, sa_31, sa_32, sa_33, sa_34, sa_35, sa_36, sa_37, sa_38, sa_39, sa_40, sa_41, sa_42, sa_43, sa_44, sa_45, sa_46, sa_47, sa_48, sa_49, sa_50, sa_51, sa_52, sa_70, sa_71, sa_72, sa_73, sa_74, sa_75, sa_76, sa_77, sa_78, sa_79, sa_80, sa_81, sa_82, sa_83, sa_84, sa_85, sa_86, sa_87, sa_88, sa_89, sa_90, sa_91, sa_92, sa_93, sa_94, sa_95, sa_96, sa_97, sa_98, sa_99, sa_100, sa_101, decide_eq_false_iff_not]
            refine kR _ _ ⟨by decide, false, ⟨fun z => (by cases z), fun z => absurd (z c (by rw [← hcc]; exact getD_mem hi) hcp) hpc⟩, rfl, rfl⟩
      · have hcp' := mt cap_iff.mpr hcp
        refine s_ifF (h' := mh h M f) ?_ ?_
        · simp (disch := omega) only [m_mth, s_sk, s_brk, s_cnt, s_sq, s_if, s_rtn, s_rtnU, s_E, s_I1, s_R1, s_J1, s_Inc, s_h2, s_h3, s_u2, s_u3, e_C, e_h1, e_h2, e_lI, e_lJ, e_lR, e_if, e_and, e_or, e_not, a_nil, a_I, a_J, a_R, e_kS, e_kV, e_kN, e_nA, ok_some, ok_none, ok_bind, ok_guard, ok_guardN, asI_int, asJ_long, asR_ref, asR_rf, asR_null, entL, ent, sto, sto2, ok1, Value.category, va_rf, List.length_cons, List.length_nil, List.length_append, List.length_replicate, List.nil_append, List.cons_append, List.append_nil, List.replicate_succ, List.replicate_zero, List.getElem?_cons_zero, List.getElem?_cons_succ, List.set_cons_zero, List.set_cons_succ, gI, gJ, gR, pI, pJ, pR, aI, aJ, aR, aL, stI, stB, stZ, stJ, uF, uA, Option.bind_some, iaddF, isubF, imulF, iandF, iorF, ixorF, ishlF, ishrF, iushrF, inegF, i2bF, i2lF, l2iF, c_eq, c_ne, c_lt, c_le, c_gt, c_ge, z_eq, z_ne, z_lt, z_le, z_gt, z_ge, j_eq, j_ne, j_gt, n_nul, n_non, tt, zz, hN_u, hU_u, hT_u, hL_u, hI_u, hJ_u, hR_u, sI_u, decide_eq_true_eq, true_and, and_true, if_true, reduceIte, beq_self_eq_true, Bool.true_or, Bool.and_self, Nat.reduceAdd, Nat.reduceSub, Nat.reduceLT, Nat.reduceLeDiff, Nat.reduceBEq, Nat.reduceEqDiff, Bool.or_true, Bool.false_or, List.mem_cons, List.mem_singleton, true_or, or_true, mh_N, mh_U, mh_T, mh_L, mh_R, mh_J, mh_0, mh_s0, mh_I, mh_s, sa_20, sa_21, sa_22, sa_23, sa_24, sa_25, sa_26, sa_27, sa_28, sa_29, sa_30, sa_31, sa_32, sa_33, sa_34, sa_35, sa_36, sa_37, sa_38, sa_39, sa_40, sa_41, sa_42, sa_43, sa_44, sa_45, sa_46, sa_47, sa_48, sa_49, sa_50, sa_51, sa_52, sa_70, sa_71, sa_72, sa_73, sa_74, sa_75, sa_76, sa_77, sa_78, sa_79, sa_80, sa_81, sa_82, sa_83, sa_84, sa_85, sa_86, sa_87, sa_88, sa_89, sa_90, sa_91, sa_92, sa_93, sa_94, sa_95, sa_96, sa_97, sa_98, sa_99, sa_100, sa_101, decide_eq_false_iff_not, H.1, mr_now H, mt_now H, ml_now H, mr_comesOut H, mt_comesOut H, ml_comesOut H, nI_clamp, nI_pos, nI_add, pk_mul, nI_ltI, nI_leI, not_false_eq_true, hg _, hc, wpm_eq q_isCapital, hcp', if_false, nI_0, not_true_eq_false, decide_false, Bool.false_eq_true]
          omega
        · refine s_sk.mpr (fin ?_)
          rw [take_snoc hcg]
          intro s hs hcs
          rcases List.mem_append.mp hs with z | z
          · exact hk s z hcs
          · rw [List.mem_singleton] at z; rw [z] at hcs; exact absurd hcs hcp
    · rintro σ h' ⟨rfl, rfl, hk⟩
      refine wpe_to false (mh h M f) ?_ ⟨rfl, ?_⟩
      · simp (disch := omega) only [m_mth, s_sk, s_brk, s_cnt, s_sq, s_if, s_rtn, s_rtnU, s_E, s_I1, s_R1, s_J1, s_Inc, s_h2, s_h3, s_u2, s_u3, e_C, e_h1, e_h2, e_lI, e_lJ, e_lR, e_if, e_and, e_or, e_not, a_nil, a_I, a_J, a_R, e_kS, e_kV, e_kN, e_nA, ok_some, ok_none, ok_bind, ok_guard, ok_guardN, asI_int, asJ_long, asR_ref, asR_rf, asR_null, entL, ent, sto, sto2, ok1, Value.category, va_rf, List.length_cons, List.length_nil, List.length_append, List.length_replicate, List.nil_append, List.cons_append, List.append_nil, List.replicate_succ, List.replicate_zero, List.getElem?_cons_zero, List.getElem?_cons_succ, List.set_cons_zero, List.set_cons_succ, gI, gJ, gR, pI, pJ, pR, aI, aJ, aR, aL, stI, stB, stZ, stJ, uF, uA, Option.bind_some, iaddF, isubF, imulF, iandF, iorF, ixorF, ishlF, ishrF, iushrF, inegF, i2bF, i2lF, l2iF, c_eq, c_ne, c_lt, c_le, c_gt, c_ge, z_eq, z_ne, z_lt, z_le, z_gt, z_ge, j_eq, j_ne, j_gt, n_nul, n_non, tt, zz, hN_u, hU_u, hT_u, hL_u, hI_u, hJ_u, hR_u, sI_u, decide_eq_true_eq, true_and, and_true, if_true, reduceIte, beq_self_eq_true, Bool.true_or, Bool.and_self, Nat.reduceAdd, Nat.reduceSub, Nat.reduceLT, Nat.reduceLeDiff, Nat.reduceBEq, Nat.reduceEqDiff, Bool.or_true, Bool.false_or, List.mem_cons, List.mem_singleton, true_or, or_true, mh_N, mh_U, mh_T, mh_L, mh_R, mh_J, mh_0, mh_s0, mh_I, mh_s, sa_20, sa_21, sa_22, sa_23, sa_24, sa_25, sa_26, sa_27, sa_28, sa_29, sa_30, sa_31, sa_32, sa_33, sa_34, sa_35, sa_36, sa_37, sa_38, sa_39, sa_40, sa_41, sa_42, sa_43, sa_44, sa_45, sa_46, sa_47, sa_48, sa_49, sa_50, sa_51, sa_52, sa_70, sa_71, sa_72, sa_73, sa_74, sa_75, sa_76, sa_77, sa_78, sa_79, sa_80, sa_81, sa_82, sa_83, sa_84, sa_85, sa_86, sa_87, sa_88, sa_89, sa_90, sa_91, sa_92, sa_93, sa_94, sa_95, sa_96, sa_97, sa_98, sa_99, sa_100, sa_101, decide_eq_false_iff_not, H.1, mr_now H, mt_now H, ml_now H, nI_clamp, nI_pos, nI_add, pk_mul, nI_ltI, nI_leI, not_false_eq_true, hg _, hr.1] <;> omega
      refine k1 _ _ (hid fun N3 B3 C3 R3 kN3 kB3 kC3 kR3 => ?_)
      simp only [m_mth, s_sk, s_brk, s_cnt, s_sq, s_if, s_rtn, s_rtnU, s_E, s_I1, s_R1, s_J1, s_Inc, s_h2, s_h3, s_u2, s_u3, e_C, e_h1, e_h2, e_lI, e_lJ, e_lR, e_if, e_and, e_or, e_not, a_nil, a_I, a_J, a_R, e_kS, e_kV, e_kN, e_nA, ok_some, ok_none, ok_bind, ok_guard, ok_guardN, asI_int, asJ_long, asR_ref, asR_rf, asR_null, entL, ent, sto, sto2, ok1, Value.category, va_rf, List.length_cons, List.length_nil, List.length_append, List.length_replicate, List.nil_append, List.cons_append, List.append_nil, List.replicate_succ, List.replicate_zero, List.getElem?_cons_zero, List.getElem?_cons_succ, List.set_cons_zero, List.set_cons_succ, gI, gJ, gR, pI, pJ, pR, aI, aJ, aR, aL, stI, stB, stZ, stJ, uF, uA, Option.bind_some, iaddF, isubF, imulF, iandF, iorF, ixorF, ishlF, ishrF, iushrF, inegF, i2bF, i2lF, l2iF, c_eq, c_ne, c_lt, c_le, c_gt, c_ge, z_eq, z_ne, z_lt, z_le, z_gt, z_ge, j_eq, j_ne, j_gt, n_nul, n_non, tt, zz, hN_u, hU_u, hT_u, hL_u, hI_u, hJ_u, hR_u, sI_u, decide_eq_true_eq, true_and, and_true, if_true, reduceIte, beq_self_eq_true, Bool.true_or, Bool.and_self, Nat.reduceAdd, Nat.reduceSub, Nat.reduceLT, Nat.reduceLeDiff, Nat.reduceBEq, Nat.reduceEqDiff, Bool.or_true, Bool.false_or, List.mem_cons, List.mem_singleton, true_or, or_true, mh_N, mh_U, mh_T, mh_L, mh_R, mh_J, mh_0, mh_s0, mh_I, mh_s, sa_20, sa_21, sa_22, sa_23, sa_24, sa_25, sa_26, sa_27, sa_28, sa_29, sa_30, sa_31, sa_32, sa_33, sa_34, sa_35, sa_36, sa_37, sa_38, sa_39, sa_40, sa_41, sa_42, sa_43, sa_44, sa_45, sa_46, sa_47, sa_48, sa_49, sa_50, sa_51, sa_52, sa_70, sa_71, sa_72, sa_73, sa_74, sa_75, sa_76, sa_77, sa_78, sa_79, sa_80, sa_81, sa_82, sa_83, sa_84, sa_85, sa_86, sa_87, sa_88, sa_89, sa_90, sa_91, sa_92, sa_93, sa_94, sa_95, sa_96, sa_97, sa_98, sa_99, sa_100, sa_101, decide_eq_false_iff_not]
      rw [List.take_length] at hk
      exact kR3 _ _ ⟨by decide, true, ⟨fun _ => hk, fun _ => rfl⟩, rfl, rfl⟩)
  exact ⟨b, q, e⟩
