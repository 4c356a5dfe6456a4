/-! ===== the law: class and reference side by side ===== -/
def JS (O M : Nat) (st : Stt) (h : AH) : Prop := ∃ Γ f, CI Γ O st h ∧ MOK h M ∧ (∀ k, k ≤ 32 → f k = hI h (M + k)) ∧ MS f st
theorem MT_s : ∀ q ∈ MT, 70 ≤ q.2.2.1 ∧ q.2.2.1 ≤ 101 := by decide
theorem MOK_t {h : AH} {M k : Nat} (H : MOK h M) (hk : k ≤ 32) : hT h (M + k) = 13 ∨ (70 ≤ hT h (M + k) ∧ hT h (M + k) ≤ 101) := by
  by_cases z : k = 0
  · rw [z, Nat.add_zero]; exact Or.inl H.1
  · have h1 : k - 1 < 32 := by omega
    have e := MT_ok (k - 1) h1
    have hm : MT.getD (k - 1) (0, 0, 0, 0) ∈ MT := by
      rw [List.getD_eq_getElem?_getD, List.getElem?_eq_getElem (show k - 1 < MT.length from h1)]; exact List.getElem_mem _
    have t := (H.2 _ hm).2.1
    rw [e, show k - 1 + 1 = k by omega] at t
    rw [t]
    exact Or.inr (MT_s _ hm)
theorem MOK_le {h h' : AH} {M : Nat} {w : List Nat} (H : MOK h M) (wf : WF h) (l : Le w h h') (hw : ∀ s ∈ w, s ≠ 13 ∧ s < 70) : MOK h' M ∧ ∀ k, k ≤ 32 → hI h' (M + k) = hI h (M + k) := by
  have nt : ∀ k, k ≤ 32 → M + k < hN h ∧ hT h (M + k) ∉ w := fun k hk => by
    have t := MOK_t H hk
    exact ⟨wf _ (by omega), fun y => by have := hw _ y; omega⟩
  refine ⟨⟨?_, fun q hq => ?_⟩, fun k hk => ?_⟩
  · have := nt 0 (by omega)
    rw [Nat.add_zero] at this
    exact (l.2.2.1 M this.1).1.trans H.1
  · have hq2 : q.2.1 ≤ 32 := by
      have : ∀ q ∈ MT, q.2.1 ≤ 32 := by decide
      exact this q hq
    have a := nt 0 (by omega)
    rw [Nat.add_zero] at a
    have b := nt q.2.1 hq2
    obtain ⟨x1, x2, x3⟩ := H.2 q hq
    have l0 := (l.2.2.1 M a.1).2.2 a.2
    have l1 := l.2.2.1 (M + q.2.1) b.1
    exact ⟨by rw [l0.2.2]; exact x1, l1.1.trans x2, l1.2.1.trans x3⟩
  · have a := nt k hk
    exact ((l.2.2.1 (M + k) a.1).2.2 a.2).1
theorem CI_mh {Γ : Nat → List Nat × Alts} {O M : Nat} {st : Stt} {h : AH} {f : Nat → Nat → Int32} (q : CI Γ O st h) (H : MOK h M) : CI Γ O st (mh h M f) ∧ Rm O 0 0 h (mh h M f) := by
  have wf := CI_wf q
  have z : Fz (fun a => M ≤ a ∧ a ≤ M + 32) h (mh h M f) := ⟨rfl, rfl, rfl, rfl, fun a ha => ⟨mh_out (by
    have ha : ¬ (M ≤ a ∧ a ≤ M + 32) := ha
    omega), rfl, rfl⟩⟩
  have := CI_fx q (WF_z wf z) z.fx (fun a ha => by
    obtain ⟨k, rfl⟩ : ∃ k, a = M + k := ⟨a - M, by have := ha.1; omega⟩
    have t := MOK_t H (k := k) (by have := ha.2; omega)
    generalize hT h (M + k) = s at t
    have key : ∀ s, s < 102 → (s = 13 ∨ (70 ≤ s ∧ s ≤ 101)) → s ∉ FSs ∧ s ∉ GS ∧ s ∉ [5, 12, 20, 23, 24] := by decide
    exact key s (by omega) t)
  exact ⟨this.1, this.2.1⟩
theorem JS_step {O M : Nat} {st st' : Stt} {h : AH} {v : Int32} {w : List Nat} {dT dM : MD Int32} {aT aM : List Value} (q : JS O M st h) (cT : ∀ Γ, CI Γ O st h → ∃ Γ' h', dT aT h = some (v, h') ∧ CI Γ' O st' h' ∧ Rm O 709 3730 h h') (le : ∀ v h', dT aT h = some (v, h') → Le w h h') (hw : ∀ s ∈ w, s ≠ 13 ∧ s < 70) (cM : ∀ h' f, MOK h' M → MS f st → ∃ f', dM aM (mh h' M f) = some (v, mh h' M f') ∧ MS f' st') : ∃ h1 h2, dT aT h = some (v, h1) ∧ hT h1 M = 13 ∧ dM aM h1 = some (v, h2) ∧ JS O M st' h2 ∧ Rm O 709 3730 h h2 := by
  obtain ⟨Γ, f, ci, mok, hf, ms⟩ := q
  obtain ⟨Γ', h1, e1, ci1, rm⟩ := cT Γ ci
  obtain ⟨mok1, mi⟩ := MOK_le mok (CI_wf ci) (le _ _ e1) hw
  have hs : mh h1 M f = h1 := mh_self (fun k hk => by rw [hf k hk, mi k hk])
  obtain ⟨f', e2, ms'⟩ := cM h1 f mok1 ms
  rw [hs] at e2
  obtain ⟨c2, r2⟩ := CI_mh (f := f') ci1 mok1
  exact ⟨h1, mh h1 M f', e1, mok1.1, e2, ⟨Γ', f', c2, mh_ok mok1, fun k hk => (mh_I hk).symm, ms'⟩, (rm.tr r2).w (by omega) (by omega)⟩
theorem s_sw2 {ρ : Type} {e : EX Int32} {brs : List (ST ρ × Nat)} {df : ST ρ} {σ : List Value} {h : AH} {N B C : List Value → AH → Prop} {R : ρ → AH → Prop} (v : Int32) (h' : AH) (he : wpe e σ h (fun x h1 => x = v ∧ h1 = h')) (hb : ∀ (i : Nat) (q : ST ρ × Nat), brs[i]? = some q → wps q.1 σ h' Fl N Fl R) (hd : wps df σ h' Fl N Fl R) : wps (sSw e brs df) σ h N B C R := by
  obtain ⟨⟨x, h1⟩, e1, rfl, rfl⟩ := he
  dsimp only at hb hd
  have key : wps (if 0 ≤ x.toInt then (match brs[x.toInt.toNat]? with | some q => q.1 | none => df) else df) σ h1 Fl N Fl R := by
    split
    · split
      · rename_i q hq
        exact hb _ q hq
      · exact hd
    · exact hd
  unfold wps sSw
  rw [e1, Option.bind_some, ok_bind]
  refine ok_mono key ?_
  rintro ⟨o, σ2, h2⟩ q
  match o, q with
  | .inl r, q => exact ok_some.mpr q
  | .inr 0, q => exact q.elim
  | .inr 1, q => exact ok_some.mpr q
  | .inr (_ + 2), q => exact q.elim
theorem e_scr {b L : Nat} {xs : Nat → Int32} {i : EX Int32} {σ : List Value} {h : AH} {Q : Int32 → AH → Prop} : wpe (eScr b L xs i) σ h Q ↔ wpe i σ h (fun x h1 => (σ[0]? = some (.ref b) ∧ ¬ x < 0 ∧ x.toNatClampNeg < L) ∧ Q (xs x.toNatClampNeg) h1) := by
  unfold wpe eScr
  rw [ok_bind]
  constructor
  · rintro ⟨x, e, y⟩
    refine ⟨x, e, ?_⟩
    dsimp only at y ⊢
    by_cases z : σ[0]? = some (.ref b) ∧ ¬ x.1 < 0 ∧ x.1.toNatClampNeg < L
    · rw [if_pos z, ok_some] at y; exact ⟨z, y⟩
    · rw [if_neg z] at y
      obtain ⟨_, y, _⟩ := y
      cases y
  · rintro ⟨x, e, z, y⟩
    refine ⟨x, e, ?_⟩
    dsimp only
    rw [if_pos z, ok_some]; exact y
theorem e_sln {b L : Nat} {σ : List Value} {h : AH} {Q : Int32 → AH → Prop} (s0 : σ[0]? = some (.ref b)) : wpe (eSln b L) σ h Q ↔ Q (nI L) h := by
  unfold wpe eSln
  rw [if_pos s0, ok_some]
theorem Qt_3 {gr : GrT} {f f' : Nat → Nat → Int32} (q : Fr [10, 11, 12] f f') : Qt gr f f' := ⟨fun k hk => q k (fun z => hk (by simp only [List.mem_cons, List.not_mem_nil, or_false] at z ⊢; omega)), fun k _ => by rw [q 0 (by decide)], Or.inl ⟨by rw [q 0 (by decide)], q 13 (by decide), q 14 (by decide), q 15 (by decide)⟩⟩
theorem Qt_c {gr : GrT} {f f' : Nat → Nat → Int32} (q : Fr [0, 18] f f') (q0 : ∀ k, k ≠ 25 → f' 0 k = f 0 k) : Qt gr f f' := ⟨fun k hk => q k (fun z => hk (by simp only [List.mem_cons, List.not_mem_nil, or_false] at z ⊢; omega)), fun k hk => q0 k (fun z => hk (by simp [z])), Or.inl ⟨q0 18 (by decide), q 13 (by decide), q 14 (by decide), q 15 (by decide)⟩⟩
/-- a call of both: the law's branch -/
theorem arm {O M b i : Nat} {h h1 h2 : AH} {v : Int32} {dT dM : MD Int32} {eT eM : List (EX Value)} {aT : List Value} {N : List Value → AH → Prop} {R : Int32 → AH → Prop} (wT : ∀ g : AH, ∀ Q : List Value → AH → Prop, Q aT g → wpa eT [.ref b, .ref O, .ref M, .int (nI i)] g Q) (wM : ∀ g : AH, ∀ Q : List Value → AH → Prop, Q aT g → wpa eM [.ref b, .ref O, .ref M, .int (nI i)] g Q) (tO : hT h O = 12) (e1 : dT (.ref O :: aT) h = some (v, h1)) (tM : hT h1 M = 13) (e2 : dM (.ref M :: aT) h1 = some (v, h2)) (kk : N [.ref b, .ref O, .ref M, .int (nI i)] h2) : wps (sq (sIf (eh2 c_ne (kV 12 dT (lR 1) eT) (kV 13 dM (lR 2) eM)) (rtn (eC (nI 0))) sk) brk) [.ref b, .ref O, .ref M, .int (nI i)] h Fl N Fl R := by
  refine seq fun N1 k1 => s_ifF (h' := h2) ?_ (s_sk.mpr (k1 _ _ (s_brk.mpr kk)))
  have t1 : wpe (kV 12 dT (lR 1) eT) [.ref b, .ref O, .ref M, .int (nI i)] h (fun x g => x = v ∧ g = h1) := by
    rw [e_kV, e_lR]
    simp only [List.getElem?_cons_succ, List.getElem?_cons_zero, ok_some, asR_ref]
    exact wT h _ ⟨tO, (wpm_eq e1).mpr ⟨rfl, rfl⟩⟩
  have t2 : wpe (kV 13 dM (lR 2) eM) [.ref b, .ref O, .ref M, .int (nI i)] h1 (fun x g => x = v ∧ g = h2) := by
    rw [e_kV, e_lR]
    simp only [List.getElem?_cons_succ, List.getElem?_cons_zero, ok_some, asR_ref]
    exact wM h1 _ ⟨tM, (wpm_eq e2).mpr ⟨rfl, rfl⟩⟩
  refine e_h2.mpr (wpe_to _ _ t1 (wpe_to _ _ t2 ?_))
  show ok (some (decide (¬ v = v))) _
  rw [ok_some]
  exact ⟨decide_eq_false (fun y => y rfl), rfl⟩
