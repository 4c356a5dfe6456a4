/-! ===== the class: Search.triesFrees, from one word to the next ===== -/
theorem FrF.rf {FB N lvl k : Nat} {nm fs : List Nat} {h : AH} : FrF FB N lvl nm fs k h h := ⟨⟨rfl, rfl, rfl⟩, fun _ _ => ⟨rfl, rfl, rfl⟩, fun _ _ _ => ⟨rfl, rfl⟩, fun _ _ => rfl⟩
theorem FrF.tr {FB N lvl k : Nat} {nm fs : List Nat} {h h1 h2 : AH} (a : FrF FB N lvl nm fs k h h1) (b : FrF FB N lvl nm fs k h1 h2) : FrF FB N lvl nm fs k h h2 := by
  obtain ⟨a1, a2, a3, a4⟩ := a
  obtain ⟨b1, b2, b3, b4⟩ := b
  exact ⟨⟨b1.1.trans a1.1, b1.2.1.trans a1.2.1, b1.2.2.trans a1.2.2⟩, fun c hc => ⟨(b2 c hc).1.trans (a2 c hc).1, (b2 c hc).2.1.trans (a2 c hc).2.1, (b2 c hc).2.2.trans (a2 c hc).2.2⟩, fun c h1 h2 => ⟨(b3 c h1 h2).1.trans (a3 c h1 h2).1, (b3 c h1 h2).2.trans (a3 c h1 h2).2⟩, fun j hj => (b4 j hj).trans (a4 j hj)⟩
theorem FrF.w {FB N lvl k k' : Nat} {nm fs fs' : List Nat} {h h' : AH} (a : FrF FB N lvl nm fs k h h') (hf : ∀ c ∈ fs, c ∈ fs') (hk : k' ≤ k) : FrF FB N lvl nm fs' k' h h' := ⟨a.1, a.2.1, fun c h1 h2 => a.2.2.1 c h1 (fun z => h2 (hf c z)), fun j hj => a.2.2.2 j (by omega)⟩
/-- what stays of the FREE ones that are put -/
theorem FrS_F {S FB N C ix lvl f m : Nat} {nm hd w : List Nat} {e : EnvA} {H : Nat → List (List Nat)} {ch : ChoT} {pre : List (Nat × Nat)} {fs : List Nat} {h h' : AH} (q : FrS S FB N C ix lvl f m nm hd w e H ch pre h) (k : Gk h h') (hent : hR h' (S + 2) ix = some N) (F : FrF FB N lvl nm fs pre.length h h') (hdn : ∀ c ∈ hd, cap c = true → c ∈ nm ∧ c ∉ fs) (hpn : ∀ j, j < pre.length → (pre.getD j (0, 0)).1 ∈ nm ∧ (pre.getD j (0, 0)).1 ∉ fs) : FrS S FB N C ix lvl f m nm hd w e H ch pre h' := by
  obtain ⟨q1, q2, q3, q4, q5, q6, q7, q8⟩ := q
  obtain ⟨F1, F2, F3, F4⟩ := F
  refine ⟨hent, by rw [F1.1]; exact q2, by rw [F1.1]; exact q3, by rw [F1.1]; exact q4, CcAt_k q5 k, fun c hc hcap => ?_, q7, fun j hj => ⟨?_, by rw [F4 j hj]; exact (q8 j hj).2⟩⟩
  · obtain ⟨⟨a1, a2⟩, a3⟩ := q6 c hc hcap
    obtain ⟨n1, n2⟩ := hdn c hc hcap
    obtain ⟨b1, b2⟩ := F3 c n1 n2
    exact ⟨⟨b1.trans a1, b2.trans a2⟩, a3⟩
  · obtain ⟨a1, a2⟩ := (q8 j hj).1
    obtain ⟨n1, n2⟩ := hpn j hj
    obtain ⟨b1, b2⟩ := F3 _ n1 n2
    exact ⟨b1.trans a1, b2.trans a2⟩
