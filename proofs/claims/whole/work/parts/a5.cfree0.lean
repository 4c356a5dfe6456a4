/-! ===== the class: what FREE ones stand for, before they are tried ===== -/
theorem frs_nd2 {hd : List Nat} : ∀ (l acc : List Nat), acc.Nodup → (l.foldl (frsF hd) acc).Nodup
  | [], acc, h => h
  | x :: l, acc, h => by
    rw [List.foldl_cons]
    refine frs_nd2 l _ ?_
    unfold frsF
    split
    · rename_i z
      refine List.nodup_append.mpr ⟨h, List.nodup_cons.mpr ⟨List.not_mem_nil, List.nodup_nil⟩, fun a ha b hb e => ?_⟩
      rw [List.mem_singleton.mp hb] at e
      exact z.2.2 (e ▸ ha)
    · exact h
theorem frs_nodup {hd : List Nat} {ch : ChoT} : (frs hd ch).Nodup := frs_nd2 _ _ List.nodup_nil
/-- a NODE whose FREE ones are tried: those of pre are put -/
def FrS (S FB N C ix lvl f m : Nat) (nm hd w : List Nat) (e : EnvA) (H : Nat → List (List Nat)) (ch : ChoT) (pre : List (Nat × Nat)) (h : AH) : Prop := hR h (S + 2) ix = some N ∧ hI h N 2 = nI lvl ∧ hI h N 4 = nI f ∧ hI h N 5 = nI m ∧ CcAt h C nm hd ch ∧ (∀ c ∈ hd, cap c = true → VAt (fun c => hI h (FB + 7 * lvl + c)) (fun c => hJ h (FB + 7 * lvl + c)) (nm.idxOf c) (splE w e (fwd H []) c) ∧ WL (splE w e (fwd H []) c) ∧ (splE w e (fwd H []) c).length ≤ 10 ∧ (e c).isSome = true) ∧ pre.map (fun x => x.1) = (frs hd ch).take pre.length ∧ ∀ j, j < pre.length → VAt (fun c => hI h (FB + 7 * lvl + c)) (fun c => hJ h (FB + 7 * lvl + c)) (nm.idxOf (pre.getD j (0, 0)).1) ((H (pre.getD j (0, 0)).1).getD (pre.getD j (0, 0)).2 []) ∧ hJ h (N + 1) j = lN (cd ((H (pre.getD j (0, 0)).1).getD (pre.getD j (0, 0)).2 []))
/-- then the MEMBERS whose FREE ones are all among them can be spelled -/
theorem FrS_vl {S FB N C ix lvl f m : Nat} {nm hd w : List Nat} {e : EnvA} {H : Nat → List (List Nat)} {ch ch' : ChoT} {pre : List (Nat × Nat)} {h : AH} (q : FrS S FB N C ix lvl f m nm hd w e H ch pre h) (he : ∀ c, c ∉ hd → e c = none) (hH : ∀ c k, c ∉ hd → WL ((H c).getD k []) ∧ ((H c).getD k []).length ≤ 10) (hsub : ∀ x ∈ ch', ∀ c ∈ x.2, cap c = true → c ∉ hd → c ∈ pre.map (fun x => x.1)) : VlA h (FB + 7 * lvl) nm w e (fwd H pre) ch' := fun x hx c hc hcap => by
  obtain ⟨-, -, -, -, -, q6, -, q8⟩ := q
  by_cases z : c ∈ hd
  · obtain ⟨a1, a2, a3, a4⟩ := q6 c z hcap
    have es : splE w e (fwd H pre) c = splE w e (fwd H []) c := by
      unfold splE
      rw [if_pos hcap, if_pos hcap]
      cases hec : e c with
      | some bn => rfl
      | none => rw [hec] at a4; cases a4
    rw [es]
    exact ⟨a1, a2, a3⟩
  · have hm := hsub x hx c hc hcap z
    have es : splE w e (fwd H pre) c = fwd H pre c := by
      unfold splE
      rw [if_pos hcap, he c z]
    rw [es]
    unfold fwd
    cases hf : pre.find? (fun x => decide (x.1 = c)) with
    | none =>
      obtain ⟨y, y1, y2⟩ := List.mem_map.mp hm
      exact absurd (decide_eq_true y2) (List.find?_eq_none.mp hf y y1)
    | some y =>
      have y0 := List.find?_some hf
      have y1 : y.1 = c := of_decide_eq_true y0
      obtain ⟨j, j1, j2⟩ := mem_getD (d := ((0, 0) : Nat × Nat)) (List.mem_of_find?_eq_some hf)
      have := (q8 j j1).1
      rw [j2, y1] at this
      exact ⟨this, hH c y.2 z⟩
