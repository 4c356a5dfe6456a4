/-! ===== the first twenty: a word comes in ===== -/
theorem Srt_get {X : List (List Nat)} (h : Srt X) {i j : Nat} (hij : i < j) (hj : j < X.length) : cd (X.getD i []) < cd (X.getD j []) := by
  have e1 : X.getD i [] = X[i]'(by omega) := by rw [List.getD_eq_getElem?_getD, List.getElem?_eq_getElem (by omega)]; rfl
  have e2 : X.getD j [] = X[j] := by rw [List.getD_eq_getElem?_getD, List.getElem?_eq_getElem hj]; rfl
  rw [e1, e2]
  exact List.pairwise_iff_getElem.mp h i j (by omega) hj hij
theorem mem_getD {α : Type} {X : List α} {d x : α} (h : x ∈ X) : ∃ i, i < X.length ∧ X.getD i d = x := by
  obtain ⟨i, h1, h2⟩ := List.getElem_of_mem h
  exact ⟨i, h1, by rw [List.getD_eq_getElem?_getD, List.getElem?_eq_getElem h1]; exact h2⟩
def insA (X : List (List Nat)) (p : Nat) (v : List Nat) : List (List Nat) := X.take p ++ v :: X.drop p
def insP (X : List (List Nat)) (p : Nat) (v : List Nat) : List (List Nat) := (insA X p v).take 20
theorem insA_mem {X : List (List Nat)} {p : Nat} {v x : List Nat} : x ∈ insA X p v ↔ x = v ∨ x ∈ X := by
  unfold insA
  rw [List.mem_append, List.mem_cons]
  constructor
  · rintro (q | q | q)
    · exact Or.inr (List.mem_of_mem_take q)
    · exact Or.inl q
    · exact Or.inr (List.mem_of_mem_drop q)
  · rintro (q | q)
    · exact Or.inr (Or.inl q)
    · rw [← List.take_append_drop p X, List.mem_append] at q
      exact q.elim Or.inl (fun z => Or.inr (Or.inr z))
theorem insA_len {X : List (List Nat)} {p : Nat} {v : List Nat} (hp : p ≤ X.length) : (insA X p v).length = X.length + 1 := by
  unfold insA
  rw [List.length_append, List.length_cons, List.length_take, List.length_drop]; omega
theorem insA_srt {X : List (List Nat)} {p : Nat} {v : List Nat} (hx : Srt X) (hp : p ≤ X.length) (h1 : ∀ j, j < p → cd (X.getD j []) < cd v) (h2 : ∀ j, p ≤ j → j < X.length → cd v < cd (X.getD j [])) : Srt (insA X p v) := by
  unfold Srt insA
  rw [List.pairwise_append]
  have tk : ∀ x ∈ X.take p, cd x < cd v := fun x hx => by
    obtain ⟨i, i1, rfl⟩ := mem_getD (d := []) hx
    rw [List.length_take] at i1
    have := h1 i (by omega)
    rw [List.getD_eq_getElem?_getD, List.getElem?_take_of_lt (by omega), ← List.getD_eq_getElem?_getD]
    exact this
  have dr : ∀ x ∈ X.drop p, cd v < cd x := fun x hx => by
    obtain ⟨i, i1, rfl⟩ := mem_getD (d := []) hx
    rw [List.length_drop] at i1
    have := h2 (p + i) (by omega) (by omega)
    rw [List.getD_eq_getElem?_getD, List.getElem?_drop, ← List.getD_eq_getElem?_getD]
    exact this
  refine ⟨List.Pairwise.sublist (List.take_sublist _ _) hx, List.pairwise_cons.mpr ⟨dr, List.Pairwise.sublist (List.drop_sublist _ _) hx⟩, fun a ha b hb => ?_⟩
  rcases List.mem_cons.mp hb with q | q
  · rw [q]; exact tk a ha
  · have := tk a ha
    have := dr b q
    omega
theorem take_cov {Z : List (List Nat)} (hz : Srt Z) {u : List Nat} (hu : u ∈ Z) : Cov (Z.take 20) u := by
  obtain ⟨i, i1, rfl⟩ := mem_getD (d := []) hu
  by_cases q : i < 20
  · left
    have e : Z.getD i [] = (Z.take 20).getD i [] := by rw [List.getD_eq_getElem?_getD, List.getD_eq_getElem?_getD, List.getElem?_take_of_lt q]
    rw [e]
    exact getD_in (by rw [List.length_take]; omega)
  · right
    refine ⟨by rw [List.length_take]; omega, fun x hx => ?_⟩
    obtain ⟨j, j1, rfl⟩ := mem_getD (d := []) hx
    rw [List.length_take] at j1
    have e : (Z.take 20).getD j [] = Z.getD j [] := by rw [List.getD_eq_getElem?_getD, List.getD_eq_getElem?_getD, List.getElem?_take_of_lt (by omega)]
    rw [e]
    exact Srt_get hz (by omega) i1
/-- what comes of putting a word -/
def Ins (X : List (List Nat)) (v : List Nat) (X' : List (List Nat)) (b : Bool) : Prop :=
  (b = false ∧ X' = X ∧ Cov X v) ∨ (b = true ∧ ¬ Cov X v ∧ Srt X' ∧ X'.length ≤ 20 ∧ (∀ x ∈ X', x = v ∨ x ∈ X) ∧ (∀ u, Cov X u → Cov X' u) ∧ Cov X' v)
theorem ins_yes {X : List (List Nat)} {p : Nat} {v : List Nat} (hx : Srt X) (h20 : X.length ≤ 20) (hp : p ≤ X.length) (p20 : p < 20) (h1 : ∀ j, j < p → cd (X.getD j []) < cd v) (h2 : ∀ j, p ≤ j → j < X.length → cd v < cd (X.getD j [])) : Ins X v (insP X p v) true := by
  have hs := insA_srt hx hp h1 h2
  refine Or.inr ⟨rfl, ?_, List.Pairwise.sublist (List.take_sublist _ _) hs, by unfold insP; rw [List.length_take]; omega, fun x hx => insA_mem.mp (List.mem_of_mem_take hx), fun u hu => ?_, take_cov hs (insA_mem.mpr (Or.inl rfl))⟩
  · rintro (q | ⟨q1, q2⟩)
    · obtain ⟨i, i1, e⟩ := mem_getD (d := []) q
      rcases Nat.lt_or_ge i p with z | z
      · have := h1 i z
        rw [e] at this; omega
      · have := h2 i z i1
        rw [e] at this; omega
    · have := q2 _ (getD_in (d := []) (show p < X.length by omega))
      have := h2 p (Nat.le_refl _) (by omega)
      omega
  · rcases hu with q | ⟨q1, q2⟩
    · exact take_cov hs (insA_mem.mpr (Or.inr q))
    · refine Or.inr ⟨by unfold insP; rw [List.length_take, insA_len hp]; omega, fun x hx => ?_⟩
      rcases insA_mem.mp (List.mem_of_mem_take hx) with z | z
      · rw [z]
        have a1 := h2 p (Nat.le_refl _) (by omega)
        have a2 := q2 _ (getD_in (d := []) (show p < X.length by omega))
        omega
      · exact q2 x z
theorem insP_get {X : List (List Nat)} {p : Nat} {v : List Nat} (hp : p ≤ X.length) {i : Nat} (hi : i < 20) : (insP X p v).getD i [] = if i < p then X.getD i [] else if i = p then v else X.getD (i - 1) [] := by
  unfold insP insA
  rw [List.getD_eq_getElem?_getD, List.getElem?_take_of_lt hi, ← List.getD_eq_getElem?_getD]
  by_cases z : i < p
  · rw [if_pos z, List.getD_eq_getElem?_getD, List.getElem?_append_left (by rw [List.length_take]; omega), List.getElem?_take_of_lt z, ← List.getD_eq_getElem?_getD]
  · rw [if_neg z, List.getD_eq_getElem?_getD, List.getElem?_append_right (by rw [List.length_take]; omega), List.length_take, Nat.min_eq_left hp]
    by_cases y : i = p
    · rw [if_pos y, y, Nat.sub_self]; rfl
    · rw [if_neg y, show i - p = (i - p - 1) + 1 by omega, List.getElem?_cons_succ, List.getElem?_drop, show p + (i - p - 1) = i - 1 by omega, ← List.getD_eq_getElem?_getD]
theorem insP_len {X : List (List Nat)} {p : Nat} {v : List Nat} (hp : p ≤ X.length) : (insP X p v).length = min 20 (X.length + 1) := by
  unfold insP; rw [List.length_take, insA_len hp]
