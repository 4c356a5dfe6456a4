/-! ===== A SEARCH: what can be left out ===== -/
theorem fst_none {α β : Type} {f : α → Ctr → Res β} {s : Ctr} : ∀ (l : List α), (∀ x ∈ l, f x s = some (none, s)) → fstM f l s = some (none, s)
  | [], _ => rfl
  | x :: xs, h => by
    rw [fstM, h x (List.mem_cons_self ..)]
    exact fst_none xs (fun y hy => h y (List.mem_cons_of_mem _ hy))
theorem fst_map {α β γ : Type} {f : β → Ctr → Res γ} {g : α → β} : ∀ (l : List α) (s : Ctr), fstM f (l.map g) s = fstM (fun x s => f (g x) s) l s
  | [], s => rfl
  | x :: xs, s => by
    rw [List.map_cons, fstM, fstM]
    match f (g x) s with
    | none => rfl
    | some (some b, s') => rfl
    | some (none, s') => exact fst_map xs s'
theorem fst_fm {α β γ : Type} {f : β → Ctr → Res γ} {g : α → List β} : ∀ (l : List α) (s : Ctr), fstM f (l.flatMap g) s = fstM (fun x s => fstM f (g x) s) l s
  | [], s => rfl
  | x :: xs, s => by
    rw [List.flatMap_cons, fstM_app, fstM]
    match fstM f (g x) s with
    | none => rfl
    | some (some b, s') => rfl
    | some (none, s') => exact fst_fm xs s'
theorem fst_cg {α β : Type} {f f' : α → Ctr → Res β} : ∀ (l : List α) (s : Ctr), (∀ x ∈ l, ∀ s, f x s = f' x s) → fstM f l s = fstM f' l s
  | [], s, _ => rfl
  | x :: xs, s, h => by
    rw [fstM, fstM, h x (List.mem_cons_self ..)]
    match f' x s with
    | none => rfl
    | some (some b, s') => rfl
    | some (none, s') => exact fst_cg xs s' (fun y hy => h y (List.mem_cons_of_mem _ hy))
/-- the ways of the FREE ones that are left -/
def tF {β : Type} (H : Nat → List (List Nat)) (K : List (Nat × Nat) → Ctr → Res β) (fs : List Nat) (pre : List (Nat × Nat)) (s : Ctr) : Res β := fstM (fun t s => K (pre ++ t) s) (combos H fs) s
theorem tF_nil {β : Type} {H : Nat → List (List Nat)} {K : List (Nat × Nat) → Ctr → Res β} {pre : List (Nat × Nat)} {s : Ctr} : tF H K [] pre s = K pre s := by
  unfold tF
  rw [combos, fstM, List.append_nil]
  match K pre s with
  | none => rfl
  | some (some b, s') => rfl
  | some (none, s') => rfl
theorem tF_cons {β : Type} {H : Nat → List (List Nat)} {K : List (Nat × Nat) → Ctr → Res β} {a : Nat} {fs : List Nat} {pre : List (Nat × Nat)} {s : Ctr} : tF H K (a :: fs) pre s = fstM (fun k s => tF H K fs (pre ++ [(a, k)]) s) (List.range (H a).length) s := by
  unfold tF
  rw [combos, fst_fm]
  refine fst_cg _ _ (fun k _ s => ?_)
  rw [fst_map]
  refine fst_cg _ _ (fun t _ s => ?_)
  rw [List.append_assoc]; rfl
theorem tF_none {β : Type} {H : Nat → List (List Nat)} {K : List (Nat × Nat) → Ctr → Res β} {fs : List Nat} {pre : List (Nat × Nat)} {s : Ctr} (h : ∀ t, K (pre ++ t) s = some (none, s)) : tF H K fs pre s = some (none, s) := fst_none _ (fun t _ => h t)
/-! MEMBERS that cannot stand -/
theorem mem_tok0 {ak : List Nat → Nat → Nat → Nat → Ctr → Res (List Nd)} {tx : List (List Nat)} {sl : List Nat → List Nat} {m : Bool × List Nat} {ms : ChoT} {f t i : Nat} {s : Ctr} (hm : m.1 = true) (h : ¬ (f < t ∧ tx[f]? = some (sl m.2))) : memF ak tx sl (m :: ms) f t i s = some (none, s) := by
  rw [memF, if_pos hm, if_neg h]
theorem mem_long {ak : List Nat → Nat → Nat → Nat → Ctr → Res (List Nd)} {tx : List (List Nat)} {sl : List Nat → List Nat} {m : Bool × List Nat} {ms : ChoT} {f t i : Nat} {s : Ctr} (hm : m.1 = false) (h : 10 < (sl m.2).length) : memF ak tx sl (m :: ms) f t i s = some (none, s) := by
  rw [memF, if_neg (by rw [hm]; decide), if_pos h]
theorem ahead_cons {m : Bool × List Nat} {ms : ChoT} : aheadN (m :: ms) = if m.1 = true then aheadN ms + 1 else 0 := by
  unfold aheadN
  rw [List.takeWhile_cons]
  by_cases z : m.1 = true
  · rw [if_pos z, if_pos z, List.length_cons]
  · rw [if_neg z, if_neg z]; rfl
theorem mem_few {ak : List Nat → Nat → Nat → Nat → Ctr → Res (List Nd)} {tx : List (List Nat)} {sl : List Nat → List Nat} : ∀ (ms : ChoT) (f t i : Nat) (s : Ctr), f ≤ t → t - f < aheadN ms → memF ak tx sl ms f t i s = some (none, s)
  | [], f, t, i, s, _, h => by cases h
  | m :: ms, f, t, i, s, ht, h => by
    rw [ahead_cons] at h
    by_cases z : m.1 = true
    · rw [if_pos z] at h
      rw [memF, if_pos z]
      by_cases y : f < t ∧ tx[f]? = some (sl m.2)
      · rw [if_pos y]
        exact mem_few ms (f + 1) t i s (by omega) (by omega)
      · rw [if_neg y]
    · rw [if_neg z] at h; cases h
theorem mem_all {ak : List Nat → Nat → Nat → Nat → Ctr → Res (List Nd)} {tx : List (List Nat)} {sl : List Nat → List Nat} : ∀ (ms : ChoT) (f t i : Nat) (s : Ctr), f ≤ t → aheadN ms = ms.length → t - f ≠ ms.length → memF ak tx sl ms f t i s = some (none, s)
  | [], f, t, i, s, ht, _, h => by
    rw [memF, if_neg]
    intro e
    rw [e] at h
    exact h (Nat.sub_self _)
  | m :: ms, f, t, i, s, ht, ha, h => by
    rw [ahead_cons, List.length_cons] at ha
    rw [List.length_cons] at h
    by_cases z : m.1 = true
    · rw [if_pos z] at ha
      rw [memF, if_pos z]
      by_cases y : f < t ∧ tx[f]? = some (sl m.2)
      · rw [if_pos y]
        exact mem_all ms (f + 1) t i s (by omega) (by omega) (by omega)
      · rw [if_neg y]
    · rw [if_neg z] at ha; omega
/-- what does not suit gives no STEP -/
theorem mem_suit {ak : List Nat → Nat → Nat → Nat → Ctr → Res (List Nd)} {tx : List (List Nat)} {sl : List Nat → List Nat} {ms : ChoT} {f m i : Nat} {s : Ctr} (h : (if aheadN ms = ms.length then decide (m = ms.length) else decide (aheadN ms ≤ m)) = false) : memF ak tx sl ms f (f + m) i s = some (none, s) := by
  by_cases z : aheadN ms = ms.length
  · rw [if_pos z] at h
    have := of_decide_eq_false h
    exact mem_all ms f (f + m) i s (by omega) z (by omega)
  · rw [if_neg z] at h
    have := of_decide_eq_false h
    exact mem_few ms f (f + m) i s (by omega) (by omega)
/-! a first MEMBER is spelled by the FREE ones that stand in it -/
theorem fwd_pre {H : Nat → List (List Nat)} {pre t : List (Nat × Nat)} {c : Nat} (h : c ∈ pre.map (fun x => x.1)) : fwd H (pre ++ t) c = fwd H pre c := by
  unfold fwd
  rw [List.find?_append]
  obtain ⟨x, x1, x2⟩ := List.mem_map.mp h
  cases hf : pre.find? (fun x => decide (x.1 = c)) with
  | some y => rfl
  | none =>
    have := List.find?_eq_none.mp hf x x1
    exact absurd (decide_eq_true x2) this
theorem spl_cg {w : List Nat} {e : EnvA} {fw fw' : Nat → List Nat} {sg : List Nat} (h : ∀ c ∈ sg, cap c = true → e c = none → fw c = fw' c) : spl w e fw sg = spl w e fw' sg := by
  unfold spl
  refine fm_cg _ (fun c hc => ?_)
  unfold splE
  by_cases z : cap c = true
  · rw [if_pos z, if_pos z]
    cases he : e c with
    | some bn => rfl
    | none => exact h c hc z he
  · rw [if_neg z, if_neg z]
theorem frs_mem {hd : List Nat} : ∀ (l acc : List Nat) (c : Nat), c ∈ l.foldl (frsF hd) acc ↔ c ∈ acc ∨ (c ∈ l ∧ cap c = true ∧ c ∉ hd)
  | [], acc, c => by simp
  | x :: l, acc, c => by
    rw [List.foldl_cons, frs_mem l]
    unfold frsF
    by_cases z : cap x = true ∧ x ∉ hd ∧ x ∉ acc
    · rw [if_pos z, List.mem_append, List.mem_singleton, List.mem_cons]
      constructor
      · rintro ((y | y) | y)
        · exact Or.inl y
        · rw [y]; exact Or.inr ⟨Or.inl rfl, z.1, z.2.1⟩
        · exact Or.inr ⟨Or.inr y.1, y.2⟩
      · rintro (y | ⟨y | y, y2⟩)
        · exact Or.inl (Or.inl y)
        · exact Or.inl (Or.inr y)
        · exact Or.inr ⟨y, y2⟩
    · rw [if_neg z, List.mem_cons]
      constructor
      · rintro (y | y)
        · exact Or.inl y
        · exact Or.inr ⟨Or.inr y.1, y.2⟩
      · rintro (y | ⟨y | y, y2⟩)
        · exact Or.inl y
        · by_cases q : c ∈ acc
          · exact Or.inl q
          · exact absurd ⟨y ▸ y2.1, y ▸ y2.2, y ▸ q⟩ z
        · exact Or.inr ⟨y, y2⟩
theorem frs_iff {hd : List Nat} {ch : ChoT} {c : Nat} : c ∈ frs hd ch ↔ (∃ m ∈ ch, c ∈ m.2) ∧ cap c = true ∧ c ∉ hd := by
  unfold frs
  rw [frs_mem, List.mem_flatMap]
  simp
theorem frs_pre {hd : List Nat} : ∀ (l acc : List Nat), ∃ ext, l.foldl (frsF hd) acc = acc ++ ext
  | [], acc => ⟨[], by simp⟩
  | x :: l, acc => by
    rw [List.foldl_cons]
    obtain ⟨ext, he⟩ := frs_pre l (frsF hd acc x)
    rw [he]
    unfold frsF
    split
    · exact ⟨[x] ++ ext, by rw [List.append_assoc]⟩
    · exact ⟨ext, rfl⟩
theorem frs_take {hd : List Nat} {ch : ChoT} : frs hd (ch.take 1) = (frs hd ch).take (frs hd (ch.take 1)).length := by
  have : ∃ ext, frs hd ch = frs hd (ch.take 1) ++ ext := by
    unfold frs
    conv => enter [1, ext]; lhs; rw [← List.take_append_drop 1 ch]
    simp only [List.flatMap_append, List.foldl_append]
    exact frs_pre _ _
  obtain ⟨ext, he⟩ := this
  rw [he, List.take_left]
