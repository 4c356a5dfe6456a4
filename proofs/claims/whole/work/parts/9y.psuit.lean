/-! ===== A SEARCH: what can be left out ===== -/
theorem fst_none {α β : Type} {f : α → Ctr → Res β} {s : Ctr} : ∀ (l : List α), (∀ x ∈ l, f x s = some (none, s)) → fstM f l s = some (none, s)
  | [], _ => rfl
  | x :: xs, h => by
    rw [fstM, h x (List.mem_cons_self ..)]
    exact fst_none xs (fun y hy => h y (List.mem_cons_of_mem _ hy))
theorem fst_map {α β γ : Type} {f : β → Ctr → Res γ} {g : α → β} : ∀ (l : List α) (s : Ctr), fstM f (l.map g) s = fstM (fun x s => f (g x) s) l s
  | [], s => rfl
  | x :: xs, s => by
    rw [List.map_cons, fstM, fstM]
    match f (g x) s with
    | none => rfl
    | some (some b, s') => rfl
    | some (none, s') => exact fst_map xs s'
theorem fst_fm {α β γ : Type} {f : β → Ctr → Res γ} {g : α → List β} : ∀ (l : List α) (s : Ctr), fstM f (l.flatMap g) s = fstM (fun x s => fstM f (g x) s) l s
  | [], s => rfl
  | x :: xs, s => by
    rw [List.flatMap_cons, fstM_app, fstM]
    match fstM f (g x) s with
    | none => rfl
    | some (some b, s') => rfl
    | some (none, s') => exact fst_fm xs s'
theorem fst_cg {α β : Type} {f f' : α → Ctr → Res β} : ∀ (l : List α) (s : Ctr), (∀ x ∈ l, ∀ s, f x s = f' x s) → fstM f l s = fstM f' l s
  | [], s, _ => rfl
  | x :: xs, s, h => by
    rw [fstM, fstM, h x (List.mem_cons_self ..)]
    match f' x s with
    | none => rfl
    | some (some b, s') => rfl
    | some (none, s') => exact fst_cg xs s' (fun y hy => h y (List.mem_cons_of_mem _ hy))
/-- the ways of the FREE ones that are left -/
def tF {β : Type} (H : Nat → List (List Nat)) (K : List (Nat × Nat) → Ctr → Res β) (fs : List Nat) (pre : List (Nat × Nat)) (s : Ctr) : Res β := fstM (fun t s => K (pre ++ t) s) (combos H fs) s
theorem tF_nil {β : Type} {H : Nat → List (List Nat)} {K : List (Nat × Nat) → Ctr → Res β} {pre : List (Nat × Nat)} {s : Ctr} : tF H K [] pre s = K pre s := by
  unfold tF
  rw [combos, fstM, List.append_nil]
  match K pre s with
  | none => rfl
  | some (some b, s') => rfl
  | some (none, s') => rfl
theorem tF_cons {β : Type} {H : Nat → List (List Nat)} {K : List (Nat × Nat) → Ctr → Res β} {a : Nat} {fs : List Nat} {pre : List (Nat × Nat)} {s : Ctr} : tF H K (a :: fs) pre s = fstM (fun k s => tF H K fs (pre ++ [(a, k)]) s) (List.range (H a).length) s := by
  unfold tF
  rw [combos, fst_fm]
  refine fst_cg _ _ (fun k _ s => ?_)
  rw [fst_map]
  refine fst_cg _ _ (fun t _ s => ?_)
  rw [List.append_assoc]; rfl
theorem tF_none {β : Type} {H : Nat → List (List Nat)} {K : List (Nat × Nat) → Ctr → Res β} {fs : List Nat} {pre : List (Nat × Nat)} {s : Ctr} (h : ∀ t, K (pre ++ t) s = some (none, s)) : tF H K fs pre s = some (none, s) := fst_none _ (fun t _ => h t)
/-! MEMBERS that cannot stand -/
theorem mem_tok0 {ak : List Nat → Nat → Nat → Nat → Ctr → Res (List Nd)} {tx : List (List Nat)} {sl : List Nat → List Nat} {m : Bool × List Nat} {ms : ChoT} {f t i : Nat} {s : Ctr} (hm : m.1 = true) (h : ¬ (f < t ∧ tx[f]? = some (sl m.2))) : memF ak tx sl (m :: ms) f t i s = some (none, s) := by
  rw [memF, if_pos hm, if_neg h]
theorem mem_long {ak : List Nat → Nat → Nat → Nat → Ctr → Res (List Nd)} {tx : List (List Nat)} {sl : List Nat → List Nat} {m : Bool × List Nat} {ms : ChoT} {f t i : Nat} {s : Ctr} (hm : m.1 = false) (h : 10 < (sl m.2).length) : memF ak tx sl (m :: ms) f t i s = some (none, s) := by
  rw [memF, if_neg (by rw [hm]; decide), if_pos h]
theorem ahead_cons {m : Bool × List Nat} {ms : ChoT} : aheadN (m :: ms) = if m.1 = true then aheadN ms + 1 else 0 := by
  unfold aheadN
  rw [List.takeWhile_cons]
  by_cases z : m.1 = true
  · rw [if_pos z, if_pos z, List.length_cons]
  · rw [if_neg z, if_neg z]; rfl
theorem mem_few {ak : List Nat → Nat → Nat → Nat → Ctr → Res (List Nd)} {tx : List (List Nat)} {sl : List Nat → List Nat} : ∀ (ms : ChoT) (f t i : Nat) (s : Ctr), f ≤ t → t - f < aheadN ms → memF ak tx sl ms f t i s = some (none, s)
  | [], f, t, i, s, _, h => by cases h
  | m :: ms, f, t, i, s, ht, h => by
    rw [ahead_cons] at h
    by_cases z : m.1 = true
    · rw [if_pos z] at h
      rw [memF, if_pos z]
      by_cases y : f < t ∧ tx[f]? = some (sl m.2)
      · rw [if_pos y]
        exact mem_few ms (f + 1) t i s (by omega) (by omega)
      · rw [if_neg y]
    · rw [if_neg z] at h; cases h
theorem mem_all {ak : List Nat → Nat → Nat → Nat → Ctr → Res (List Nd)} {tx : List (List Nat)} {sl : List Nat → List Nat} : ∀ (ms : ChoT) (f t i : Nat) (s : Ctr), f ≤ t → aheadN ms = ms.length → t - f ≠ ms.length → memF ak tx sl ms f t i s = some (none, s)
  | [], f, t, i, s, ht, _, h => by
    rw [memF, if_neg]
    intro e
    rw [e] at h
    exact h (Nat.sub_self _)
  | m :: ms, f, t, i, s, ht, ha, h => by
    rw [ahead_cons, List.length_cons] at ha
    rw [List.length_cons] at h
    by_cases z : m.1 = true
    · rw [if_pos z] at ha
      rw [memF, if_pos z]
      by_cases y : f < t ∧ tx[f]? = some (sl m.2)
      · rw [if_pos y]
        exact mem_all ms (f + 1) t i s (by omega) (by omega) (by omega)
      · rw [if_neg y]
    · rw [if_neg z] at ha; omega
/-- what does not suit gives no STEP -/
theorem mem_suit {ak : List Nat → Nat → Nat → Nat → Ctr → Res (List Nd)} {tx : List (List Nat)} {sl : List Nat → List Nat} {ms : ChoT} {f m i : Nat} {s : Ctr} (h : (if aheadN ms = ms.length then decide (m = ms.length) else decide (aheadN ms ≤ m)) = false) : memF ak tx sl ms f (f + m) i s = some (none, s) := by
  by_cases z : aheadN ms = ms.length
  · rw [if_pos z] at h
    have := of_decide_eq_false h
    exact mem_all ms f (f + m) i s (by omega) z (by omega)
  · rw [if_neg z] at h
    have := of_decide_eq_false h
    exact mem_few ms f (f + m) i s (by omega) (by omega)
theorem ahead_tok : ∀ (ch : ChoT) (j : Nat), j < aheadN ch → (ch.getD j (false, [])).1 = true
  | [], j, h => absurd h (Nat.not_lt_zero j)
  | m :: ms, 0, h => by
    rw [ahead_cons] at h
    by_cases z : m.1 = true
    · exact z
    · rw [if_neg z] at h; cases h
  | m :: ms, j + 1, h => by
    rw [ahead_cons] at h
    by_cases z : m.1 = true
    · rw [if_pos z] at h; exact ahead_tok ms j (by omega)
    · rw [if_neg z] at h; cases h
theorem ahead_le {ch : ChoT} : aheadN ch ≤ ch.length := by unfold aheadN; exact List.Sublist.length_le (List.takeWhile_sublist _)
/-- a MEMBER behind TOKENS that cannot stand -/
def ShK (tx : List (List Nat)) (sl : List Nat → List Nat) (ch : ChoT) (f : Nat) : Prop := ∃ k, k < ch.length ∧ (∀ j, j < k → (ch.getD j (false, [])).1 = true) ∧ (if (ch.getD k (false, [])).1 = true then ¬ tx[f + k]? = some (sl (ch.getD k (false, [])).2) else 10 < (sl (ch.getD k (false, [])).2).length)
theorem mem_shutK {ak : List Nat → Nat → Nat → Nat → Ctr → Res (List Nd)} {tx : List (List Nat)} {sl : List Nat → List Nat} : ∀ (ms : ChoT) (k f t i : Nat) (s : Ctr), k < ms.length → (∀ j, j < k → (ms.getD j (false, [])).1 = true) → (if (ms.getD k (false, [])).1 = true then ¬ tx[f + k]? = some (sl (ms.getD k (false, [])).2) else 10 < (sl (ms.getD k (false, [])).2).length) → memF ak tx sl ms f t i s = some (none, s)
  | [], k, f, t, i, s, hk, _, _ => absurd hk (Nat.not_lt_zero k)
  | m :: ms, 0, f, t, i, s, hk, ht, h => by
    have h' : if m.1 = true then ¬ tx[f + 0]? = some (sl m.2) else 10 < (sl m.2).length := h
    by_cases z : m.1 = true
    · rw [if_pos z, Nat.add_zero] at h'
      exact mem_tok0 z (fun y => h' y.2)
    · rw [if_neg z] at h'
      exact mem_long (by cases hm : m.1 with | true => exact absurd hm z | false => rfl) h'
  | m :: ms, k + 1, f, t, i, s, hk, ht, h => by
    have z : m.1 = true := ht 0 (by omega)
    rw [memF, if_pos z]
    by_cases y : f < t ∧ tx[f]? = some (sl m.2)
    · rw [if_pos y]
      refine mem_shutK ms k (f + 1) t i s (by rw [List.length_cons] at hk; omega) (fun j hj => ht (j + 1) (by omega)) ?_
      rw [show f + 1 + k = f + (k + 1) by omega]
      exact h
    · rw [if_neg y]
theorem mem_ShK {ak : List Nat → Nat → Nat → Nat → Ctr → Res (List Nd)} {tx : List (List Nat)} {sl : List Nat → List Nat} {ch : ChoT} {f t i : Nat} {s : Ctr} (h : ShK tx sl ch f) : memF ak tx sl ch f t i s = some (none, s) := by
  obtain ⟨k, h1, h2, h3⟩ := h
  exact mem_shutK ch k f t i s h1 h2 h3
/-- what suits has so many WORDS -/
theorem suit_le {ch : ChoT} {m : Nat} (h : (if aheadN ch = ch.length then decide (m = ch.length) else decide (aheadN ch ≤ m)) = true) : aheadN ch ≤ m := by
  split at h
  · have := of_decide_eq_true h; omega
  · exact of_decide_eq_true h
/-! a first MEMBER is spelled by the FREE ones that stand in it -/
theorem fwd_pre {H : Nat → List (List Nat)} {pre t : List (Nat × Nat)} {c : Nat} (h : c ∈ pre.map (fun x => x.1)) : fwd H (pre ++ t) c = fwd H pre c := by
  unfold fwd
  rw [List.find?_append]
  obtain ⟨x, x1, x2⟩ := List.mem_map.mp h
  cases hf : pre.find? (fun x => decide (x.1 = c)) with
  | some y => rfl
  | none =>
    have := List.find?_eq_none.mp hf x x1
    exact absurd (decide_eq_true x2) this
theorem spl_cg {w : List Nat} {e : EnvA} {fw fw' : Nat → List Nat} {sg : List Nat} (h : ∀ c ∈ sg, cap c = true → e c = none → fw c = fw' c) : spl w e fw sg = spl w e fw' sg := by
  unfold spl
  refine fm_cg _ (fun c hc => ?_)
  unfold splE
  by_cases z : cap c = true
  · rw [if_pos z, if_pos z]
    cases he : e c with
    | some bn => rfl
    | none => exact h c hc z he
  · rw [if_neg z, if_neg z]
theorem frs_mem {hd : List Nat} : ∀ (l acc : List Nat) (c : Nat), c ∈ l.foldl (frsF hd) acc ↔ c ∈ acc ∨ (c ∈ l ∧ cap c = true ∧ c ∉ hd)
  | [], acc, c => by simp
  | x :: l, acc, c => by
    rw [List.foldl_cons, frs_mem l]
    unfold frsF
    by_cases z : cap x = true ∧ x ∉ hd ∧ x ∉ acc
    · rw [if_pos z, List.mem_append, List.mem_singleton, List.mem_cons]
      constructor
      · rintro ((y | y) | y)
        · exact Or.inl y
        · rw [y]; exact Or.inr ⟨Or.inl rfl, z.1, z.2.1⟩
        · exact Or.inr ⟨Or.inr y.1, y.2⟩
      · rintro (y | ⟨y | y, y2⟩)
        · exact Or.inl (Or.inl y)
        · exact Or.inl (Or.inr y)
        · exact Or.inr ⟨y, y2⟩
    · rw [if_neg z, List.mem_cons]
      constructor
      · rintro (y | y)
        · exact Or.inl y
        · exact Or.inr ⟨Or.inr y.1, y.2⟩
      · rintro (y | ⟨y | y, y2⟩)
        · exact Or.inl y
        · by_cases q : c ∈ acc
          · exact Or.inl q
          · exact absurd ⟨y ▸ y2.1, y ▸ y2.2, y ▸ q⟩ z
        · exact Or.inr ⟨y, y2⟩
theorem frs_iff {hd : List Nat} {ch : ChoT} {c : Nat} : c ∈ frs hd ch ↔ (∃ m ∈ ch, c ∈ m.2) ∧ cap c = true ∧ c ∉ hd := by
  unfold frs
  rw [frs_mem, List.mem_flatMap]
  simp
theorem frs_pre {hd : List Nat} : ∀ (l acc : List Nat), ∃ ext, l.foldl (frsF hd) acc = acc ++ ext
  | [], acc => ⟨[], by simp⟩
  | x :: l, acc => by
    rw [List.foldl_cons]
    obtain ⟨ext, he⟩ := frs_pre l (frsF hd acc x)
    rw [he]
    unfold frsF
    split
    · exact ⟨[x] ++ ext, by rw [List.append_assoc]⟩
    · exact ⟨ext, rfl⟩
theorem frs_take {hd : List Nat} {ch : ChoT} : frs hd (ch.take 1) = (frs hd ch).take (frs hd (ch.take 1)).length := by
  have : ∃ ext, frs hd ch = frs hd (ch.take 1) ++ ext := by
    unfold frs
    conv => enter [1, ext]; lhs; rw [← List.take_append_drop 1 ch]
    simp only [List.flatMap_append, List.foldl_append]
    exact frs_pre _ _
  obtain ⟨ext, he⟩ := this
  rw [he, List.take_left]
