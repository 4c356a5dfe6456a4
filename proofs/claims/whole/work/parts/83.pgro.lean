/-! ===== a search grows ===== -/
theorem Gro_thn {β γ : Type} {sz : β → Nat} {sy : γ → Nat} {f : Ctr → Res β} {k : β → γ} (h : Gro sz f) (hk : ∀ b, sy (k b) ≤ sz b) : Gro sy (fun s => thn (f s) (fun b s' => some (some (k b), s'))) := by
  intro s x s' e
  match q : f s, e with
  | none, e => simp only [q, thn] at e; cases e
  | some (none, s1), e =>
    simp only [q, thn] at e
    cases e
    obtain ⟨a1, a2, a3, -⟩ := h s none s' q
    exact ⟨a1, a2, a3, fun b eb => (by cases eb)⟩
  | some (some b, s1), e =>
    simp only [q, thn] at e
    cases e
    obtain ⟨a1, a2, a3, a4⟩ := h s (some b) s' q
    refine ⟨a1, a2, a3, fun c ec => ?_⟩
    cases ec
    have := a4 b rfl
    have := hk b
    omega
def sz1 (b : List Nd) : Nat := b.length - 1
theorem Gro_tryF {G : Gs} {ak : List Nat → Nat → Nat → Nat → Ctr → Res (List Nd)} (h : ∀ row f n i, Gro List.length (ak row f n i)) {row : List Nat} {lvl from_ many idx : Nat} {above : Option Nat} {r k c : Nat} {e : EnvA} {ms : ChoT} {fr : List (Nat × Nat)} : Gro sz1 (tryF G ak row lvl from_ many idx above r k c e ms fr) :=
  Gro_thn (k := fun ns => (r, c, k, from_, many, above, row, lvl, fr) :: ns) (Gro_mem h ms _ _ _) (fun b => by simp [sz1])
theorem Gro_tryC {G : Gs} {ak : List Nat → Nat → Nat → Nat → Ctr → Res (List Nd)} (h : ∀ row f n i, Gro List.length (ak row f n i)) {row : List Nat} {lvl from_ many idx : Nat} {above : Option Nat} {r k : Nat} {e : EnvA} {rt : RuleT} {c : ChoT × Nat} : Gro sz1 (tryC G ak row lvl from_ many idx above r k e rt c) := Gro_fst _ (fun _ _ => Gro_tryF h)
theorem Gro_tryA {G : Gs} {ak : List Nat → Nat → Nat → Nat → Ctr → Res (List Nd)} (h : ∀ row f n i, Gro List.length (ak row f n i)) {row : List Nat} {lvl from_ many idx : Nat} {above : Option Nat} {r : Nat} {rt : RuleT} {ek : EnvA × Nat} : Gro sz1 (tryA G ak row lvl from_ many idx above r rt ek) := Gro_fst _ (fun _ _ => Gro_tryC h)
theorem Gro_tryR {G : Gs} {ak : List Nat → Nat → Nat → Nat → Ctr → Res (List Nd)} (h : ∀ row f n i, Gro List.length (ak row f n i)) {row : List Nat} {lvl from_ many idx : Nat} {above : Option Nat} {rr : RuleT × Nat} : Gro sz1 (tryR G ak row lvl from_ many idx above rr) := Gro_fst _ (fun _ _ => Gro_tryA h)
theorem Gro_ask {G : Gs} : ∀ (d lvl : Nat) (row : List Nat) (from_ many idx : Nat) (above : Option Nat), Gro List.length (ask G d lvl row from_ many idx above)
  | 0, lvl, row, from_, many, idx, above => by
    intro s x s' e
    unfold ask at e
    split at e
    · cases e
    · rename_i q
      cases e
      exact ⟨by simp, by simp, fun z => by simp only; omega, fun b eb => (by cases eb)⟩
  | d + 1, lvl, row, from_, many, idx, above => by
    intro s x s' e
    unfold ask at e
    split at e
    · cases e
    · rename_i q
      have key := Gro_fst (f := fun rr s => tryR G (fun row f n i s => ask G d (lvl + 1) row f n i (some idx) s) row lvl from_ many idx above rr s) (sz := sz1) (gRs G).zipIdx (fun rr _ => Gro_tryR (fun row f n i => Gro_ask d (lvl + 1) row f n i (some idx))) (s.1 + 1, s.2.1, s.2.2.1, max s.2.2.2 lvl)
      match z : fstM (fun rr s => tryR G (fun row f n i s => ask G d (lvl + 1) row f n i (some idx) s) row lvl from_ many idx above rr s) (gRs G).zipIdx (s.1 + 1, s.2.1, s.2.2.1, max s.2.2.2 lvl), e with
      | none, e => simp only [z] at e; cases e
      | some (some b, s1), e =>
        simp only [z] at e
        cases e
        obtain ⟨a1, a2, a3, a4⟩ := key (some b) s' z
        have a4 := a4 b rfl
        simp only at a1 a2 a3 a4
        refine ⟨by omega, a2, fun y => a3 (by omega), fun c ec => ?_⟩
        cases ec
        unfold sz1 at a4
        omega
      | some (none, s1), e =>
        simp only [z] at e
        cases e
        obtain ⟨a1, a2, a3, -⟩ := key none s1 z
        simp only [bl1] at a1 a2 a3 ⊢
        exact ⟨by omega, a2, fun y => a3 (by omega), fun c ec => (by cases ec)⟩
/-! a deeper search is the same, if no end was come to -/
def Sam {β : Type} (f g : Ctr → Res β) : Prop := ∀ s x s', f s = some (x, s') → s'.2.2.1 = s.2.2.1 → g s = some (x, s')
theorem Sam_rf {β : Type} {f : Ctr → Res β} : Sam f f := fun _ _ _ e _ => e
theorem Sam_fst {α β : Type} {sz : β → Nat} {f g : α → Ctr → Res β} : ∀ (l : List α), (∀ a ∈ l, Gro sz (f a)) → (∀ a ∈ l, Sam (f a) (g a)) → Sam (fstM f l) (fstM g l)
  | [], _, _ => Sam_rf
  | a :: l, h1, h2 => by
    intro s x s' e he
    simp only [fstM] at e ⊢
    match q : f a s, e with
    | none, e => simp only [q] at e; cases e
    | some (some b, s1), e =>
      simp only [q] at e
      cases e
      rw [h2 a (List.mem_cons_self ..) s (some b) s' q he]
    | some (none, s1), e =>
      simp only [q] at e
      obtain ⟨-, a2, -, -⟩ := h1 a (List.mem_cons_self ..) s none s1 q
      obtain ⟨-, b2, -, -⟩ := Gro_fst l (fun a ha => h1 a (List.mem_cons_of_mem _ ha)) s1 x s' e
      rw [h2 a (List.mem_cons_self ..) s none s1 q (by omega)]
      exact Sam_fst l (fun a ha => h1 a (List.mem_cons_of_mem _ ha)) (fun a ha => h2 a (List.mem_cons_of_mem _ ha)) s1 x s' e (by omega)
theorem Sam_thn {β γ : Type} {sz : β → Nat} {sy : γ → Nat} {f g : Ctr → Res β} {k k' : β → Ctr → Res γ} (hf : Gro sz f) (hk : ∀ b, Gro sy (k b)) (h1 : Sam f g) (h2 : ∀ b, Sam (k b) (k' b)) : Sam (fun s => thn (f s) k) (fun s => thn (g s) k') := by
  intro s x s' e he
  match q : f s, e with
  | none, e => simp only [q, thn] at e; cases e
  | some (none, s1), e =>
    simp only [q, thn] at e
    cases e
    simp only [h1 s none s' q he, thn]
  | some (some b, s1), e =>
    simp only [q, thn] at e
    obtain ⟨-, a2, -, -⟩ := hf s (some b) s1 q
    obtain ⟨-, b2, -, -⟩ := hk b s1 x s' e
    simp only [h1 s (some b) s1 q (by omega), thn]
    exact h2 b s1 x s' e (by omega)
theorem Gro_some {γ β : Type} {sz : β → Nat} {k : γ → β} (b : γ) (hz : sz (k b) = 0) : Gro sz (fun s => some (some (k b), s)) := by
  intro s x s' e
  cases e
  exact ⟨Nat.le_refl _, Nat.le_refl _, fun h => h, fun b eb => (by cases eb; omega)⟩
theorem Gro0 {β : Type} {f : Ctr → Res β} {sz : β → Nat} (h : Gro sz f) : Gro (fun _ => 0) f := by
  intro s x s' e
  obtain ⟨a, b, c, d⟩ := h s x s' e
  exact ⟨a, b, c, fun b eb => (by show 0 + s.1 ≤ s'.1; omega)⟩
theorem Sam_mem {ak ak' : List Nat → Nat → Nat → Nat → Ctr → Res (List Nd)} {tx : List (List Nat)} {sl : List Nat → List Nat} (h : ∀ row f n i, Gro List.length (ak row f n i)) (hs : ∀ row f n i, Sam (ak row f n i) (ak' row f n i)) : ∀ (ms : ChoT) (f t i : Nat), Sam (memF ak tx sl ms f t i) (memF ak' tx sl ms f t i)
  | [], f, t, i => fun s x s' e _ => e
  | m :: ms, f, t, i => by
    intro s x s' e he
    simp only [memF] at e ⊢
    split at e
    · rename_i q
      rw [if_pos q]
      split at e
      · rename_i q
        rw [if_pos q]
        exact Sam_mem h hs ms _ _ _ s x s' e he
      · rename_i q
        rw [if_neg q]
        exact e
    · rename_i q
      rw [if_neg q]
      split at e
      · rename_i q
        rw [if_pos q]
        exact e
      · rename_i q
        rw [if_neg q]
        have g2 : ∀ n (ns : List Nd), Gro (fun _ => 0) (fun s' => thn (memF ak tx sl ms (f + n) t (i + ns.length) s') (fun ns2 s2 => some (some (ns ++ ns2), s2))) := fun n ns => Gro_thn (sz := List.length) (k := fun ns2 => ns ++ ns2) (Gro_mem h ms _ _ _) (fun b => Nat.zero_le _)
        refine Sam_fst (sz := fun _ => 0) _ (fun n _ => ?_) (fun n _ => ?_) s x s' e he
        · intro s x s' e
          match z : ak (sl m.2) f n i s, e with
          | none, e => simp only [z, thn] at e; cases e
          | some (none, s1), e =>
            simp only [z, thn] at e
            cases e
            obtain ⟨a, b, c, -⟩ := h _ _ _ _ s none s' z
            exact ⟨a, b, c, fun b eb => (by cases eb)⟩
          | some (some ns, s1), e =>
            simp only [z] at e
            obtain ⟨a1, a2, a3, -⟩ := h _ _ _ _ s (some ns) s1 z
            obtain ⟨b1, b2, b3, -⟩ := g2 n ns s1 x s' e
            exact ⟨by omega, by omega, fun y => b3 (a3 y), fun b eb => (by show 0 + s.1 ≤ s'.1; omega)⟩
        · exact Sam_thn (sz := List.length) (sy := fun _ => 0) (h _ _ _ _) (g2 n) (hs _ _ _ _) (fun ns => Sam_thn (sz := List.length) (sy := fun _ => 0) (Gro_mem h ms _ _ _) (fun b => Gro_some (k := fun ns2 => ns ++ ns2) b rfl) (Sam_mem h hs ms _ _ _) (fun b => Sam_rf))
theorem Sam_ask {G : Gs} : ∀ (d lvl : Nat) (row : List Nat) (from_ many idx : Nat) (above : Option Nat), Sam (ask G d lvl row from_ many idx above) (ask G (d + 1) lvl row from_ many idx above)
  | 0, lvl, row, from_, many, idx, above => by
    intro s x s' e he
    unfold ask at e
    split at e
    · cases e
    · cases e
      simp at he
  | d + 1, lvl, row, from_, many, idx, above => by
    intro s x s' e he
    unfold ask at e ⊢
    split at e
    · cases e
    · rename_i q
      rw [if_neg q]
      have g0 : ∀ row f n i, Gro List.length (fun s => ask G d (lvl + 1) row f n i (some idx) s) := fun row f n i => Gro_ask d (lvl + 1) row f n i (some idx)
      have key := Sam_fst (sz := sz1) (f := fun rr s => tryR G (fun row f n i s => ask G d (lvl + 1) row f n i (some idx) s) row lvl from_ many idx above rr s) (g := fun rr s => tryR G (fun row f n i s => ask G (d + 1) (lvl + 1) row f n i (some idx) s) row lvl from_ many idx above rr s) (gRs G).zipIdx (fun rr _ => Gro_tryR g0) (fun rr _ => by
        refine Sam_fst (sz := sz1) _ (fun _ _ => Gro_tryA g0) (fun ek _ => ?_)
        refine Sam_fst (sz := sz1) _ (fun _ _ => Gro_tryC g0) (fun c _ => ?_)
        refine Sam_fst (sz := sz1) _ (fun _ _ => Gro_tryF g0) (fun fr _ => ?_)
        exact Sam_thn (sz := List.length) (sy := fun _ => 0) (Gro_mem g0 _ _ _ _) (fun b => Gro_some (k := fun ns => (rr.2, c.2, ek.2, from_, many, above, row, lvl, fr) :: ns) b rfl) (Sam_mem g0 (fun row f n i => Sam_ask d (lvl + 1) row f n i (some idx)) _ _ _ _) (fun b => Sam_rf))
      have key := key (s.1 + 1, s.2.1, s.2.2.1, max s.2.2.2 lvl)
      match z : fstM (fun rr s => tryR G (fun row f n i s => ask G d (lvl + 1) row f n i (some idx) s) row lvl from_ many idx above rr s) (gRs G).zipIdx (s.1 + 1, s.2.1, s.2.2.1, max s.2.2.2 lvl), e with
      | none, e => simp only [z] at e; cases e
      | some (some b, s1), e =>
        simp only [z] at e
        cases e
        rw [key (some b) s' z he]
      | some (none, s1), e =>
        simp only [z] at e
        cases e
        simp only [bl1] at he
        rw [key none s1 z he]
theorem ask_deeper {G : Gs} {lvl : Nat} {row : List Nat} {from_ many idx : Nat} {above : Option Nat} {d : Nat} {s s' : Ctr} {x : Option (List Nd)} (h : ask G d lvl row from_ many idx above s = some (x, s')) (he : s'.2.2.1 = s.2.2.1) : ∀ k, ask G (d + k) lvl row from_ many idx above s = some (x, s')
  | 0 => h
  | k + 1 => Sam_ask (d + k) lvl row from_ many idx above s x s' (ask_deeper h he k) he
