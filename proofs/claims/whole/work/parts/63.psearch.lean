/-! ===== ASSIGNMENTS ===== -/
abbrev EnvA : Type := Nat → Option (Nat × Nat)
def up1 (e : EnvA) (c : Nat) (v : Nat × Nat) : EnvA := fun x => if x = c then some v else e x
def e0 : EnvA := fun _ => none
def asg (sp : Nat → Nat → Nat → Bool) (w : List Nat) : List Nat → Nat → EnvA → List EnvA
  | [], p, e => if p = w.length then [e] else []
  | c :: r, p, e => if cap c = true then
      match e c with
      | some bn => if p + bn.2 ≤ w.length ∧ pc w bn.1 (bn.1 + bn.2) = pc w p (p + bn.2) then asg sp w r (p + bn.2) e else []
      | none => (List.range (w.length + 1 - p)).flatMap (fun n => if sp c p (p + n) = true then asg sp w r (p + n) (up1 e c (p, n)) else [])
    else if w[p]? = some c then asg sp w r (p + 1) e else []
noncomputable def spB (A : Alts) (w : List Nat) (c p q : Nat) : Bool := @decide (Spn A w c p q) (Classical.propDecidable _)
theorem spB_iff {A : Alts} {w : List Nat} {c p q : Nat} : spB A w c p q = true ↔ Spn A w c p q := by
  unfold spB
  exact @decide_eq_true_iff _ (Classical.propDecidable _)
/-! ===== A SEARCH ===== -/
abbrev ChoT : Type := List (Bool × List Nat)
abbrev RuleT : Type := List Nat × List ChoT
/-- a NODE: RULE, alternative, number, from, many, above, row, level, FREE ones with the numbers of their words -/
abbrev Nd : Type := Nat × Nat × Nat × Nat × Nat × Option Nat × List Nat × Nat × List (Nat × Nat)
/-- STEPS, BLIND ones, ends, deepest -/
abbrev Ctr : Type := Nat × Nat × Nat × Nat
abbrev Res (β : Type) : Type := Option (Option β × Ctr)
def thn {β γ : Type} (x : Res β) (k : β → Ctr → Res γ) : Res γ := match x with
  | none => none
  | some (none, s) => some (none, s)
  | some (some b, s) => k b s
def fstM {α β : Type} (f : α → Ctr → Res β) : List α → Ctr → Res β
  | [], s => some (none, s)
  | x :: xs, s => match f x s with
    | none => none
    | some (some b, s') => some (some b, s')
    | some (none, s') => fstM f xs s'
def splE (w : List Nat) (e : EnvA) (fw : Nat → List Nat) (c : Nat) : List Nat := if cap c = true then (match e c with | some bn => pc w bn.1 (bn.1 + bn.2) | none => fw c) else [c]
def spl (w : List Nat) (e : EnvA) (fw : Nat → List Nat) (sg : List Nat) : List Nat := sg.flatMap (splE w e fw)
def frsF (hd : List Nat) (acc : List Nat) (c : Nat) : List Nat := if cap c = true ∧ c ∉ hd ∧ c ∉ acc then acc ++ [c] else acc
def frs (hd : List Nat) (ms : ChoT) : List Nat := (ms.flatMap (fun m => m.2)).foldl (frsF hd) []
def combos (H : Nat → List (List Nat)) : List Nat → List (List (Nat × Nat))
  | [] => [[]]
  | a :: fs => (List.range (H a).length).flatMap (fun k => (combos H fs).map (fun t => (a, k) :: t))
/-- what a FREE one stands for -/
def fwd (H : Nat → List (List Nat)) (fr : List (Nat × Nat)) (c : Nat) : List Nat := match fr.find? (fun x => decide (x.1 = c)) with
  | some x => (H c).getD x.2 []
  | none => []
def memF (ak : List Nat → Nat → Nat → Nat → Ctr → Res (List Nd)) (tx : List (List Nat)) (sl : List Nat → List Nat) : ChoT → Nat → Nat → Nat → Ctr → Res (List Nd)
  | [], from_, to_, _, s => some (if from_ = to_ then some [] else none, s)
  | m :: ms, from_, to_, nxt, s =>
    if m.1 = true then (if from_ < to_ ∧ tx[from_]? = some (sl m.2) then memF ak tx sl ms (from_ + 1) to_ nxt s else some (none, s))
    else if 10 < (sl m.2).length then some (none, s)
    else fstM (fun n s => thn (ak (sl m.2) from_ n nxt s) (fun ns s' => thn (memF ak tx sl ms (from_ + n) to_ (nxt + ns.length) s') (fun ns2 s2 => some (some (ns ++ ns2), s2))))
      (if ms = [] then [to_ - from_] else List.range (to_ - from_ + 1)) s
/-- GRAMMAR, WORDS that are HAD, RULES, TEXT -/
abbrev Gs : Type := Alts × (Nat → List (List Nat)) × List RuleT × List (List Nat)
abbrev gA (G : Gs) : Alts := G.1
abbrev gH (G : Gs) : Nat → List (List Nat) := G.2.1
abbrev gRs (G : Gs) : List RuleT := G.2.2.1
abbrev gX (G : Gs) : List (List Nat) := G.2.2.2
noncomputable def asgs (G : Gs) (row : List Nat) (r : RuleT) : List EnvA := asg (spB (gA G) row) row r.1 0 e0
/-- all ways of one alternative, by its FREE ones -/
def tryF (G : Gs) (ak : List Nat → Nat → Nat → Nat → Ctr → Res (List Nd)) (row : List Nat) (lvl from_ many idx : Nat) (above : Option Nat) (r k c : Nat) (e : EnvA) (ms : ChoT) (fr : List (Nat × Nat)) (s : Ctr) : Res (List Nd) :=
  thn (memF ak (gX G) (spl row e (fwd (gH G) fr)) ms from_ (from_ + many) (idx + 1) s) (fun ns s' => some (some ((r, c, k, from_, many, above, row, lvl, fr) :: ns), s'))
def tryC (G : Gs) (ak : List Nat → Nat → Nat → Nat → Ctr → Res (List Nd)) (row : List Nat) (lvl from_ many idx : Nat) (above : Option Nat) (r k : Nat) (e : EnvA) (rt : RuleT) (c : ChoT × Nat) (s : Ctr) : Res (List Nd) :=
  fstM (fun fr s => tryF G ak row lvl from_ many idx above r k c.2 e c.1 fr s) (combos (gH G) (frs rt.1 c.1)) s
def tryA (G : Gs) (ak : List Nat → Nat → Nat → Nat → Ctr → Res (List Nd)) (row : List Nat) (lvl from_ many idx : Nat) (above : Option Nat) (r : Nat) (rt : RuleT) (ek : EnvA × Nat) (s : Ctr) : Res (List Nd) :=
  fstM (fun c s => tryC G ak row lvl from_ many idx above r ek.2 ek.1 rt c s) rt.2.zipIdx s
noncomputable def tryR (G : Gs) (ak : List Nat → Nat → Nat → Nat → Ctr → Res (List Nd)) (row : List Nat) (lvl from_ many idx : Nat) (above : Option Nat) (rr : RuleT × Nat) (s : Ctr) : Res (List Nd) :=
  fstM (fun ek s => tryA G ak row lvl from_ many idx above rr.2 rr.1 ek s) (asgs G row rr.1).zipIdx s
noncomputable def isBl (G : Gs) (row : List Nat) : Bool := (gRs G).all (fun r => (asgs G row r).isEmpty)
def bl1 (b : Bool) (s : Ctr) : Ctr := (s.1, s.2.1 + (if b then 1 else 0), s.2.2.1, s.2.2.2)
noncomputable def ask (G : Gs) : Nat → Nat → List Nat → Nat → Nat → Nat → Option Nat → Ctr → Res (List Nd)
  | 0, lvl, _, _, _, _, _, s => if s.1 = 500 then none else some (none, (s.1 + 1, s.2.1, s.2.2.1 + 1, max s.2.2.2 lvl))
  | d + 1, lvl, row, from_, many, idx, above, s => if s.1 = 500 then none else
      match fstM (fun rr s => tryR G (fun row f n i s => ask G d (lvl + 1) row f n i (some idx) s) row lvl from_ many idx above rr s) (gRs G).zipIdx (s.1 + 1, s.2.1, s.2.2.1, max s.2.2.2 lvl) with
      | none => none
      | some (some b, s') => some (some b, s')
      | some (none, s') => some (none, bl1 (isBl G row) s')
/-- a SEARCH for the first words of the TEXT, by a depth -/
noncomputable def srch (G : Gs) (nt : List Nat) (many d : Nat) : Res (List Nd) := ask G d 0 nt 0 many 0 none (0, 0, 0, 0)
noncomputable def srA (G : Gs) (nt : List Nat) (many d : Nat) : Int32 := match srch G nt many d with
  | none => -3
  | some (none, _) => nI 0
  | some (some _, _) => nI 1
theorem fstM_app {α β : Type} {f : α → Ctr → Res β} : ∀ (l1 l2 : List α) (s : Ctr), fstM f (l1 ++ l2) s = (match fstM f l1 s with
    | none => none
    | some (some b, s') => some (some b, s')
    | some (none, s') => fstM f l2 s')
  | [], l2, s => rfl
  | x :: xs, l2, s => by
    simp only [List.cons_append, fstM]
    match f x s with
    | none => rfl
    | some (some b, s') => rfl
    | some (none, s') => exact fstM_app xs l2 s'
/-! what never falls; how many NODES there can be -/
/-- steps and ends grow, and what comes is no longer than the steps made -/
def Gro {β : Type} (sz : β → Nat) (f : Ctr → Res β) : Prop := ∀ s x s', f s = some (x, s') → s.1 ≤ s'.1 ∧ s.2.2.1 ≤ s'.2.2.1 ∧ (s.1 ≤ 500 → s'.1 ≤ 500) ∧ ∀ b, x = some b → sz b + s.1 ≤ s'.1
theorem Gro_pure {β : Type} {sz : β → Nat} : Gro sz (fun s => some (none, s)) := by
  intro s x s' h
  cases h
  exact ⟨Nat.le_refl _, Nat.le_refl _, fun h => h, fun b e => by cases e⟩
theorem Gro_fst {α β : Type} {sz : β → Nat} {f : α → Ctr → Res β} : ∀ (l : List α), (∀ a ∈ l, Gro sz (f a)) → Gro sz (fstM f l)
  | [], _ => Gro_pure
  | a :: l, h => by
    intro s x s' e
    simp only [fstM] at e
    match q : f a s, e with
    | some (some b, s1), e =>
      cases e
      exact h a (List.mem_cons_self ..) s (some b) s' q
    | some (none, s1), e =>
      obtain ⟨a1, a2, a3, -⟩ := h a (List.mem_cons_self ..) s none s1 q
      obtain ⟨b1, b2, b3, b4⟩ := Gro_fst l (fun a ha => h a (List.mem_cons_of_mem _ ha)) s1 x s' e
      exact ⟨by omega, by omega, fun z => b3 (a3 z), fun b eb => by have := b4 b eb; omega⟩
theorem Gro_mem {ak : List Nat → Nat → Nat → Nat → Ctr → Res (List Nd)} {tx : List (List Nat)} {sl : List Nat → List Nat} (h : ∀ row f n i, Gro List.length (ak row f n i)) : ∀ (ms : ChoT) (f t i : Nat), Gro List.length (memF ak tx sl ms f t i)
  | [], f, t, i => by
    intro s x s' e
    simp only [memF] at e
    cases e
    refine ⟨Nat.le_refl _, Nat.le_refl _, fun h => h, fun b e => ?_⟩
    split at e
    · cases e; simp
    · cases e
  | m :: ms, f, t, i => by
    intro s x s' e
    simp only [memF] at e
    split at e
    · split at e
      · exact Gro_mem h ms _ _ _ s x s' e
      · exact Gro_pure s x s' e
    · split at e
      · exact Gro_pure s x s' e
      · refine Gro_fst _ (fun n _ => ?_) s x s' e
        intro s x s' e
        match q : ak (sl m.2) f n i s, e with
        | none, e => simp only [q, thn] at e; cases e
        | some (none, s1), e =>
          simp only [q, thn] at e
          cases e
          exact h _ _ _ _ s none s' q
        | some (some ns, s1), e =>
          simp only [q, thn] at e
          obtain ⟨a1, a2, a3, a4⟩ := h _ _ _ _ s (some ns) s1 q
          have a4 := a4 ns rfl
          match q2 : memF ak tx sl ms (f + n) t (i + ns.length) s1, e with
          | none, e => simp only [q2] at e; cases e
          | some (none, s2), e =>
            simp only [q2] at e
            cases e
            obtain ⟨b1, b2, b3, -⟩ := Gro_mem h ms _ _ _ s1 none s' q2
            exact ⟨by omega, by omega, fun z => b3 (a3 z), fun b eb => by cases eb⟩
          | some (some ns2, s2), e =>
            simp only [q2] at e
            cases e
            obtain ⟨b1, b2, b3, b4⟩ := Gro_mem h ms _ _ _ s1 (some ns2) s' q2
            have b4 := b4 ns2 rfl
            exact ⟨by omega, by omega, fun z => b3 (a3 z), fun b eb => by cases eb; rw [List.length_append]; omega⟩
