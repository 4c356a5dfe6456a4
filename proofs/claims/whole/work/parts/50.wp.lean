/-! ===== what holds behind an expression, a statement, a method ===== -/
def ok {α : Type} (o : Option α) (Q : α → Prop) : Prop := ∃ x, o = some x ∧ Q x
theorem ok_some {α : Type} {x : α} {Q : α → Prop} : ok (some x) Q ↔ Q x := ⟨fun ⟨_, e, h⟩ => (Option.some.inj e) ▸ h, fun h => ⟨x, rfl, h⟩⟩
theorem ok_none {α : Type} {Q : α → Prop} : ok (none : Option α) Q ↔ False := ⟨fun ⟨_, e, _⟩ => (by cases e), fun h => h.elim⟩
theorem ok_bind {α β : Type} {o : Option α} {f : α → Option β} {Q : β → Prop} : ok (o.bind f) Q ↔ ok o (fun x => ok (f x) Q) := by
  cases o with
  | none => exact ⟨fun ⟨_, e, _⟩ => (by cases e), fun ⟨_, e, _⟩ => (by cases e)⟩
  | some a => rw [ok_some]; rfl
theorem ok_guard {α : Type} {p : Prop} [Decidable p] {o : Option α} {Q : α → Prop} : ok (if p then o else none) Q ↔ p ∧ ok o Q := by
  by_cases h : p
  · rw [if_pos h]; exact ⟨fun q => ⟨h, q⟩, fun q => q.2⟩
  · rw [if_neg h, ok_none]; exact ⟨fun q => q.elim, fun q => h q.1⟩
theorem ok_guardN {α : Type} {p : Prop} [Decidable p] {o : Option α} {Q : α → Prop} : ok (if p then none else o) Q ↔ ¬ p ∧ ok o Q := by
  by_cases h : p
  · rw [if_pos h, ok_none]; exact ⟨fun q => q.elim, fun q => q.1 h⟩
  · rw [if_neg h]; exact ⟨fun q => ⟨h, q⟩, fun q => q.2⟩
theorem ok_mono {α : Type} {o : Option α} {P Q : α → Prop} (h : ok o P) (hpq : ∀ x, P x → Q x) : ok o Q := by
  obtain ⟨x, e, hp⟩ := h
  exact ⟨x, e, hpq x hp⟩
def wpe {α : Type} (e : EX α) (σ : List Value) (h : AH) (Q : α → AH → Prop) : Prop := ok (e σ h) (fun x => Q x.1 x.2)
def wpm {ρ : Type} (d : MD ρ) (av : List Value) (h : AH) (Q : ρ → AH → Prop) : Prop := ok (d av h) (fun x => Q x.1 x.2)
def wpa (as : List (EX Value)) (σ : List Value) (h : AH) (Q : List Value → AH → Prop) : Prop := ok (eArgs as σ h) (fun x => Q x.1 x.2)
def exQ {ρ : Type} (N B C : List Value → AH → Prop) (R : ρ → AH → Prop) : (ρ ⊕ Nat) → List Value → AH → Prop
  | .inl r, _, h => R r h
  | .inr 0, σ, h => N σ h
  | .inr 1, σ, h => B σ h
  | .inr (_ + 2), σ, h => C σ h
def wps {ρ : Type} (S : ST ρ) (σ : List Value) (h : AH) (N B C : List Value → AH → Prop) (R : ρ → AH → Prop) : Prop := ok (S σ h) (fun x => exQ N B C R x.1 x.2.1 x.2.2)
theorem wpm_mono {ρ : Type} {d : MD ρ} {av : List Value} {h : AH} {P Q : ρ → AH → Prop} (hp : wpm d av h P) (hpq : ∀ r h', P r h' → Q r h') : wpm d av h Q := ok_mono hp (fun x hx => hpq x.1 x.2 hx)
theorem wpm_eq {ρ : Type} {d : MD ρ} {av : List Value} {h h' : AH} {r : ρ} {Q : ρ → AH → Prop} (e : d av h = some (r, h')) : wpm d av h Q ↔ Q r h' := by
  unfold wpm; rw [e, ok_some]
theorem wpm_intro {ρ : Type} {d : MD ρ} {av : List Value} {h : AH} {P : ρ → AH → Prop} (hp : wpm d av h P) : ∃ r h', d av h = some (r, h') ∧ P r h' := by
  obtain ⟨⟨r, h'⟩, e, hq⟩ := hp
  exact ⟨r, h', e, hq⟩
section WP
variable {σ : List Value} {h : AH}
theorem e_C {α : Type} {v : α} {Q : α → AH → Prop} : wpe (eC v) σ h Q ↔ Q v h := ok_some
theorem e_h1 {α β : Type} {f : α → AH → Option β} {a : EX α} {Q : β → AH → Prop} : wpe (eh1 f a) σ h Q ↔ wpe a σ h (fun x h1 => ok (f x h1) (fun y => Q y h1)) := by
  simp only [wpe, eh1, ok_bind, ok_some]
theorem e_h2 {α β γ : Type} {f : α → β → AH → Option γ} {a : EX α} {b : EX β} {Q : γ → AH → Prop} : wpe (eh2 f a b) σ h Q ↔ wpe a σ h (fun x h1 => wpe b σ h1 (fun y h2 => ok (f x y h2) (fun z => Q z h2))) := by
  simp only [wpe, eh2, ok_bind, ok_some]
theorem e_lI {i : Nat} {Q : Int32 → AH → Prop} : wpe (lI i) σ h Q ↔ ok (σ[i]?) (fun v => ok (asI v) (fun x => Q x h)) := by
  simp only [wpe, lI, ok_bind, ok_some]
theorem e_lJ {i : Nat} {Q : Int64 → AH → Prop} : wpe (lJ i) σ h Q ↔ ok (σ[i]?) (fun v => ok (asJ v) (fun x => Q x h)) := by
  simp only [wpe, lJ, ok_bind, ok_some]
theorem e_lR {i : Nat} {Q : Option Nat → AH → Prop} : wpe (lR i) σ h Q ↔ ok (σ[i]?) (fun v => ok (asR v) (fun x => Q x h)) := by
  simp only [wpe, lR, ok_bind, ok_some]
theorem ok_ite {α : Type} {p : Prop} [Decidable p] {a b : Option α} {Q : α → Prop} : ok (if p then a else b) Q ↔ if p then ok a Q else ok b Q := by
  by_cases h : p
  · rw [if_pos h, if_pos h]
  · rw [if_neg h, if_neg h]
theorem e_if {α : Type} {c : EX Bool} {a b : EX α} {Q : α → AH → Prop} : wpe (eIf c a b) σ h Q ↔ wpe c σ h (fun t h1 => if t = true then wpe a σ h1 Q else wpe b σ h1 Q) := by
  simp only [wpe, eIf, ok_bind, ok_ite]
theorem e_and {a b : EX Bool} {Q : Bool → AH → Prop} : wpe (cAnd a b) σ h Q ↔ wpe a σ h (fun t h1 => if t = true then wpe b σ h1 Q else Q false h1) := by
  simp only [wpe, cAnd, ok_bind, ok_ite, ok_some]
theorem e_or {a b : EX Bool} {Q : Bool → AH → Prop} : wpe (cOr a b) σ h Q ↔ wpe a σ h (fun t h1 => if t = true then Q true h1 else wpe b σ h1 Q) := by
  simp only [wpe, cOr, ok_bind, ok_ite, ok_some]
theorem e_not {a : EX Bool} {Q : Bool → AH → Prop} : wpe (cNot a) σ h Q ↔ wpe a σ h (fun t h1 => Q (!t) h1) := by
  simp only [wpe, cNot, ok_bind, ok_some]
theorem a_nil {Q : List Value → AH → Prop} : wpa [] σ h Q ↔ Q [] h := ok_some
theorem a_I {e : EX Int32} {t : List (EX Value)} {Q : List Value → AH → Prop} : wpa (vI e :: t) σ h Q ↔ wpe e σ h (fun x h1 => wpa t σ h1 (fun vs h2 => Q (.int x :: vs) h2)) := by
  simp only [wpa, wpe, eArgs, vI, ok_bind, ok_some]
theorem a_J {e : EX Int64} {t : List (EX Value)} {Q : List Value → AH → Prop} : wpa (vJ e :: t) σ h Q ↔ wpe e σ h (fun x h1 => wpa t σ h1 (fun vs h2 => Q (.long x :: vs) h2)) := by
  simp only [wpa, wpe, eArgs, vJ, ok_bind, ok_some]
theorem a_R {e : EX (Option Nat)} {t : List (EX Value)} {Q : List Value → AH → Prop} : wpa (vR e :: t) σ h Q ↔ wpe e σ h (fun x h1 => wpa t σ h1 (fun vs h2 => Q (va_rf x :: vs) h2)) := by
  simp only [wpa, wpe, eArgs, vR, ok_bind, ok_some]
theorem e_kS {ρ : Type} {d : MD ρ} {as : List (EX Value)} {Q : ρ → AH → Prop} : wpe (kS d as) σ h Q ↔ wpa as σ h (fun vs h1 => wpm d vs h1 Q) := by
  simp only [wpe, wpa, wpm, kS, ok_bind]
theorem e_kV {ρ : Type} {t : Nat} {d : MD ρ} {o : EX (Option Nat)} {as : List (EX Value)} {Q : ρ → AH → Prop} : wpe (kV t d o as) σ h Q ↔ wpe o σ h (fun x h0 => ok x (fun a => wpa as σ h0 (fun vs h1 => hT h1 a = t ∧ wpm d (.ref a :: vs) h1 Q))) := by
  simp only [wpe, wpa, wpm, kV, ok_bind, ok_guard]
theorem e_kN {t N : Nat} {d : MD Unit} {as : List (EX Value)} {Q : Option Nat → AH → Prop} : wpe (kN t N d as) σ h Q ↔ wpa as σ (nw h t 0 N) (fun vs h1 => wpm d (.ref (hN h) :: vs) h1 (fun _ h2 => Q (some (hN h)) h2)) := by
  simp only [wpe, wpa, wpm, kN, ok_bind, ok_some]
theorem e_nA {t : Nat} {e : EX Int32} {Q : Option Nat → AH → Prop} : wpe (nA t e) σ h Q ↔ wpe e σ h (fun x h1 => (¬ x < 0 ∧ x.toNatClampNeg ≤ 20000) ∧ Q (some (hN h1)) (nw h1 t x.toNatClampNeg x.toNatClampNeg)) := by
  simp only [wpe, nA, ok_bind, ok_guard, ok_some]
variable {ρ : Type} {N B C : List Value → AH → Prop} {R : ρ → AH → Prop}
theorem s_sk : wps (sk : ST ρ) σ h N B C R ↔ N σ h := ok_some
theorem s_brk : wps (brk : ST ρ) σ h N B C R ↔ B σ h := ok_some
theorem s_cnt : wps (cnt : ST ρ) σ h N B C R ↔ C σ h := ok_some
theorem s_sq {a b : ST ρ} : wps (sq a b) σ h N B C R ↔ wps a σ h (fun σ1 h1 => wps b σ1 h1 N B C R) B C R := by
  unfold wps sq
  rw [ok_bind]
  constructor
  · intro q
    refine ok_mono q fun x hx => ?_
    obtain ⟨o, σ1, h1⟩ := x
    match o, hx with
    | .inl r, hx => exact (ok_some (x := ((Sum.inl r : ρ ⊕ Nat), σ1, h1)) (Q := fun x => exQ N B C R x.1 x.2.1 x.2.2)).mp hx
    | .inr 0, hx => exact hx
    | .inr 1, hx => exact (ok_some (x := ((Sum.inr 1 : ρ ⊕ Nat), σ1, h1)) (Q := fun x => exQ N B C R x.1 x.2.1 x.2.2)).mp hx
    | .inr (n + 2), hx => exact (ok_some (x := ((Sum.inr (n + 2) : ρ ⊕ Nat), σ1, h1)) (Q := fun x => exQ N B C R x.1 x.2.1 x.2.2)).mp hx
  · intro q
    refine ok_mono q fun x hx => ?_
    obtain ⟨o, σ1, h1⟩ := x
    match o, hx with
    | .inl r, hx => exact ok_some.mpr hx
    | .inr 0, hx => exact hx
    | .inr 1, hx => exact ok_some.mpr hx
    | .inr (n + 2), hx => exact ok_some.mpr hx
theorem s_if {c : EX Bool} {a b : ST ρ} : wps (sIf c a b) σ h N B C R ↔ wpe c σ h (fun t h1 => if t = true then wps a σ h1 N B C R else wps b σ h1 N B C R) := by
  simp only [wps, wpe, sIf, ok_bind, ok_ite]
theorem s_rtn {e : EX ρ} : wps (rtn e) σ h N B C R ↔ wpe e σ h R := by
  simp only [wps, wpe, rtn, ok_bind, ok_some, exQ]
theorem s_rtnU {R : Unit → AH → Prop} : wps rtnU σ h N B C R ↔ R () h := ok_some
theorem s_E {α : Type} {e : EX α} : wps (sE e : ST ρ) σ h N B C R ↔ wpe e σ h (fun _ h1 => N σ h1) := by
  simp only [wps, wpe, sE, ok_bind, ok_some, exQ]
theorem s_I1 {i : Nat} {e : EX Int32} : wps (sI1 i e : ST ρ) σ h N B C R ↔ wpe e σ h (fun x h1 => ok (sto σ i (.int x)) (fun τ => N τ h1)) := by
  simp only [wps, wpe, sI1, ok_bind, ok_some, exQ]
theorem s_R1 {i : Nat} {e : EX (Option Nat)} : wps (sR1 i e : ST ρ) σ h N B C R ↔ wpe e σ h (fun x h1 => ok (sto σ i (va_rf x)) (fun τ => N τ h1)) := by
  simp only [wps, wpe, sR1, ok_bind, ok_some, exQ]
theorem s_J1 {i : Nat} {e : EX Int64} : wps (sJ1 i e : ST ρ) σ h N B C R ↔ wpe e σ h (fun x h1 => ok (sto2 σ i (.long x)) (fun τ => N τ h1)) := by
  simp only [wps, wpe, sJ1, ok_bind, ok_some, exQ]
theorem s_Inc {i : Nat} {v : Int32} : wps (sInc i v : ST ρ) σ h N B C R ↔ wpe (lI i) σ h (fun x h1 => ok (sto σ i (.int (x + v))) (fun τ => N τ h1)) := by
  simp only [wps, wpe, sInc, ok_bind, ok_some, exQ]
theorem s_h2 {α β : Type} {f : α → β → AH → Option AH} {a : EX α} {b : EX β} : wps (sh2 f a b : ST ρ) σ h N B C R ↔ wpe a σ h (fun x h1 => wpe b σ h1 (fun y h2 => ok (f x y h2) (fun z => N σ z))) := by
  simp only [wps, wpe, sh2, ok_bind, ok_some, exQ]
theorem s_h3 {α β γ : Type} {f : α → β → γ → AH → Option AH} {a : EX α} {b : EX β} {c : EX γ} : wps (sh3 f a b c : ST ρ) σ h N B C R ↔ wpe a σ h (fun x h1 => wpe b σ h1 (fun y h2 => wpe c σ h2 (fun w h3 => ok (f x y w h3) (fun z => N σ z)))) := by
  simp only [wps, wpe, sh3, ok_bind, ok_some, exQ]
theorem s_u2 {α β γ : Type} {g : α → AH → Option β} {f : α → β → γ → AH → Option AH} {a : EX α} {c : EX γ} : wps (su2 g f a c : ST ρ) σ h N B C R ↔ wpe a σ h (fun x h1 => ok (g x h1) (fun u => wpe c σ h1 (fun w h3 => ok (f x u w h3) (fun z => N σ z)))) := by
  simp only [wps, wpe, su2, ok_bind, ok_some, exQ]
theorem s_u3 {α β γ δ : Type} {g : α → β → AH → Option δ} {f : α → β → δ → γ → AH → Option AH} {a : EX α} {b : EX β} {c : EX γ} : wps (su3 g f a b c : ST ρ) σ h N B C R ↔ wpe a σ h (fun x h1 => wpe b σ h1 (fun y h2 => ok (g x y h2) (fun u => wpe c σ h2 (fun w h3 => ok (f x y u w h3) (fun z => N σ z))))) := by
  simp only [wps, wpe, su3, ok_bind, ok_some, exQ]
theorem m_mth {ck : ρ → Bool} {nL : Nat} {body : ST ρ} {av : List Value} {Q : ρ → AH → Prop} : wpm (mth ck nL body) av h Q ↔ (entL av).length ≤ nL ∧ wps body (ent nL av) h (fun _ _ => False) (fun _ _ => False) (fun _ _ => False) (fun v h' => ck v = true ∧ Q v h') := by
  unfold wpm mth
  rw [ok_guard]
  refine and_congr_right fun _ => ?_
  rw [ok_bind]
  unfold wps
  constructor
  · intro q
    refine ok_mono q fun x hx => ?_
    obtain ⟨o, σ1, h1⟩ := x
    match o, hx with
    | .inl r, hx =>
      obtain ⟨c1, c2⟩ := ok_guard.mp hx
      exact ⟨c1, (ok_some (x := (r, h1)) (Q := fun x => Q x.1 x.2)).mp c2⟩
    | .inr 0, hx => exact ok_none.mp hx
    | .inr 1, hx => exact ok_none.mp hx
    | .inr (n + 2), hx => exact ok_none.mp hx
  · intro q
    refine ok_mono q fun x hx => ?_
    obtain ⟨o, σ1, h1⟩ := x
    match o, hx with
    | .inl r, hx => exact ok_guard.mpr ⟨hx.1, ok_some.mpr hx.2⟩
    | .inr 0, hx => exact hx.elim
    | .inr 1, hx => exact hx.elim
    | .inr (n + 2), hx => exact hx.elim
/-- a loop: an invariant with a number that falls -/
theorem s_wh {c : EX Bool} {b st : ST ρ} (I : Nat → List Value → AH → Prop) (hs : ∀ n σ h, I n σ h → wpe c σ h (fun t h1 => if t = true then wps b σ h1 (fun σ2 h2 => wps st σ2 h2 (fun σ3 h3 => ∃ m, m < n ∧ I m σ3 h3) (fun _ _ => False) (fun _ _ => False) (fun _ _ => False)) N (fun σ2 h2 => wps st σ2 h2 (fun σ3 h3 => ∃ m, m < n ∧ I m σ3 h3) (fun _ _ => False) (fun _ _ => False) (fun _ _ => False)) R else N σ h1)) :
    ∀ F n σ h, n < F → I n σ h → wps (wh c b st F) σ h N B C R := by
  intro F
  induction F with
  | zero => intro n σ h hn; omega
  | succ F ih =>
    intro n σ h hn hi
    have key := hs n σ h hi
    unfold wps wpe at *
    simp only [wh]
    rw [ok_bind]
    refine ok_mono key fun x hx => ?_
    obtain ⟨t, h1⟩ := x
    cases t
    · exact ok_some.mpr hx
    · simp only [if_true] at hx ⊢
      rw [ok_bind]
      refine ok_mono hx fun y hy => ?_
      obtain ⟨o, σ2, h2⟩ := y
      have go : ok (st σ2 h2) (fun x => exQ (fun σ3 h3 => ∃ m, m < n ∧ I m σ3 h3) (fun _ _ => False) (fun _ _ => False) (fun _ _ => False) x.1 x.2.1 x.2.2) → ok ((st σ2 h2).bind fun z => match z.1 with | .inr 0 => wh c b st F z.2.1 z.2.2 | _ => none) (fun x => exQ N B C R x.1 x.2.1 x.2.2) := by
        intro q
        rw [ok_bind]
        refine ok_mono q fun z hz => ?_
        obtain ⟨o3, σ3, h3⟩ := z
        match o3, hz with
        | .inl r, hz => exact hz.elim
        | .inr 0, hz =>
          obtain ⟨m, hm, hi⟩ := hz
          exact ih m σ3 h3 (by omega) hi
        | .inr 1, hz => exact hz.elim
        | .inr (k + 2), hz => exact hz.elim
      match o, hy with
      | .inl r, hy => exact ok_some.mpr hy
      | .inr 1, hy => exact ok_some.mpr hy
      | .inr 0, hy => exact go hy
      | .inr (k + 2), hy => exact go hy
theorem s_loop {c : EX Bool} {b st : ST ρ} (I : Nat → List Value → AH → Prop) (n : Nat) (hn : n < 1000000000) (hi : I n σ h) (hs : ∀ n σ h, I n σ h → wpe c σ h (fun t h1 => if t = true then wps b σ h1 (fun σ2 h2 => wps st σ2 h2 (fun σ3 h3 => ∃ m, m < n ∧ I m σ3 h3) (fun _ _ => False) (fun _ _ => False) (fun _ _ => False)) N (fun σ2 h2 => wps st σ2 h2 (fun σ3 h3 => ∃ m, m < n ∧ I m σ3 h3) (fun _ _ => False) (fun _ _ => False) (fun _ _ => False)) R else N σ h1)) : wps (loop c b st) σ h N B C R :=
  s_wh I hs FUEL n σ h hn hi
end WP
