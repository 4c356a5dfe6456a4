/-! ===== contexts of a walk ===== -/
abbrev CT : Type := Program × Launch × Env × Room × State × MethodId × Array Value × List Frame × Method × Code × va_G × (FieldType → ClassId) × Heap × AH × (State → Prop)
abbrev xP (X : CT) : Program := X.1
abbrev xLn (X : CT) : Launch := X.2.1
abbrev xE (X : CT) : Env := X.2.2.1
abbrev xR (X : CT) : Room := X.2.2.2.1
abbrev xS (X : CT) : State := X.2.2.2.2.1
abbrev xM (X : CT) : MethodId := X.2.2.2.2.2.1
abbrev xA (X : CT) : Array Value := X.2.2.2.2.2.2.1
abbrev xB (X : CT) : List Frame := X.2.2.2.2.2.2.2.1
abbrev xMe (X : CT) : Method := X.2.2.2.2.2.2.2.2.1
abbrev xC (X : CT) : Code := X.2.2.2.2.2.2.2.2.2.1
abbrev xD (X : CT) : va_G := X.2.2.2.2.2.2.2.2.2.2.1
abbrev xAC (X : CT) : FieldType → ClassId := X.2.2.2.2.2.2.2.2.2.2.2.1
abbrev xH (X : CT) : Heap := X.2.2.2.2.2.2.2.2.2.2.2.2.1
abbrev xh (X : CT) : AH := X.2.2.2.2.2.2.2.2.2.2.2.2.2.1
abbrev xQ (X : CT) : State → Prop := X.2.2.2.2.2.2.2.2.2.2.2.2.2.2
/-- what stands of a method: code, class, locals, calls below it, whether a constructor, the sites that it writes -/
abbrev SC : Type := ByteArray × String × Nat × Nat × Bool × List Nat × (CT → Prop)
abbrev kc (K : SC) : ByteArray := K.1
abbrev ko (K : SC) : String := K.2.1
abbrev kn (K : SC) : Nat := K.2.2.1
abbrev kd (K : SC) : Nat := K.2.2.2.1
abbrev ki (K : SC) : Bool := K.2.2.2.2.1
abbrev kw (K : SC) : List Nat := K.2.2.2.2.2.1
abbrev kq (K : SC) : CT → Prop := K.2.2.2.2.2.2
def NoQ (_ : CT) : Prop := True
def CX (K : SC) (X : CT) : Prop :=
  (xP X).tables.exec = Jvm.exec ∧ (xC X).code = kc K ∧ (xC X).maxLocals = kn K ∧ (xS X).vm.findClass (ko K) = some (xM X).cls ∧ (∀ w ∈ TB, w.before (xA X) (xS X) = true) ∧ KN (xD X) (xAC X) (xS X) ∧ kd K ≤ (xR X).frames ∧ 64 * kd K ≤ (xR X).locals ∧ (ki K = true → (xMe X).name = "<init>") ∧ kq K X
/-- a local that is not told -/
abbrev jk : Value := .retAddr 0
def Lr (nL : Nat) (σ : List Value) (ls : Array Slot) : Prop := σ.length = nL ∧ ls.size = nL ∧ lv_wf ls ∧ ∀ (i : Nat) (v : Value), σ[i]? = some v → v ≠ jk → ls[i]? = some (.val v)
def Gd (X : CT) (nL pc : Nat) (σ st : List Value) (h : AH) : Prop :=
  ∀ (ls : Array Slot) (H : Heap) (locs : List Loc), Lr nL σ ls → Hr (xD X) (xAC X) (xH X) h H → (∀ q ∈ locs, (xH X).size ≤ q.base) →
    W (xP X) (xLn X) (xE X) (xR X) (xS X) (xM X) (xA X) (xB X) (xMe X) (xC X) H locs (hN h - hN (xh X)) (hU h - hU (xh X)) (xQ X) (F0 (xM X) pc ls st)
/-! ===== expressions, statements, methods as functions ===== -/
abbrev EX (α : Type) : Type := List Value → AH → Option (α × AH)
abbrev ST (ρ : Type) : Type := List Value → AH → Option ((ρ ⊕ Nat) × List Value × AH)
abbrev MD (ρ : Type) : Type := List Value → AH → Option (ρ × AH)
def eI (x : Int32) : List Value := [.int x]
def eJ (x : Int64) : List Value := [.long x]
def eR (x : Option Nat) : List Value := [va_rf x]
def eU (_ : Unit) : List Value := []
def sm (st : List Value) : Nat := (st.map fun v => v.category).sum
theorem va_rf_cat (r : Option Nat) : (va_rf r).category = 1 := by cases r <;> rfl
theorem sm_I (x : Int32) (st : List Value) : sm (eI x ++ st) = 1 + sm st := by simp [sm, eI, Value.category]
theorem sm_J (x : Int64) (st : List Value) : sm (eJ x ++ st) = 2 + sm st := by simp [sm, eJ, Value.category]
theorem sm_R (x : Option Nat) (st : List Value) : sm (eR x ++ st) = 1 + sm st := by simp [sm, eR, va_rf_cat]
/-- the room under the limit -/
def Fi (X : CT) (h : AH) : Prop := hN h - hN (xh X) ≤ (xR X).cells ∧ hU h - hU (xh X) ≤ (xR X).slots
def Be (X : CT) (h : AH) : Prop := hN (xh X) ≤ hN h ∧ hU (xh X) ≤ hU h
theorem Fi.of {X : CT} {w : List Nat} {h h' : AH} (f : Fi X h') (l : Le w h h') : Fi X h := by
  obtain ⟨a, b⟩ := f
  have c := l.1
  have d := l.2.1
  exact ⟨by omega, by omega⟩
theorem Be.of {X : CT} {w : List Nat} {h h' : AH} (f : Be X h) (l : Le w h h') : Be X h' := ⟨Nat.le_trans f.1 l.1, Nat.le_trans f.2 l.2.1⟩
def EJ {α : Type} (K : SC) (k : Nat) (emb : α → List Value) (e : EX α) (pc pc' : Nat) : Prop :=
  (∀ σ h v h', e σ h = some (v, h') → Le (kw K) h h') ∧ ∀ X, CX K X → ∀ σ h st v h', sm st ≤ k → Be X h → e σ h = some (v, h') → Fi X h' → Gd X (kn K) pc' σ (emb v ++ st) h' → Gd X (kn K) pc σ st h
def CJ (K : SC) (k : Nat) (e : EX Bool) (pc pT pF : Nat) : Prop :=
  (∀ σ h v h', e σ h = some (v, h') → Le (kw K) h h') ∧ ∀ X, CX K X → ∀ σ h st v h', sm st ≤ k → Be X h → e σ h = some (v, h') → Fi X h' → Gd X (kn K) (if v = true then pT else pF) σ st h' → Gd X (kn K) pc σ st h
/-- the end of a method: what a return does -/
def RT {ρ : Type} (K : SC) (emb : ρ → List Value) (ri : Instr) (X : CT) (rf : ρ) (hf : AH) : Prop :=
  ∀ pc σ, decode (kc K) pc = .ok (ri, 1) → Gd X (kn K) pc σ (emb rf) hf
def SJ {ρ : Type} (K : SC) (emb : ρ → List Value) (ri : Instr) (S : ST ρ) (pc nN nB nC : Nat) : Prop :=
  (∀ σ h o σ' h', S σ h = some (o, σ', h') → Le (kw K) h h') ∧ ∀ X, CX K X → ∀ (rf : ρ) (hf : AH), RT K emb ri X rf hf → ∀ σ h o σ' h', Be X h → S σ h = some (o, σ', h') → Fi X h' →
    (match o with | .inl r => r = rf ∧ h' = hf | .inr 0 => Gd X (kn K) nN σ' [] h' | .inr 1 => Gd X (kn K) nB σ' [] h' | .inr _ => Gd X (kn K) nC σ' [] h') → Gd X (kn K) pc σ [] h
/-! ===== expressions ===== -/
def eC {α : Type} (v : α) : EX α := fun _ h => some (v, h)
def eh1 {α β : Type} (f : α → AH → Option β) (a : EX α) : EX β := fun σ h => (a σ h).bind fun x => (f x.1 x.2).bind fun y => some (y, x.2)
def eh2 {α β γ : Type} (f : α → β → AH → Option γ) (a : EX α) (b : EX β) : EX γ := fun σ h => (a σ h).bind fun x => (b σ x.2).bind fun y => (f x.1 y.1 y.2).bind fun z => some (z, y.2)
def asI (v : Value) : Option Int32 := match v with | .int x => some x | _ => none
def asJ (v : Value) : Option Int64 := match v with | .long x => some x | _ => none
def asR (v : Value) : Option (Option Nat) := match v with | .ref a => some (some a) | .null => some none | _ => none
theorem asI_int (x : Int32) : asI (.int x) = some x := rfl
theorem asJ_long (x : Int64) : asJ (.long x) = some x := rfl
theorem asR_rf (r : Option Nat) : asR (va_rf r) = some r := by cases r <;> rfl
theorem asR_ref (a : Nat) : asR (.ref a) = some (some a) := rfl
theorem asR_null : asR .null = some none := rfl
def lI (i : Nat) : EX Int32 := fun σ h => (σ[i]?).bind fun v => (asI v).bind fun x => some (x, h)
def lJ (i : Nat) : EX Int64 := fun σ h => (σ[i]?).bind fun v => (asJ v).bind fun x => some (x, h)
def lR (i : Nat) : EX (Option Nat) := fun σ h => (σ[i]?).bind fun v => (asR v).bind fun x => some (x, h)
theorem asI_eq {v : Value} {x : Int32} (h : asI v = some x) : v = .int x := by
  cases v <;> simp [asI] at h
  rw [h]
theorem asJ_eq {v : Value} {x : Int64} (h : asJ v = some x) : v = .long x := by
  cases v <;> simp [asJ] at h
  rw [h]
theorem asR_eq {v : Value} {x : Option Nat} (h : asR v = some x) : v = va_rf x := by
  cases v <;> simp [asR] at h <;> rw [← h] <;> rfl
def eIf {α : Type} (c : EX Bool) (a b : EX α) : EX α := fun σ h => (c σ h).bind fun x => if x.1 = true then a σ x.2 else b σ x.2
theorem EJ_0 {α : Type} {K : SC} {k : Nat} {emb : α → List Value} {v : α} {pc pc' : Nat} (row : ∀ X, CX K X → ∀ σ st h, Gd X (kn K) pc' σ (emb v ++ st) h → Gd X (kn K) pc σ st h) : EJ K k emb (eC v) pc pc' := by
  refine ⟨fun σ h v h' e => ?_, fun X hC σ h st v h' _ _ e _ g => ?_⟩
  · cases e; exact Le.rf
  · cases e; exact row X hC σ st h g
theorem EJ_h1 {α β : Type} {K : SC} {k : Nat} {emba : α → List Value} {emb : β → List Value} {f : α → AH → Option β} {a : EX α} {p0 p1 p2 : Nat} (ha : EJ K k emba a p0 p1) (row : ∀ X, CX K X → ∀ σ st h x y, f x h = some y → Gd X (kn K) p2 σ (emb y ++ st) h → Gd X (kn K) p1 σ (emba x ++ st) h) : EJ K k emb (eh1 f a) p0 p2 := by
  have key : ∀ σ h v h', eh1 f a σ h = some (v, h') → ∃ x, a σ h = some (x, h') ∧ f x h' = some v := by
    intro σ h v h' e
    simp only [eh1, Option.bind_eq_some_iff] at e
    obtain ⟨⟨x, h1⟩, e1, y, e2, e3⟩ := e
    cases e3
    exact ⟨x, e1, e2⟩
  refine ⟨fun σ h v h' e => ?_, fun X hC σ h st v h' hs hb e hf g => ?_⟩
  · obtain ⟨x, e1, -⟩ := key σ h v h' e
    exact ha.1 σ h x h' e1
  · obtain ⟨x, e1, e2⟩ := key σ h v h' e
    exact ha.2 X hC σ h st x h' hs hb e1 hf (row X hC σ st h' x v e2 g)
theorem EJ_h2 {α β γ : Type} {K : SC} {k kb : Nat} {emba : α → List Value} {embb : β → List Value} {emb : γ → List Value} {f : α → β → AH → Option γ} {a : EX α} {b : EX β} {p0 p1 p2 p3 : Nat} (ha : EJ K k emba a p0 p1) (hb : EJ K kb embb b p1 p2) (hk : ∀ x st, sm st ≤ k → sm (emba x ++ st) ≤ kb)
    (row : ∀ X, CX K X → ∀ σ st h x y z, f x y h = some z → Gd X (kn K) p3 σ (emb z ++ st) h → Gd X (kn K) p2 σ (embb y ++ (emba x ++ st)) h) : EJ K k emb (eh2 f a b) p0 p3 := by
  have key : ∀ σ h v h', eh2 f a b σ h = some (v, h') → ∃ x h1 y, a σ h = some (x, h1) ∧ b σ h1 = some (y, h') ∧ f x y h' = some v := by
    intro σ h v h' e
    simp only [eh2, Option.bind_eq_some_iff] at e
    obtain ⟨⟨x, h1⟩, e1, ⟨y, h2⟩, e2, z, e3, e4⟩ := e
    cases e4
    exact ⟨x, h1, y, e1, e2, e3⟩
  refine ⟨fun σ h v h' e => ?_, fun X hC σ h st v h' hs hbe e hf g => ?_⟩
  · obtain ⟨x, h1, y, e1, e2, -⟩ := key σ h v h' e
    exact (ha.1 σ h x h1 e1).tr (hb.1 σ h1 y h' e2)
  · obtain ⟨x, h1, y, e1, e2, e3⟩ := key σ h v h' e
    have l1 := ha.1 σ h x h1 e1
    have l2 := hb.1 σ h1 y h' e2
    exact ha.2 X hC σ h st x h1 hs hbe e1 (hf.of l2) (hb.2 X hC σ h1 (emba x ++ st) y h' (hk x st hs) (hbe.of l1) e2 hf (row X hC σ st h' x y v e3 g))
theorem EJ_if {α : Type} {K : SC} {k : Nat} {emb : α → List Value} {c : EX Bool} {a b : EX α} {p0 pT pF pE p1 : Nat} (hc : CJ K k c p0 pT pF) (ha : EJ K k emb a pT pE) (hg : ∀ X, CX K X → ∀ σ st h, Gd X (kn K) p1 σ st h → Gd X (kn K) pE σ st h) (hb : EJ K k emb b pF p1) : EJ K k emb (eIf c a b) p0 p1 := by
  have key : ∀ σ h v h', eIf c a b σ h = some (v, h') → ∃ t h1, c σ h = some (t, h1) ∧ (if t = true then a σ h1 else b σ h1) = some (v, h') := by
    intro σ h v h' e
    simp only [eIf, Option.bind_eq_some_iff] at e
    obtain ⟨⟨t, h1⟩, e1, e2⟩ := e
    exact ⟨t, h1, e1, e2⟩
  refine ⟨fun σ h v h' e => ?_, fun X hC σ h st v h' hs hbe e hf g => ?_⟩
  · obtain ⟨t, h1, e1, e2⟩ := key σ h v h' e
    have l1 := hc.1 σ h t h1 e1
    cases t
    · exact l1.tr (hb.1 σ h1 v h' e2)
    · exact l1.tr (ha.1 σ h1 v h' e2)
  · obtain ⟨t, h1, e1, e2⟩ := key σ h v h' e
    have l1 := hc.1 σ h t h1 e1
    cases t
    · have l2 := hb.1 σ h1 v h' e2
      exact hc.2 X hC σ h st false h1 hs hbe e1 (hf.of l2) (hb.2 X hC σ h1 st v h' hs (hbe.of l1) e2 hf g)
    · have l2 := ha.1 σ h1 v h' e2
      exact hc.2 X hC σ h st true h1 hs hbe e1 (hf.of l2) (ha.2 X hC σ h1 st v h' hs (hbe.of l1) e2 hf (hg X hC σ _ h' g))
/-! ===== conditions ===== -/
def cAnd (a b : EX Bool) : EX Bool := fun σ h => (a σ h).bind fun x => if x.1 = true then b σ x.2 else some (false, x.2)
def cOr (a b : EX Bool) : EX Bool := fun σ h => (a σ h).bind fun x => if x.1 = true then some (true, x.2) else b σ x.2
def cNot (a : EX Bool) : EX Bool := fun σ h => (a σ h).bind fun x => some (!x.1, x.2)
theorem CJ_and {K : SC} {k : Nat} {a b : EX Bool} {p0 pM pT pF : Nat} (ha : CJ K k a p0 pM pF) (hb : CJ K k b pM pT pF) : CJ K k (cAnd a b) p0 pT pF := by
  have key : ∀ σ h v h', cAnd a b σ h = some (v, h') → ∃ t h1, a σ h = some (t, h1) ∧ (if t = true then b σ h1 else some (false, h1)) = some (v, h') := by
    intro σ h v h' e
    simp only [cAnd, Option.bind_eq_some_iff] at e
    obtain ⟨⟨t, h1⟩, e1, e2⟩ := e
    exact ⟨t, h1, e1, e2⟩
  refine ⟨fun σ h v h' e => ?_, fun X hC σ h st v h' hs hbe e hf g => ?_⟩
  · obtain ⟨t, h1, e1, e2⟩ := key σ h v h' e
    have l1 := ha.1 σ h t h1 e1
    cases t
    · cases e2; exact l1
    · exact l1.tr (hb.1 σ h1 v h' e2)
  · obtain ⟨t, h1, e1, e2⟩ := key σ h v h' e
    have l1 := ha.1 σ h t h1 e1
    cases t
    · cases e2
      exact ha.2 X hC σ h st false _ hs hbe e1 hf g
    · have l2 := hb.1 σ h1 v h' e2
      exact ha.2 X hC σ h st true h1 hs hbe e1 (hf.of l2) (hb.2 X hC σ h1 st v h' hs (hbe.of l1) e2 hf g)
theorem CJ_or {K : SC} {k : Nat} {a b : EX Bool} {p0 pM pT pF : Nat} (ha : CJ K k a p0 pT pM) (hb : CJ K k b pM pT pF) : CJ K k (cOr a b) p0 pT pF := by
  have key : ∀ σ h v h', cOr a b σ h = some (v, h') → ∃ t h1, a σ h = some (t, h1) ∧ (if t = true then some (true, h1) else b σ h1) = some (v, h') := by
    intro σ h v h' e
    simp only [cOr, Option.bind_eq_some_iff] at e
    obtain ⟨⟨t, h1⟩, e1, e2⟩ := e
    exact ⟨t, h1, e1, e2⟩
  refine ⟨fun σ h v h' e => ?_, fun X hC σ h st v h' hs hbe e hf g => ?_⟩
  · obtain ⟨t, h1, e1, e2⟩ := key σ h v h' e
    have l1 := ha.1 σ h t h1 e1
    cases t
    · exact l1.tr (hb.1 σ h1 v h' e2)
    · cases e2; exact l1
  · obtain ⟨t, h1, e1, e2⟩ := key σ h v h' e
    have l1 := ha.1 σ h t h1 e1
    cases t
    · have l2 := hb.1 σ h1 v h' e2
      exact ha.2 X hC σ h st false h1 hs hbe e1 (hf.of l2) (hb.2 X hC σ h1 st v h' hs (hbe.of l1) e2 hf g)
    · cases e2
      exact ha.2 X hC σ h st true _ hs hbe e1 hf g
theorem CJ_not {K : SC} {k : Nat} {a : EX Bool} {p0 pT pF : Nat} (ha : CJ K k a p0 pF pT) : CJ K k (cNot a) p0 pT pF := by
  have key : ∀ σ h v h', cNot a σ h = some (v, h') → ∃ t, a σ h = some (t, h') ∧ v = !t := by
    intro σ h v h' e
    simp only [cNot, Option.bind_eq_some_iff] at e
    obtain ⟨⟨t, h1⟩, e1, e2⟩ := e
    cases e2
    exact ⟨t, e1, rfl⟩
  refine ⟨fun σ h v h' e => ?_, fun X hC σ h st v h' hs hbe e hf g => ?_⟩
  · obtain ⟨t, e1, e2⟩ := key σ h v h' e
    exact ha.1 σ h t h' e1
  · obtain ⟨t, e1, rfl⟩ := key σ h v h' e
    refine ha.2 X hC σ h st t h' hs hbe e1 hf ?_
    cases t <;> exact g
/-- a condition of one value, or two -/
theorem CJ_h1 {α : Type} {K : SC} {k : Nat} {emba : α → List Value} {f : α → AH → Option Bool} {a : EX α} {p0 p1 pT pF : Nat} (ha : EJ K k emba a p0 p1) (row : ∀ X, CX K X → ∀ σ st h x y, f x h = some y → Gd X (kn K) (if y = true then pT else pF) σ st h → Gd X (kn K) p1 σ (emba x ++ st) h) : CJ K k (eh1 f a) p0 pT pF := by
  have key : ∀ σ h v h', eh1 f a σ h = some (v, h') → ∃ x, a σ h = some (x, h') ∧ f x h' = some v := by
    intro σ h v h' e
    simp only [eh1, Option.bind_eq_some_iff] at e
    obtain ⟨⟨x, h1⟩, e1, y, e2, e3⟩ := e
    cases e3
    exact ⟨x, e1, e2⟩
  refine ⟨fun σ h v h' e => ?_, fun X hC σ h st v h' hs hb e hf g => ?_⟩
  · obtain ⟨x, e1, -⟩ := key σ h v h' e
    exact ha.1 σ h x h' e1
  · obtain ⟨x, e1, e2⟩ := key σ h v h' e
    exact ha.2 X hC σ h st x h' hs hb e1 hf (row X hC σ st h' x v e2 g)
theorem CJ_h2 {α β : Type} {K : SC} {k kb : Nat} {emba : α → List Value} {embb : β → List Value} {f : α → β → AH → Option Bool} {a : EX α} {b : EX β} {p0 p1 p2 pT pF : Nat} (ha : EJ K k emba a p0 p1) (hb : EJ K kb embb b p1 p2) (hk : ∀ x st, sm st ≤ k → sm (emba x ++ st) ≤ kb)
    (row : ∀ X, CX K X → ∀ σ st h x y z, f x y h = some z → Gd X (kn K) (if z = true then pT else pF) σ st h → Gd X (kn K) p2 σ (embb y ++ (emba x ++ st)) h) : CJ K k (eh2 f a b) p0 pT pF := by
  have key : ∀ σ h v h', eh2 f a b σ h = some (v, h') → ∃ x h1 y, a σ h = some (x, h1) ∧ b σ h1 = some (y, h') ∧ f x y h' = some v := by
    intro σ h v h' e
    simp only [eh2, Option.bind_eq_some_iff] at e
    obtain ⟨⟨x, h1⟩, e1, ⟨y, h2⟩, e2, z, e3, e4⟩ := e
    cases e4
    exact ⟨x, h1, y, e1, e2, e3⟩
  refine ⟨fun σ h v h' e => ?_, fun X hC σ h st v h' hs hbe e hf g => ?_⟩
  · obtain ⟨x, h1, y, e1, e2, -⟩ := key σ h v h' e
    exact (ha.1 σ h x h1 e1).tr (hb.1 σ h1 y h' e2)
  · obtain ⟨x, h1, y, e1, e2, e3⟩ := key σ h v h' e
    have l1 := ha.1 σ h x h1 e1
    have l2 := hb.1 σ h1 y h' e2
    exact ha.2 X hC σ h st x h1 hs hbe e1 (hf.of l2) (hb.2 X hC σ h1 (emba x ++ st) y h' (hk x st hs) (hbe.of l1) e2 hf (row X hC σ st h' x y v e3 g))
/-! ===== statements ===== -/
/-- a jump, or none -/
def Lead (K : SC) (p q : Nat) : Prop := ∀ X, CX K X → ∀ σ st h, Gd X (kn K) q σ st h → Gd X (kn K) p σ st h
theorem Lead.rf {K : SC} {p : Nat} : Lead K p p := fun _ _ _ _ _ g => g
def sk {ρ : Type} : ST ρ := fun σ h => some (.inr 0, σ, h)
def brk {ρ : Type} : ST ρ := fun σ h => some (.inr 1, σ, h)
def cnt {ρ : Type} : ST ρ := fun σ h => some (.inr 2, σ, h)
def sq {ρ : Type} (a b : ST ρ) : ST ρ := fun σ h => (a σ h).bind fun x => match x.1 with | .inr 0 => b x.2.1 x.2.2 | o => some (o, x.2.1, x.2.2)
def sIf {ρ : Type} (c : EX Bool) (a b : ST ρ) : ST ρ := fun σ h => (c σ h).bind fun x => if x.1 = true then a σ x.2 else b σ x.2
/-- a loop: test, body, step -/
def wh {ρ : Type} (c : EX Bool) (b st : ST ρ) : Nat → ST ρ
  | 0 => fun _ _ => none
  | n + 1 => fun σ h => (c σ h).bind fun x => if x.1 = true then (b σ x.2).bind fun y => match y.1 with
      | .inl r => some (.inl r, y.2.1, y.2.2)
      | .inr 1 => some (.inr 0, y.2.1, y.2.2)
      | .inr _ => (st y.2.1 y.2.2).bind fun z => match z.1 with
        | .inr 0 => wh c b st n z.2.1 z.2.2
        | _ => none
    else some (.inr 0, σ, x.2)
/-- far above what any run needs -/
def FUEL : Nat := 1000000000
def loop {ρ : Type} (c : EX Bool) (b st : ST ρ) : ST ρ := wh c b st FUEL
def rtn {ρ : Type} (e : EX ρ) : ST ρ := fun σ h => (e σ h).bind fun x => some (.inl x.1, σ, x.2)
def rtnU : ST Unit := fun σ h => some (.inl (), σ, h)
def sE {ρ α : Type} (e : EX α) : ST ρ := fun σ h => (e σ h).bind fun x => some (.inr 0, σ, x.2)
/-- a value to a local -/
def ok1 (σ : List Value) (i : Nat) : Bool := i == 0 || (match σ[i - 1]? with | some w => w.category == 1 | none => true)
def sto (σ : List Value) (i : Nat) (v : Value) : Option (List Value) := if i < σ.length ∧ ok1 σ i = true then some (σ.set i v) else none
def sto2 (σ : List Value) (i : Nat) (v : Value) : Option (List Value) := if i + 1 < σ.length ∧ ok1 σ i = true then some ((σ.set i v).set (i + 1) jk) else none
def sI1 {ρ : Type} (i : Nat) (e : EX Int32) : ST ρ := fun σ h => (e σ h).bind fun x => (sto σ i (.int x.1)).bind fun τ => some (.inr 0, τ, x.2)
def sR1 {ρ : Type} (i : Nat) (e : EX (Option Nat)) : ST ρ := fun σ h => (e σ h).bind fun x => (sto σ i (va_rf x.1)).bind fun τ => some (.inr 0, τ, x.2)
def sJ1 {ρ : Type} (i : Nat) (e : EX Int64) : ST ρ := fun σ h => (e σ h).bind fun x => (sto2 σ i (.long x.1)).bind fun τ => some (.inr 0, τ, x.2)
def sh2 {ρ α β : Type} (f : α → β → AH → Option AH) (a : EX α) (b : EX β) : ST ρ := fun σ h => (a σ h).bind fun x => (b σ x.2).bind fun y => (f x.1 y.1 y.2).bind fun z => some (.inr 0, σ, z)
def sh3 {ρ α β γ : Type} (f : α → β → γ → AH → Option AH) (a : EX α) (b : EX β) (c : EX γ) : ST ρ := fun σ h => (a σ h).bind fun x => (b σ x.2).bind fun y => (c σ y.2).bind fun w => (f x.1 y.1 w.1 w.2).bind fun z => some (.inr 0, σ, z)
/-- o.f op= e: read first -/
def su2 {ρ α β γ : Type} (g : α → AH → Option β) (f : α → β → γ → AH → Option AH) (a : EX α) (c : EX γ) : ST ρ := fun σ h => (a σ h).bind fun x => (g x.1 x.2).bind fun u => (c σ x.2).bind fun w => (f x.1 u w.1 w.2).bind fun z => some (.inr 0, σ, z)
/-- a[i] op= e -/
def su3 {ρ α β γ δ : Type} (g : α → β → AH → Option δ) (f : α → β → δ → γ → AH → Option AH) (a : EX α) (b : EX β) (c : EX γ) : ST ρ := fun σ h => (a σ h).bind fun x => (b σ x.2).bind fun y => (g x.1 y.1 y.2).bind fun u => (c σ y.2).bind fun w => (f x.1 y.1 u w.1 w.2).bind fun z => some (.inr 0, σ, z)
section SJS
variable {ρ : Type} {K : SC} {emb : ρ → List Value} {ri : Instr}
theorem SJ_sk {pc nB nC : Nat} : SJ K emb ri sk pc pc nB nC := by
  refine ⟨fun σ h o σ' h' e => ?_, fun X hC rf hf hR σ h o σ' h' hb e hfi g => ?_⟩
  · cases e; exact Le.rf
  · cases e; exact g
theorem SJ_brk {nN nC pc : Nat} : SJ K emb ri brk pc nN pc nC := by
  refine ⟨fun σ h o σ' h' e => ?_, fun X hC rf hf hR σ h o σ' h' hb e hfi g => ?_⟩
  · cases e; exact Le.rf
  · cases e; exact g
theorem SJ_cnt {nN nB pc : Nat} : SJ K emb ri cnt pc nN nB pc := by
  refine ⟨fun σ h o σ' h' e => ?_, fun X hC rf hf hR σ h o σ' h' hb e hfi g => ?_⟩
  · cases e; exact Le.rf
  · cases e; exact g
/-- the way to and from a statement, by jumps -/
theorem SJ_pre {S : ST ρ} {p q nN nB nC : Nat} (hl : Lead K p q) (hs : SJ K emb ri S q nN nB nC) : SJ K emb ri S p nN nB nC :=
  ⟨hs.1, fun X hC rf hf hR σ h o σ' h' hb e hfi g => hl X hC σ [] h (hs.2 X hC rf hf hR σ h o σ' h' hb e hfi g)⟩
theorem SJ_post {S : ST ρ} {p n nN nB nC : Nat} (hs : SJ K emb ri S p n nB nC) (hl : Lead K n nN) : SJ K emb ri S p nN nB nC := by
  refine ⟨hs.1, fun X hC rf hf hR σ h o σ' h' hb e hfi g => hs.2 X hC rf hf hR σ h o σ' h' hb e hfi ?_⟩
  match o, g with
  | .inl r, g => exact g
  | .inr 0, g => exact hl X hC σ' [] h' g
  | .inr 1, g => exact g
  | .inr (n + 2), g => exact g
theorem SJ_sq {a b : ST ρ} {p0 p1 nN nB nC : Nat} (ha : SJ K emb ri a p0 p1 nB nC) (hb : SJ K emb ri b p1 nN nB nC) : SJ K emb ri (sq a b) p0 nN nB nC := by
  have key : ∀ σ h o σ' h', sq a b σ h = some (o, σ', h') → ∃ o1 σ1 h1, a σ h = some (o1, σ1, h1) ∧ ((o1 = .inr 0 ∧ b σ1 h1 = some (o, σ', h')) ∨ (o1 ≠ .inr 0 ∧ o = o1 ∧ σ' = σ1 ∧ h' = h1)) := by
    intro σ h o σ' h' e
    simp only [sq, Option.bind_eq_some_iff] at e
    obtain ⟨⟨o1, σ1, h1⟩, e1, e2⟩ := e
    refine ⟨o1, σ1, h1, e1, ?_⟩
    match o1, e2 with
    | .inr 0, e2 => exact Or.inl ⟨rfl, e2⟩
    | .inl r, e2 => cases e2; exact Or.inr ⟨nofun, rfl, rfl, rfl⟩
    | .inr (n + 1), e2 => cases e2; exact Or.inr ⟨nofun, rfl, rfl, rfl⟩
  refine ⟨fun σ h o σ' h' e => ?_, fun X hC rf hf hR σ h o σ' h' hbe e hfi g => ?_⟩
  · obtain ⟨o1, σ1, h1, e1, e2 | ⟨-, -, -, e2⟩⟩ := key σ h o σ' h' e
    · exact (ha.1 _ _ _ _ _ e1).tr (hb.1 _ _ _ _ _ e2.2)
    · rw [e2]; exact ha.1 _ _ _ _ _ e1
  · obtain ⟨o1, σ1, h1, e1, ⟨rfl, e2⟩ | ⟨hne, rfl, rfl, rfl⟩⟩ := key σ h o σ' h' e
    · have l1 := ha.1 _ _ _ _ _ e1
      have l2 := hb.1 _ _ _ _ _ e2
      exact ha.2 X hC rf hf hR σ h _ σ1 h1 hbe e1 (hfi.of l2) (hb.2 X hC rf hf hR σ1 h1 o σ' h' (hbe.of l1) e2 hfi g)
    · refine ha.2 X hC rf hf hR σ h _ _ _ hbe e1 hfi ?_
      match o, hne, g with
      | .inl r, _, g => exact g
      | .inr 0, hne, g => exact absurd rfl hne
      | .inr 1, _, g => exact g
      | .inr (n + 2), _, g => exact g
theorem SJ_if {c : EX Bool} {a b : ST ρ} {p0 pT pF nN nB nC : Nat} (hc : CJ K 0 c p0 pT pF) (ha : SJ K emb ri a pT nN nB nC) (hb : SJ K emb ri b pF nN nB nC) : SJ K emb ri (sIf c a b) p0 nN nB nC := by
  have key : ∀ σ h o σ' h', sIf c a b σ h = some (o, σ', h') → ∃ t h1, c σ h = some (t, h1) ∧ (if t = true then a σ h1 else b σ h1) = some (o, σ', h') := by
    intro σ h o σ' h' e
    simp only [sIf, Option.bind_eq_some_iff] at e
    obtain ⟨⟨t, h1⟩, e1, e2⟩ := e
    exact ⟨t, h1, e1, e2⟩
  refine ⟨fun σ h o σ' h' e => ?_, fun X hC rf hf hR σ h o σ' h' hbe e hfi g => ?_⟩
  · obtain ⟨t, h1, e1, e2⟩ := key σ h o σ' h' e
    have l1 := hc.1 σ h t h1 e1
    cases t
    · exact l1.tr (hb.1 _ _ _ _ _ e2)
    · exact l1.tr (ha.1 _ _ _ _ _ e2)
  · obtain ⟨t, h1, e1, e2⟩ := key σ h o σ' h' e
    have l1 := hc.1 σ h t h1 e1
    cases t
    · have l2 := hb.1 _ _ _ _ _ e2
      exact hc.2 X hC σ h [] false h1 (Nat.le_refl 0) hbe e1 (hfi.of l2) (hb.2 X hC rf hf hR σ h1 o σ' h' (hbe.of l1) e2 hfi g)
    · have l2 := ha.1 _ _ _ _ _ e2
      exact hc.2 X hC σ h [] true h1 (Nat.le_refl 0) hbe e1 (hfi.of l2) (ha.2 X hC rf hf hR σ h1 o σ' h' (hbe.of l1) e2 hfi g)
theorem SJ_wh {c : EX Bool} {b st : ST ρ} {p0 pB pS pE nB nC : Nat} (hc : CJ K 0 c p0 pB pE) (hb : SJ K emb ri b pB pS pE pS) (hs : SJ K emb ri st pS p0 pE pE) : ∀ n, SJ K emb ri (wh c b st n) p0 pE nB nC := by
  intro n
  induction n with
  | zero => exact ⟨fun σ h o σ' h' e => (by cases e), fun X hC rf hf hR σ h o σ' h' hb e => (by cases e)⟩
  | succ n ih =>
    have key : ∀ σ h o σ' h', wh c b st (n + 1) σ h = some (o, σ', h') → ∃ t h1, c σ h = some (t, h1) ∧ ((t = false ∧ o = .inr 0 ∧ σ' = σ ∧ h' = h1) ∨ (t = true ∧ ∃ o2 σ2 h2, b σ h1 = some (o2, σ2, h2) ∧
        ((∃ r, o2 = .inl r ∧ o = .inl r ∧ σ' = σ2 ∧ h' = h2) ∨ (o2 = .inr 1 ∧ o = .inr 0 ∧ σ' = σ2 ∧ h' = h2) ∨ ((o2 = .inr 0 ∨ ∃ j, o2 = .inr (j + 2)) ∧ ∃ σ3 h3, st σ2 h2 = some (.inr 0, σ3, h3) ∧ wh c b st n σ3 h3 = some (o, σ', h'))))) := by
      intro σ h o σ' h' e
      simp only [wh, Option.bind_eq_some_iff] at e
      obtain ⟨⟨t, h1⟩, e1, e2⟩ := e
      refine ⟨t, h1, e1, ?_⟩
      cases t
      · simp at e2
        exact Or.inl ⟨rfl, e2.1.symm, e2.2.1.symm, e2.2.2.symm⟩
      · refine Or.inr ⟨rfl, ?_⟩
        simp only [if_true, Option.bind_eq_some_iff] at e2
        obtain ⟨⟨o2, σ2, h2⟩, e3, e4⟩ := e2
        refine ⟨o2, σ2, h2, e3, ?_⟩
        have go : ∀ (z : Option ((ρ ⊕ Nat) × List Value × AH)), (z.bind fun z => match z.1 with | .inr 0 => wh c b st n z.2.1 z.2.2 | _ => none) = some (o, σ', h') → ∃ σ3 h3, z = some (.inr 0, σ3, h3) ∧ wh c b st n σ3 h3 = some (o, σ', h') := by
          intro z hz
          simp only [Option.bind_eq_some_iff] at hz
          obtain ⟨⟨o4, σ4, h4⟩, rfl, hz⟩ := hz
          match o4, hz with
          | .inr 0, hz => exact ⟨σ4, h4, rfl, hz⟩
          | .inl _, hz => cases hz
          | .inr (_ + 1), hz => cases hz
        match o2, e4 with
        | .inl r, e4 => cases e4; exact Or.inl ⟨r, rfl, rfl, rfl, rfl⟩
        | .inr 1, e4 => cases e4; exact Or.inr (Or.inl ⟨rfl, rfl, rfl, rfl⟩)
        | .inr 0, e4 => exact Or.inr (Or.inr ⟨Or.inl rfl, go _ e4⟩)
        | .inr (j + 2), e4 => exact Or.inr (Or.inr ⟨Or.inr ⟨j, rfl⟩, go _ e4⟩)
    refine ⟨fun σ h o σ' h' e => ?_, fun X hC rf hf hR σ h o σ' h' hbe e hfi g => ?_⟩
    · obtain ⟨t, h1, e1, ⟨-, -, -, rfl⟩ | ⟨-, o2, σ2, h2, e2, ⟨r, -, -, -, rfl⟩ | ⟨-, -, -, rfl⟩ | ⟨-, σ3, h3, e3, e4⟩⟩⟩ := key σ h o σ' h' e
      · exact hc.1 _ _ _ _ e1
      · exact (hc.1 _ _ _ _ e1).tr (hb.1 _ _ _ _ _ e2)
      · exact (hc.1 _ _ _ _ e1).tr (hb.1 _ _ _ _ _ e2)
      · exact (hc.1 _ _ _ _ e1).tr ((hb.1 _ _ _ _ _ e2).tr ((hs.1 _ _ _ _ _ e3).tr (ih.1 _ _ _ _ _ e4)))
    · obtain ⟨t, h1, e1, ⟨rfl, rfl, rfl, rfl⟩ | ⟨rfl, o2, σ2, h2, e2, hrest⟩⟩ := key σ h o σ' h' e
      · exact hc.2 X hC _ h [] false _ (Nat.le_refl 0) hbe e1 hfi g
      · have l1 := hc.1 _ _ _ _ e1
        have l2 := hb.1 _ _ _ _ _ e2
        obtain ⟨r, rfl, rfl, rfl, rfl⟩ | ⟨rfl, rfl, rfl, rfl⟩ | ⟨ho2, σ3, h3, e3, e4⟩ := hrest
        · exact hc.2 X hC σ h [] true h1 (Nat.le_refl 0) hbe e1 (hfi.of l2) (hb.2 X hC rf hf hR σ h1 _ _ _ (hbe.of l1) e2 hfi g)
        · exact hc.2 X hC σ h [] true h1 (Nat.le_refl 0) hbe e1 (hfi.of l2) (hb.2 X hC rf hf hR σ h1 _ _ _ (hbe.of l1) e2 hfi g)
        · have l3 := hs.1 _ _ _ _ _ e3
          have l4 := ih.1 _ _ _ _ _ e4
          have f3 := hfi.of l4
          have f2 := f3.of l3
          have f1 := f2.of l2
          have b1 := hbe.of l1
          have b2 := b1.of l2
          have b3 := b2.of l3
          have g3 := ih.2 X hC rf hf hR σ3 h3 o σ' h' b3 e4 hfi g
          have g2 := hs.2 X hC rf hf hR σ2 h2 _ σ3 h3 b2 e3 f3 g3
          refine hc.2 X hC σ h [] true h1 (Nat.le_refl 0) hbe e1 f1 (hb.2 X hC rf hf hR σ h1 o2 σ2 h2 b1 e2 f2 ?_)
          obtain rfl | ⟨j, rfl⟩ := ho2
          · exact g2
          · exact g2
theorem SJ_ret {e : EX ρ} {p0 p1 nN nB nC : Nat} (he : EJ K 0 emb e p0 p1) (hd : decode (kc K) p1 = .ok (ri, 1)) : SJ K emb ri (rtn e) p0 nN nB nC := by
  have key : ∀ σ h o σ' h', rtn e σ h = some (o, σ', h') → ∃ r, e σ h = some (r, h') ∧ o = .inl r ∧ σ' = σ := by
    intro σ h o σ' h' q
    simp only [rtn, Option.bind_eq_some_iff] at q
    obtain ⟨⟨r, h1⟩, e1, e2⟩ := q
    cases e2
    exact ⟨r, e1, rfl, rfl⟩
  refine ⟨fun σ h o σ' h' q => ?_, fun X hC rf hf hR σ h o σ' h' hbe q hfi g => ?_⟩
  · obtain ⟨r, e1, -, -⟩ := key σ h o σ' h' q
    exact he.1 _ _ _ _ e1
  · obtain ⟨r, e1, rfl, rfl⟩ := key σ h o σ' h' q
    obtain ⟨rfl, rfl⟩ := g
    exact he.2 X hC _ h [] r h' (Nat.le_refl 0) hbe e1 hfi (by rw [List.append_nil]; exact hR p1 _ hd)
theorem SJ_E {α : Type} {ea : α → List Value} {e : EX α} {p0 p1 p2 nB nC : Nat} (he : EJ K 0 ea e p0 p1) (row : ∀ X, CX K X → ∀ σ h x, Gd X (kn K) p2 σ [] h → Gd X (kn K) p1 σ (ea x ++ []) h) : SJ K emb ri (sE e) p0 p2 nB nC := by
  have key : ∀ σ h o σ' h', (sE e : ST ρ) σ h = some (o, σ', h') → ∃ r, e σ h = some (r, h') ∧ o = .inr 0 ∧ σ' = σ := by
    intro σ h o σ' h' q
    simp only [sE, Option.bind_eq_some_iff] at q
    obtain ⟨⟨r, h1⟩, e1, e2⟩ := q
    cases e2
    exact ⟨r, e1, rfl, rfl⟩
  refine ⟨fun σ h o σ' h' q => ?_, fun X hC rf hf hR σ h o σ' h' hbe q hfi g => ?_⟩
  · obtain ⟨r, e1, -, -⟩ := key σ h o σ' h' q
    exact he.1 _ _ _ _ e1
  · obtain ⟨r, e1, rfl, rfl⟩ := key σ h o σ' h' q
    exact he.2 X hC _ h [] r h' (Nat.le_refl 0) hbe e1 hfi (row X hC _ _ r g)
theorem SJ_set {α : Type} {ea : α → List Value} {f : List Value → α → Option (List Value)} {e : EX α} {p0 p1 p2 nB nC : Nat} (he : EJ K 0 ea e p0 p1) (row : ∀ X, CX K X → ∀ σ τ h x, f σ x = some τ → Gd X (kn K) p2 τ [] h → Gd X (kn K) p1 σ (ea x ++ []) h) : SJ K emb ri (fun σ h => (e σ h).bind fun x => (f σ x.1).bind fun τ => some (.inr 0, τ, x.2)) p0 p2 nB nC := by
  refine ⟨fun σ h o σ' h' q => ?_, fun X hC rf hf hR σ h o σ' h' hbe q hfi g => ?_⟩
  · simp only [Option.bind_eq_some_iff] at q
    obtain ⟨⟨r, h1⟩, e1, τ, e2, e3⟩ := q
    cases e3
    exact he.1 _ _ _ _ e1
  · simp only [Option.bind_eq_some_iff] at q
    obtain ⟨⟨r, h1⟩, e1, τ, e2, e3⟩ := q
    cases e3
    exact he.2 X hC _ h [] r h1 (Nat.le_refl 0) hbe e1 hfi (row X hC _ _ _ r e2 g)
theorem SJ_h2 {α β : Type} {ea : α → List Value} {eb : β → List Value} {f : α → β → AH → Option AH} {a : EX α} {b : EX β} {p0 p1 p2 p3 kb nB nC : Nat} (ha : EJ K 0 ea a p0 p1) (hb : EJ K kb eb b p1 p2) (hk : ∀ x st, sm st ≤ 0 → sm (ea x ++ st) ≤ kb)
    (row : (∀ x y h h', f x y h = some h' → Le (kw K) h h') ∧ ∀ X, CX K X → ∀ σ h x y h', f x y h = some h' → Gd X (kn K) p3 σ [] h' → Gd X (kn K) p2 σ (eb y ++ (ea x ++ [])) h) : SJ K emb ri (sh2 f a b) p0 p3 nB nC := by
  have key : ∀ σ h o σ' h', (sh2 f a b : ST ρ) σ h = some (o, σ', h') → ∃ x h1 y h2, a σ h = some (x, h1) ∧ b σ h1 = some (y, h2) ∧ f x y h2 = some h' ∧ o = .inr 0 ∧ σ' = σ := by
    intro σ h o σ' h' q
    simp only [sh2, Option.bind_eq_some_iff] at q
    obtain ⟨⟨x, h1⟩, e1, ⟨y, h2⟩, e2, z, e3, e4⟩ := q
    cases e4
    exact ⟨x, h1, y, h2, e1, e2, e3, rfl, rfl⟩
  refine ⟨fun σ h o σ' h' q => ?_, fun X hC rf hf hR σ h o σ' h' hbe q hfi g => ?_⟩
  · obtain ⟨x, h1, y, h2, e1, e2, e3, -, -⟩ := key σ h o σ' h' q
    exact (ha.1 _ _ _ _ e1).tr ((hb.1 _ _ _ _ e2).tr (row.1 _ _ _ _ e3))
  · obtain ⟨x, h1, y, h2, e1, e2, e3, rfl, rfl⟩ := key σ h o σ' h' q
    have l1 := ha.1 _ _ _ _ e1
    have l2 := hb.1 _ _ _ _ e2
    have l3 := row.1 _ _ _ _ e3
    exact ha.2 X hC _ h [] x h1 (Nat.le_refl 0) hbe e1 ((hfi.of l3).of l2) (hb.2 X hC _ h1 _ y h2 (hk x [] (Nat.le_refl 0)) (hbe.of l1) e2 (hfi.of l3) (row.2 X hC _ _ x y _ e3 g))
theorem SJ_h3 {α β γ : Type} {ea : α → List Value} {eb : β → List Value} {ec : γ → List Value} {f : α → β → γ → AH → Option AH} {a : EX α} {b : EX β} {c : EX γ} {p0 p1 p2 p3 p4 kb kcc nB nC : Nat} (ha : EJ K 0 ea a p0 p1) (hb : EJ K kb eb b p1 p2) (hc : EJ K kcc ec c p2 p3) (hk : ∀ x st, sm st ≤ 0 → sm (ea x ++ st) ≤ kb) (hk2 : ∀ y st, sm st ≤ kb → sm (eb y ++ st) ≤ kcc)
    (row : (∀ x y z h h', f x y z h = some h' → Le (kw K) h h') ∧ ∀ X, CX K X → ∀ σ h x y z h', f x y z h = some h' → Gd X (kn K) p4 σ [] h' → Gd X (kn K) p3 σ (ec z ++ (eb y ++ (ea x ++ []))) h) : SJ K emb ri (sh3 f a b c) p0 p4 nB nC := by
  have key : ∀ σ h o σ' h', (sh3 f a b c : ST ρ) σ h = some (o, σ', h') → ∃ x h1 y h2 z h3, a σ h = some (x, h1) ∧ b σ h1 = some (y, h2) ∧ c σ h2 = some (z, h3) ∧ f x y z h3 = some h' ∧ o = .inr 0 ∧ σ' = σ := by
    intro σ h o σ' h' q
    simp only [sh3, Option.bind_eq_some_iff] at q
    obtain ⟨⟨x, h1⟩, e1, ⟨y, h2⟩, e2, ⟨z, h3⟩, e3, w, e4, e5⟩ := q
    cases e5
    exact ⟨x, h1, y, h2, z, h3, e1, e2, e3, e4, rfl, rfl⟩
  refine ⟨fun σ h o σ' h' q => ?_, fun X hC rf hf hR σ h o σ' h' hbe q hfi g => ?_⟩
  · obtain ⟨x, h1, y, h2, z, h3, e1, e2, e3, e4, -, -⟩ := key σ h o σ' h' q
    exact (ha.1 _ _ _ _ e1).tr ((hb.1 _ _ _ _ e2).tr ((hc.1 _ _ _ _ e3).tr (row.1 _ _ _ _ _ e4)))
  · obtain ⟨x, h1, y, h2, z, h3, e1, e2, e3, e4, rfl, rfl⟩ := key σ h o σ' h' q
    have l1 := ha.1 _ _ _ _ e1
    have l2 := hb.1 _ _ _ _ e2
    have l3 := hc.1 _ _ _ _ e3
    have l4 := row.1 _ _ _ _ _ e4
    have f3 := hfi.of l4
    have f2 := f3.of l3
    have f1 := f2.of l2
    have q1 := hk x [] (Nat.le_refl 0)
    exact ha.2 X hC _ h [] x h1 (Nat.le_refl 0) hbe e1 f1 (hb.2 X hC _ h1 _ y h2 q1 (hbe.of l1) e2 f2 (hc.2 X hC _ h2 _ z h3 (hk2 y _ q1) ((hbe.of l1).of l2) e3 f3 (row.2 X hC _ _ x y z _ e4 g)))
theorem SJ_u2 {α β γ : Type} {ea : α → List Value} {eu : β → List Value} {ec : γ → List Value} {r : α → AH → Option β} {f : α → β → γ → AH → Option AH} {a : EX α} {c : EX γ} {p0 p1 p2 p3 p4 kcc nB nC : Nat} (ha : EJ K 0 ea a p0 p1) (rd : ∀ X, CX K X → ∀ σ h x u, r x h = some u → Gd X (kn K) p2 σ (eu u ++ (ea x ++ [])) h → Gd X (kn K) p1 σ (ea x ++ []) h) (hc : EJ K kcc ec c p2 p3) (hk : ∀ x u, sm (eu u ++ (ea x ++ [])) ≤ kcc)
    (row : (∀ x y z h h', f x y z h = some h' → Le (kw K) h h') ∧ ∀ X, CX K X → ∀ σ h x u z h', f x u z h = some h' → Gd X (kn K) p4 σ [] h' → Gd X (kn K) p3 σ (ec z ++ (eu u ++ (ea x ++ []))) h) : SJ K emb ri (su2 r f a c) p0 p4 nB nC := by
  have key : ∀ σ h o σ' h', (su2 r f a c : ST ρ) σ h = some (o, σ', h') → ∃ x h1 u z h3, a σ h = some (x, h1) ∧ r x h1 = some u ∧ c σ h1 = some (z, h3) ∧ f x u z h3 = some h' ∧ o = .inr 0 ∧ σ' = σ := by
    intro σ h o σ' h' q
    simp only [su2, Option.bind_eq_some_iff] at q
    obtain ⟨⟨x, h1⟩, e1, u, e2, ⟨z, h3⟩, e3, w, e4, e5⟩ := q
    cases e5
    exact ⟨x, h1, u, z, h3, e1, e2, e3, e4, rfl, rfl⟩
  refine ⟨fun σ h o σ' h' q => ?_, fun X hC rf hf hR σ h o σ' h' hbe q hfi g => ?_⟩
  · obtain ⟨x, h1, u, z, h3, e1, e2, e3, e4, -, -⟩ := key σ h o σ' h' q
    exact (ha.1 _ _ _ _ e1).tr ((hc.1 _ _ _ _ e3).tr (row.1 _ _ _ _ _ e4))
  · obtain ⟨x, h1, u, z, h3, e1, e2, e3, e4, rfl, rfl⟩ := key σ h o σ' h' q
    have l1 := ha.1 _ _ _ _ e1
    have l3 := hc.1 _ _ _ _ e3
    have l4 := row.1 _ _ _ _ _ e4
    have f3 := hfi.of l4
    have f2 := f3.of l3
    exact ha.2 X hC _ h [] x h1 (Nat.le_refl 0) hbe e1 f2 (rd X hC _ _ x u e2 (hc.2 X hC _ h1 _ z h3 (hk x u) (hbe.of l1) e3 f3 (row.2 X hC _ _ x u z _ e4 g)))
theorem SJ_u3 {α β γ δ : Type} {ea : α → List Value} {eb : β → List Value} {eu : δ → List Value} {ec : γ → List Value} {r : α → β → AH → Option δ} {f : α → β → δ → γ → AH → Option AH} {a : EX α} {b : EX β} {c : EX γ} {p0 p1 p2 p3 p4 p5 kb kcc nB nC : Nat} (ha : EJ K 0 ea a p0 p1) (hb : EJ K kb eb b p1 p2) (rd : ∀ X, CX K X → ∀ σ h x y u, r x y h = some u → Gd X (kn K) p3 σ (eu u ++ (eb y ++ (ea x ++ []))) h → Gd X (kn K) p2 σ (eb y ++ (ea x ++ [])) h) (hc : EJ K kcc ec c p3 p4) (hk0 : ∀ x, sm (ea x ++ []) ≤ kb) (hk : ∀ x y u, sm (eu u ++ (eb y ++ (ea x ++ []))) ≤ kcc)
    (row : (∀ x y u z h h', f x y u z h = some h' → Le (kw K) h h') ∧ ∀ X, CX K X → ∀ σ h x y u z h', f x y u z h = some h' → Gd X (kn K) p5 σ [] h' → Gd X (kn K) p4 σ (ec z ++ (eu u ++ (eb y ++ (ea x ++ [])))) h) : SJ K emb ri (su3 r f a b c) p0 p5 nB nC := by
  have key : ∀ σ h o σ' h', (su3 r f a b c : ST ρ) σ h = some (o, σ', h') → ∃ x h1 y h2 u z h3, a σ h = some (x, h1) ∧ b σ h1 = some (y, h2) ∧ r x y h2 = some u ∧ c σ h2 = some (z, h3) ∧ f x y u z h3 = some h' ∧ o = .inr 0 ∧ σ' = σ := by
    intro σ h o σ' h' q
    simp only [su3, Option.bind_eq_some_iff] at q
    obtain ⟨⟨x, h1⟩, e1, ⟨y, h2⟩, e1', u, e2, ⟨z, h3⟩, e3, w, e4, e5⟩ := q
    cases e5
    exact ⟨x, h1, y, h2, u, z, h3, e1, e1', e2, e3, e4, rfl, rfl⟩
  refine ⟨fun σ h o σ' h' q => ?_, fun X hC rf hf hR σ h o σ' h' hbe q hfi g => ?_⟩
  · obtain ⟨x, h1, y, h2, u, z, h3, e1, e1', e2, e3, e4, -, -⟩ := key σ h o σ' h' q
    exact (ha.1 _ _ _ _ e1).tr ((hb.1 _ _ _ _ e1').tr ((hc.1 _ _ _ _ e3).tr (row.1 _ _ _ _ _ _ e4)))
  · obtain ⟨x, h1, y, h2, u, z, h3, e1, e1', e2, e3, e4, rfl, rfl⟩ := key σ h o σ' h' q
    have l1 := ha.1 _ _ _ _ e1
    have l2 := hb.1 _ _ _ _ e1'
    have l3 := hc.1 _ _ _ _ e3
    have l4 := row.1 _ _ _ _ _ _ e4
    have f3 := hfi.of l4
    have f2 := f3.of l3
    have f1 := f2.of l2
    exact ha.2 X hC _ h [] x h1 (Nat.le_refl 0) hbe e1 f1 (hb.2 X hC _ h1 _ y h2 (hk0 x) (hbe.of l1) e1' f2 (rd X hC _ _ x y u e2 (hc.2 X hC _ h2 _ z h3 (hk x y u) ((hbe.of l1).of l2) e3 f3 (row.2 X hC _ _ x y u z _ e4 g))))
end SJS
