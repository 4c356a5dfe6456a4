/-! ===== abstract heaps: size, slots made, the site of each cell, its length, its ints, longs, references ===== -/
abbrev AH : Type := Nat × Nat × (Nat → Nat) × (Nat → Nat) × (Nat → Nat → Int32) × (Nat → Nat → Int64) × (Nat → Nat → Option Nat)
def hN (h : AH) : Nat := h.1
def hU (h : AH) : Nat := h.2.1
def hT (h : AH) : Nat → Nat := h.2.2.1
def hL (h : AH) : Nat → Nat := h.2.2.2.1
def hI (h : AH) : Nat → Nat → Int32 := h.2.2.2.2.1
def hJ (h : AH) : Nat → Nat → Int64 := h.2.2.2.2.2.1
def hR (h : AH) : Nat → Nat → Option Nat := h.2.2.2.2.2.2
def up2 {α : Type} (f : Nat → Nat → α) (a k : Nat) (v : α) : Nat → Nat → α := fun x y => if x = a ∧ y = k then v else f x y
def sI (h : AH) (a k : Nat) (v : Int32) : AH := (h.1, h.2.1, h.2.2.1, h.2.2.2.1, up2 h.2.2.2.2.1 a k v, h.2.2.2.2.2.1, h.2.2.2.2.2.2)
def sJ (h : AH) (a k : Nat) (v : Int64) : AH := (h.1, h.2.1, h.2.2.1, h.2.2.2.1, h.2.2.2.2.1, up2 h.2.2.2.2.2.1 a k v, h.2.2.2.2.2.2)
def sR (h : AH) (a k : Nat) (v : Option Nat) : AH := (h.1, h.2.1, h.2.2.1, h.2.2.2.1, h.2.2.2.2.1, h.2.2.2.2.2.1, up2 h.2.2.2.2.2.2 a k v)
/-- a new cell: its site, its length, its slots, its contents -/
def nwC (h : AH) (t n u : Nat) (fi : Nat → Int32) (fj : Nat → Int64) (fr : Nat → Option Nat) : AH := (h.1 + 1, h.2.1 + u, va_up h.2.2.1 h.1 t, va_up h.2.2.2.1 h.1 n, va_up h.2.2.2.2.1 h.1 fi, va_up h.2.2.2.2.2.1 h.1 fj, va_up h.2.2.2.2.2.2 h.1 fr)
def nw (h : AH) (t n u : Nat) : AH := nwC h t n u (fun _ => 0) (fun _ => 0) (fun _ => none)
/-- an array's contents at once -/
def sIs (h : AH) (a : Nat) (f : Nat → Int32) : AH := (h.1, h.2.1, h.2.2.1, h.2.2.2.1, va_up h.2.2.2.2.1 a f, h.2.2.2.2.2.1, h.2.2.2.2.2.2)
def sJs (h : AH) (a : Nat) (f : Nat → Int64) : AH := (h.1, h.2.1, h.2.2.1, h.2.2.2.1, h.2.2.2.2.1, va_up h.2.2.2.2.2.1 a f, h.2.2.2.2.2.2)
/-! sites: 1 .. 13 objects of the classes X0 .. X12; the others arrays, by the field that holds them -/
def sC (t : Nat) : Option Nat := if 1 ≤ t ∧ t ≤ 13 then some (t - 1) else none
def sA (t : Nat) : Option FieldType := match t with
  | 20 => some .int | 21 => some .long | 22 => some .long | 23 => some (.object "TwoLevels$State") | 24 => some (.object "TwoLevels$Shelf")
  | 25 => some .int | 26 => some .int | 27 => some (.object "TwoLevels$Rule") | 28 => some (.object "TwoLevels$Rule")
  | 29 => some .int | 30 => some .int | 31 => some (.array .int) | 32 => some .int | 33 => some (.object "TwoLevels$Firsts") | 34 => some .int | 35 => some (.object "TwoLevels$Firsts") | 36 => some .int
  | 37 => some (.array .int) | 38 => some .int | 39 => some .int | 40 => some .int | 41 => some .int | 42 => some (.object "TwoLevels$Choice")
  | 43 => some .int | 44 => some .int | 45 => some .int | 46 => some .int | 47 => some .long | 48 => some .int
  | 49 => some .long | 50 => some .long | 51 => some (.object "TwoLevels$Node") | 52 => some (.object "TwoLevels$Fit") | 53 => some .int | 54 => some .int
  | 70 => some .int | 71 => some .int | 72 => some .int | 73 => some .int | 74 => some .boolean | 75 => some .byte | 76 => some .int | 77 => some .int | 78 => some .int | 79 => some .int
  | 80 => some .int | 81 => some .int | 82 => some .int | 83 => some .int | 84 => some .int | 85 => some .boolean | 86 => some .boolean | 87 => some .int | 88 => some .int | 89 => some .int
  | 90 => some .int | 91 => some .int | 92 => some .int | 93 => some .int | 94 => some .int | 95 => some .int | 96 => some .int | 97 => some .int | 98 => some .boolean | 99 => some .int
  | 100 => some .int | 101 => some .int
  | _ => none
def ATS : List FieldType := [.int, .long, .byte, .boolean, .array .int, .object "TwoLevels$State", .object "TwoLevels$Shelf", .object "TwoLevels$Rule", .object "TwoLevels$Firsts", .object "TwoLevels$Choice", .object "TwoLevels$Node", .object "TwoLevels$Fit"]
theorem sA_in {t : Nat} {ty : FieldType} (h : sA t = some ty) : ty ∈ ATS := by
  unfold sA at h
  split at h <;> first | (cases h; decide +kernel) | cases h
theorem sA_sC {t : Nat} {ty : FieldType} (h : sA t = some ty) : sC t = none := by
  unfold sA at h
  split at h <;> first | rfl | cases h
theorem sC_sA {t c : Nat} (h : sC t = some c) : sA t = none := by
  cases h1 : sA t with
  | none => rfl
  | some ty => rw [sA_sC h1] at h; cases h
theorem sA_0 {t : Nat} {ty : FieldType} (h : sA t = some ty) : t ≠ 0 := by
  rintro rfl
  cases h
theorem sC_0 {t c : Nat} (h : sC t = some c) : t ≠ 0 := by
  rintro rfl
  cases h
abbrev classes : List vw_C := [(RX0, TX0, 11), (RX1, TX1, 2), (RX2, TX2, 12), (RX3, TX3, 11), (RX4, TX4, 9), (RX1, TX1, 0), (RX6, TX6, 5), (RX7, TX7, 11), (RX8, TX8, 3), (RX9, TX9, 4), (RX10, TX10, 7), (RX11, TX11, 16), (RX12, TX12, 52)]
def fty (c : Nat) : Nat → FieldType := match c with
  | 0 => tyX0 | 1 => tyX1 | 2 => tyX2 | 3 => tyX3 | 4 => tyX4 | 5 => tyX5 | 6 => tyX6 | 7 => tyX7 | 8 => tyX8 | 9 => tyX9 | 10 => tyX10 | 11 => tyX11 | _ => tyX12
/-- what a cell keeps at a place, by a type -/
def kv (ty : FieldType) (h : AH) (a k : Nat) : Value := match ty with
  | .long => .long (hJ h a k)
  | .object _ => va_rf (hR h a k)
  | .array _ => va_rf (hR h a k)
  | _ => .int (hI h a k)
def fv (h : AH) (a c k : Nat) : Value := kv (fty c k) h a k
def cn (ty : FieldType) (h : AH) (a : Nat) : vp_A := (hL h a, match ty with
  | .long => .inr (.inl (hJ h a))
  | .object _ => .inr (.inr (.inr (.inr (hR h a))))
  | .array _ => .inr (.inr (.inr (.inr (hR h a))))
  | _ => .inl (hI h a))
theorem cn_cell (ty : FieldType) (cA : ClassId) (h : AH) (a : Nat) : vp_cell cA (cn ty h a) = arrV cA (hL h a) (kv ty h a) := by
  cases ty <;> rfl
def Ck (D : va_G) (aC : FieldType → ClassId) (h : AH) (H : Heap) (a : Nat) : Prop :=
  (∀ c, sC (hT h a) = some c → ∃ r : vw_C, classes[c]? = some r ∧ t_OB a (D.1 c) r.2.2 (D.2 c) H (fv h a c)) ∧ (∀ ty, sA (hT h a) = some ty → H[a]? = some (arrV (aC ty) (hL h a) (kv ty h a)))
/-- the machine's heap holds the abstract one; what was there at the beginning is as it was -/
def Hr (D : va_G) (aC : FieldType → ClassId) (H0 : Heap) (h : AH) (H : Heap) : Prop :=
  H.size = hN h ∧ H0.size ≤ hN h ∧ (∀ q : Nat, q < H0.size → H[q]? = H0[q]?) ∧ ∀ a, hT h a ≠ 0 → H0.size ≤ a ∧ a < hN h ∧ Ck D aC h H a
/-- an extension: cells of sites outside w stay as they are -/
def Le (w : List Nat) (h h' : AH) : Prop :=
  hN h ≤ hN h' ∧ hU h ≤ hU h' ∧ (∀ a, a < hN h → hT h' a = hT h a ∧ hL h' a = hL h a ∧ (hT h a ∉ w → hI h' a = hI h a ∧ hJ h' a = hJ h a ∧ hR h' a = hR h a)) ∧ ((∀ a, hT h a ≠ 0 → a < hN h) → ∀ a, hT h' a ≠ 0 → a < hN h')
theorem Le.rf {w : List Nat} {h : AH} : Le w h h := ⟨Nat.le_refl _, Nat.le_refl _, fun _ _ => ⟨rfl, rfl, fun _ => ⟨rfl, rfl, rfl⟩⟩, fun h => h⟩
theorem Le.tr {w : List Nat} {h h1 h2 : AH} (a : Le w h h1) (b : Le w h1 h2) : Le w h h2 := by
  refine ⟨Nat.le_trans a.1 b.1, Nat.le_trans a.2.1 b.2.1, fun q hq => ?_, fun z => b.2.2.2 (a.2.2.2 z)⟩
  obtain ⟨e1, e2, e3⟩ := a.2.2.1 q hq
  obtain ⟨f1, f2, f3⟩ := b.2.2.1 q (Nat.lt_of_lt_of_le hq a.1)
  refine ⟨f1.trans e1, f2.trans e2, fun hw => ?_⟩
  obtain ⟨g1, g2, g3⟩ := f3 (by rw [e1]; exact hw)
  obtain ⟨k1, k2, k3⟩ := e3 hw
  exact ⟨g1.trans k1, g2.trans k2, g3.trans k3⟩
theorem Le.mono {w w' : List Nat} {h h1 : AH} (a : Le w h h1) (hw : ∀ t ∈ w, t ∈ w') : Le w' h h1 :=
  ⟨a.1, a.2.1, fun q hq => ⟨(a.2.2.1 q hq).1, (a.2.2.1 q hq).2.1, fun z => (a.2.2.1 q hq).2.2 (fun y => z (hw _ y))⟩, a.2.2.2⟩
theorem up2_ne {α : Type} {f : Nat → Nat → α} {a k b : Nat} {v : α} (h : b ≠ a) : up2 f a k v b = f b := by
  funext y
  simp [up2, h]
theorem Le.sI {w : List Nat} {h : AH} {a k : Nat} {v : Int32} (hw : hT h a ∈ w) : Le w h (sI h a k v) :=
  ⟨Nat.le_refl _, Nat.le_refl _, fun q _ => ⟨rfl, rfl, fun z => ⟨up2_ne (fun e => z (e ▸ hw)), rfl, rfl⟩⟩, fun h => h⟩
theorem Le.sJ {w : List Nat} {h : AH} {a k : Nat} {v : Int64} (hw : hT h a ∈ w) : Le w h (sJ h a k v) :=
  ⟨Nat.le_refl _, Nat.le_refl _, fun q _ => ⟨rfl, rfl, fun z => ⟨rfl, up2_ne (fun e => z (e ▸ hw)), rfl⟩⟩, fun h => h⟩
theorem Le.sR {w : List Nat} {h : AH} {a k : Nat} {v : Option Nat} (hw : hT h a ∈ w) : Le w h (sR h a k v) :=
  ⟨Nat.le_refl _, Nat.le_refl _, fun q _ => ⟨rfl, rfl, fun z => ⟨rfl, rfl, up2_ne (fun e => z (e ▸ hw))⟩⟩, fun h => h⟩
theorem Le.sIs {w : List Nat} {h : AH} {a : Nat} {f : Nat → Int32} (hw : hT h a ∈ w) : Le w h (sIs h a f) :=
  ⟨Nat.le_refl _, Nat.le_refl _, fun q _ => ⟨rfl, rfl, fun z => ⟨va_up_ne _ _ (fun e => z (e ▸ hw)), rfl, rfl⟩⟩, fun h => h⟩
theorem Le.sJs {w : List Nat} {h : AH} {a : Nat} {f : Nat → Int64} (hw : hT h a ∈ w) : Le w h (sJs h a f) :=
  ⟨Nat.le_refl _, Nat.le_refl _, fun q _ => ⟨rfl, rfl, fun z => ⟨rfl, va_up_ne _ _ (fun e => z (e ▸ hw)), rfl⟩⟩, fun h => h⟩
theorem Le.nwC {w : List Nat} {h : AH} {t n u : Nat} {fi : Nat → Int32} {fj : Nat → Int64} {fr : Nat → Option Nat} : Le w h (nwC h t n u fi fj fr) := by
  refine ⟨Nat.le_succ _, Nat.le_add_right _ _, fun q hq => ?_, fun z a ha => ?_⟩
  · have hne : q ≠ h.1 := Nat.ne_of_lt hq
    exact ⟨va_up_ne _ _ hne, va_up_ne _ _ hne, fun _ => ⟨va_up_ne _ _ hne, va_up_ne _ _ hne, va_up_ne _ _ hne⟩⟩
  · by_cases e : a = h.1
    · subst e; exact Nat.lt_succ_self _
    · have : hT h a ≠ 0 := fun y => ha ((va_up_ne _ _ e).trans y)
      exact Nat.lt_succ_of_lt (z a this)
theorem Ck.cong {D : va_G} {aC : FieldType → ClassId} {h h' : AH} {H H' : Heap} {b : Nat} (ht : hT h' b = hT h b) (hl : hL h' b = hL h b) (hi : hI h' b = hI h b) (hj : hJ h' b = hJ h b) (hr : hR h' b = hR h b) (hH : H'[b]? = H[b]?) (hk : Ck D aC h H b) : Ck D aC h' H' b := by
  have e : ∀ ty, kv ty h' b = kv ty h b := by
    intro ty
    funext k
    cases ty <;> simp [kv, hi, hj, hr]
  refine ⟨fun c hc => ?_, fun ty hty => ?_⟩
  · rw [ht] at hc
    obtain ⟨r, h1, h2⟩ := hk.1 c hc
    refine ⟨r, h1, (h2.kept hH).to (fun k _ => ?_)⟩
    simp [fv, e]
  · rw [ht] at hty
    rw [hH, hl, e]
    exact hk.2 ty hty
/-- one cell has changed -/
theorem Hr.upd {D : va_G} {aC : FieldType → ClassId} {H0 : Heap} {h h' : AH} {H H' : Heap} {a : Nat} (hr : Hr D aC H0 h H) (ha : hT h a ≠ 0) (eN : hN h' = hN h) (eT : hT h' = hT h) (eL : hL h' = hL h) (eI : ∀ b, b ≠ a → hI h' b = hI h b ∧ hJ h' b = hJ h b ∧ hR h' b = hR h b) (z : H'.size = H.size) (o : ∀ q : Nat, q ≠ a → H'[q]? = H[q]?) (hc : Ck D aC h' H' a) : Hr D aC H0 h' H' := by
  obtain ⟨h1, h2, h3, h4⟩ := hr
  refine ⟨by rw [z, eN]; exact h1, by rw [eN]; exact h2, fun q hq => ?_, fun b hb => ?_⟩
  · have := (h4 a ha).1
    rw [o q (by omega)]
    exact h3 q hq
  · rw [eT] at hb
    obtain ⟨g1, g2, g3⟩ := h4 b hb
    refine ⟨g1, by rw [eN]; exact g2, ?_⟩
    by_cases e : b = a
    · rw [e]; exact hc
    · obtain ⟨i1, i2, i3⟩ := eI b e
      exact Ck.cong (by rw [eT]) (by rw [eL]) i1 i2 i3 (o b e) g3
/-- one cell is new -/
theorem Hr.new {D : va_G} {aC : FieldType → ClassId} {H0 : Heap} {h : AH} {H H' : Heap} {t n u : Nat} {fi : Nat → Int32} {fj : Nat → Int64} {fr : Nat → Option Nat} (hr : Hr D aC H0 h H) (z : H'.size = H.size + 1) (o : ∀ q : Nat, q < H.size → H'[q]? = H[q]?) (hc : Ck D aC (nwC h t n u fi fj fr) H' (hN h)) : Hr D aC H0 (nwC h t n u fi fj fr) H' := by
  obtain ⟨h1, h2, h3, h4⟩ := hr
  refine ⟨by rw [z, h1]; rfl, Nat.le_succ_of_le h2, fun q hq => ?_, fun b hb => ?_⟩
  · rw [o q (by omega)]
    exact h3 q hq
  · by_cases e : b = hN h
    · subst e
      exact ⟨h2, Nat.lt_succ_self _, hc⟩
    · have e' : b ≠ h.1 := e
      have hb' : hT h b ≠ 0 := fun y => hb ((va_up_ne _ _ e').trans y)
      obtain ⟨g1, g2, g3⟩ := h4 b hb'
      exact ⟨g1, Nat.lt_succ_of_lt g2, Ck.cong (va_up_ne _ _ e') (va_up_ne _ _ e') (va_up_ne _ _ e') (va_up_ne _ _ e') (va_up_ne _ _ e') (o b (by omega)) g3⟩
theorem Hr.obj {D : va_G} {aC : FieldType → ClassId} {H0 : Heap} {h : AH} {H : Heap} {a c : Nat} (hr : Hr D aC H0 h H) (ht : sC (hT h a) = some c) : ∃ r : vw_C, classes[c]? = some r ∧ t_OB a (D.1 c) r.2.2 (D.2 c) H (fv h a c) := (hr.2.2.2 a (sC_0 ht)).2.2.1 c ht
theorem Hr.arr {D : va_G} {aC : FieldType → ClassId} {H0 : Heap} {h : AH} {H : Heap} {a : Nat} {ty : FieldType} (hr : Hr D aC H0 h H) (ht : sA (hT h a) = some ty) : H[a]? = some (arrV (aC ty) (hL h a) (kv ty h a)) := (hr.2.2.2 a (sA_0 ht)).2.2.2 ty ht
/-! ===== what the tables say, as it stays ===== -/
def AR (U : State) (cA : ClassId) (ty : FieldType) : Prop := U.vm.findClass ("[" ++ ty.toString) = some cA ∧ ∃ (kA : Class) (comp : ClassId), U.vm.classes[cA]? = some kA ∧ kA.kind = .array comp ty ∧ (match ty with
  | .object C => U.vm.findClass C = some comp
  | .array t => U.vm.findClass (FieldType.array t).toString = some comp
  | _ => True)
def NWs : List (String × Nat × MethodName × String) := [("TwoLevels", 15, yX4_init, "TwoLevels"), ("TwoLevels$Reader", 26, yX10_init, "TwoLevels"), ("TwoLevels", 24, yX10_init, "TwoLevels"), ("TwoLevels$Upper", 61, yX1_init, "TwoLevels")]
def CWs : List String := ["[I", "[J", "[LTwoLevels$Rule;"]
def OWs : List String := ["TwoLevels$Rule", "TwoLevels$Firsts", "TwoLevels$State", "TwoLevels$Shelf", "TwoLevels$Fit", "TwoLevels$Node", "TwoLevels$Choice"]
def KN (D : va_G) (aC : FieldType → ClassId) (U : State) : Prop :=
  (∀ (c : Nat) (q : vw_C), classes[c]? = some q → u_Kn U q.1 q.2.1 q.2.2 (D.1 c) (D.2 c)) ∧ (∀ ty ∈ ATS, AR U (aC ty) ty) ∧ (∀ q ∈ NWs, va_Nw (.methodLinkNest q.1 q.2.1 q.2.2.1 q.2.2.2) U) ∧ (∀ q ∈ CWs, va_Nw (.castable q "java/lang/Cloneable") U) ∧ (∀ C ∈ OWs, va_AO C U) ∧ (Cond.arrayOver (.array .int)).before #[] U = true
theorem AR.moved {u U : State} (hvm : u.vm.Alike U.vm) {cA : ClassId} {ty : FieldType} (h : AR u cA ty) : AR U cA ty := by
  obtain ⟨h1, kA, comp, h2, h3, h4⟩ := h
  obtain ⟨k', hk', he⟩ := hvm.2.2 _ _ h2
  refine ⟨by rw [hvm.findClass]; exact h1, k', comp, hk', by rw [he]; exact h3, ?_⟩
  cases ty <;> first | exact trivial | (dsimp only at h4 ⊢; rw [hvm.findClass]; exact h4)
theorem AR.of {U : State} {cA : ClassId} {ty : FieldType} (h : AR U cA ty) : ArrOfT U cA ty := by
  obtain ⟨-, kA, comp, h2, h3, -⟩ := h
  exact fun n z => ⟨fun k h => (by cases h), kA, h2, comp, h3⟩
theorem AOA.moved {u U : State} {t : FieldType} (hvm : u.vm.Alike U.vm) (h : (Cond.arrayOver (.array t)).before #[] u = true) : (Cond.arrayOver (.array t)).before #[] U = true := by
  obtain ⟨comp, c, k, h1, h2, h3, h4, h5⟩ := arrayOverA_spec h
  obtain ⟨k', hk', he⟩ := hvm.2.2 _ _ h3
  have hi : (U.vm.classes.findIdx? fun (x : Class) => match x.kind with | .array component _ => component == comp | _ => false) = some c := by
    rw [hvm.findIdx?_eq _ (fun _ => rfl)]
    exact h2
  have hkind : k'.kind = .array comp (.array t) := by rw [he]; exact h4
  have f1 : U.vm.findClass (FieldType.array t).toString = some comp := by rw [hvm.findClass]; exact h1
  have f2 : U.vm.findClass ("[" ++ (FieldType.array t).toString) = some c := by rw [hvm.findClass]; exact h5
  unfold Cond.before Cond.holds
  simp only [Cond.value]
  rw [f1, Option.bind_some]
  refine (congrArg (fun o : Option Nat => (o.bind (fun c => (U.vm.classes[c]?).map fun (k : Class) => match k.kind with | .array _ ty => decide (ty = FieldType.array t) && decide (U.vm.findClass ("[" ++ (FieldType.array t).toString) = some c) | _ => false) == some true)) hi).trans ?_
  simp [hk', hkind, f2]
theorem KN.moved {D : va_G} {aC : FieldType → ClassId} {s U : State} (hW : s.WarmedH U.vm) (h : KN D aC s) : KN D aC U := by
  obtain ⟨h1, h2, h3, h4, h5, h6⟩ := h
  refine ⟨fun c q hq => u_Kn_moved hW.alike (h1 c q hq), fun ty hty => (h2 ty hty).moved hW.alike, fun q hq => va_Nw.warmM hW (h3 q hq), fun q hq => ?_, fun C hC => (h5 C hC).moved hW.alike, AOA.moved hW.alike h6⟩
  have e := Cond.castable_setVm (args := #[]) hW.alike q "java/lang/Cloneable"
  exact va_tabs rfl (rfl : (s.setVm U.vm).vm = U.vm) (e.trans (h4 q hq))
