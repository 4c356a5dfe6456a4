/-! ===== arrays ===== -/
def aI (ty : FieldType) (o : Option Nat) (i : Int32) (h : AH) : Option Int32 := o.bind fun a => if sA (hT h a) = some ty ∧ ¬ i < 0 ∧ i.toNatClampNeg < hL h a then some (hI h a i.toNatClampNeg) else none
def aJ (o : Option Nat) (i : Int32) (h : AH) : Option Int64 := o.bind fun a => if sA (hT h a) = some .long ∧ ¬ i < 0 ∧ i.toNatClampNeg < hL h a then some (hJ h a i.toNatClampNeg) else none
def aR (ty : FieldType) (o : Option Nat) (i : Int32) (h : AH) : Option (Option Nat) := o.bind fun a => if sA (hT h a) = some ty ∧ ¬ i < 0 ∧ i.toNatClampNeg < hL h a then some (hR h a i.toNatClampNeg) else none
def aL (o : Option Nat) (h : AH) : Option Int32 := o.bind fun a => if (sA (hT h a)).isSome = true then some (nI (hL h a)) else none
def stI (ws : List Nat) (o : Option Nat) (i v : Int32) (h : AH) : Option AH := o.bind fun a => if hT h a ∈ ws ∧ sA (hT h a) = some .int ∧ ¬ i < 0 ∧ i.toNatClampNeg < hL h a then some (sI h a i.toNatClampNeg v) else none
def stB (ws : List Nat) (o : Option Nat) (i v : Int32) (h : AH) : Option AH := o.bind fun a => if hT h a ∈ ws ∧ sA (hT h a) = some .byte ∧ ¬ i < 0 ∧ i.toNatClampNeg < hL h a then some (sI h a i.toNatClampNeg v.toInt8.toInt32) else none
def stZ (ws : List Nat) (o : Option Nat) (i v : Int32) (h : AH) : Option AH := o.bind fun a => if hT h a ∈ ws ∧ sA (hT h a) = some .boolean ∧ (¬ i < 0 ∧ i.toNatClampNeg < hL h a) ∧ (v = 0 ∨ v = 1) then some (sI h a i.toNatClampNeg v) else none
def stJ (ws : List Nat) (o : Option Nat) (i : Int32) (v : Int64) (h : AH) : Option AH := o.bind fun a => if hT h a ∈ ws ∧ sA (hT h a) = some .long ∧ ¬ i < 0 ∧ i.toNatClampNeg < hL h a then some (sJ h a i.toNatClampNeg v) else none
/-- a reference to an array over a class: null, or a cell of that class -/
def stO (ws : List Nat) (C : String) (tv : Nat) (o : Option Nat) (i : Int32) (v : Option Nat) (h : AH) : Option AH := o.bind fun a => if hT h a ∈ ws ∧ sA (hT h a) = some (.object C) ∧ (¬ i < 0 ∧ i.toNatClampNeg < hL h a) ∧ (∀ b, v = some b → hT h b = tv) then some (sR h a i.toNatClampNeg v) else none
/-- a row of ints to an array of such rows -/
def stA (ws : List Nat) (o : Option Nat) (i : Int32) (v : Option Nat) (h : AH) : Option AH := o.bind fun a => v.bind fun b => if hT h a ∈ ws ∧ sA (hT h a) = some (.array .int) ∧ (¬ i < 0 ∧ i.toNatClampNeg < hL h a) ∧ sA (hT h b) = some .int then some (sR h a i.toNatClampNeg (some b)) else none
theorem ivp {i : Int32} {n : Nat} (h : ¬ i < 0 ∧ i.toNatClampNeg < n) : ¬ (i < 0 ∨ n ≤ i.toNatClampNeg) := by
  rintro (q | q)
  · exact h.1 q
  · have := h.2
    omega
theorem kvI {ty : FieldType} (hz : ty = .int ∨ ty = .byte ∨ ty = .boolean) (h : AH) (a : Nat) : kv ty h a = fun j => .int (hI h a j) := by
  obtain rfl | rfl | rfl := hz <;> rfl
section ARR
variable {ρ : Type} {K : SC} {emb : ρ → List Value} {ri : Instr} {k : Nat}
theorem KN.arr {X : CT} (hC : CX K X) {h : AH} {a n : Nat} {ty : FieldType} (ht : sA (hT h a) = some ty) (z : Nat → Value) : (xS X).isArrayOf (arrV ((xAC X) ty) n z) ty := (hC.2.2.2.2.2.1.2.1 ty (sA_in ht)).of n z
theorem r_iald {pc : Nat} (hd : decode (kc K) pc = .ok (.iaload, 1)) {X : CT} (hC : CX K X) {σ st : List Value} {h : AH} {x : Option Nat} {i y : Int32} (e : aI .int x i h = some y) (g : Gd X (kn K) (pc + 1) σ (.int y :: st) h) : Gd X (kn K) pc σ (.int i :: va_rf x :: st) h := by
  intro ls H locs hl hh ho
  obtain ⟨a, rfl, e⟩ := obind e
  obtain ⟨⟨ht, hi⟩, rfl⟩ := oif e
  exact W.iald hC.1 hC.2.1 (hh.arr ht) (KN.arr hC ht _) (fun q => by cases q) (by rw [arrV_size]; exact ivp hi) (by rw [arrV_read _ _ hi.2]; rfl) rfl rfl hd (g ls H locs hl hh ho)
theorem r_bald {pc : Nat} (hd : decode (kc K) pc = .ok (.baload, 1)) {X : CT} (hC : CX K X) {σ st : List Value} {h : AH} {x : Option Nat} {i y : Int32} (e : aI .byte x i h = some y) (g : Gd X (kn K) (pc + 1) σ (.int y :: st) h) : Gd X (kn K) pc σ (.int i :: va_rf x :: st) h := by
  intro ls H locs hl hh ho
  obtain ⟨a, rfl, e⟩ := obind e
  obtain ⟨⟨ht, hi⟩, rfl⟩ := oif e
  exact W.bald hC.1 hC.2.1 (hh.arr ht) (KN.arr hC ht _) (fun q => by cases q) (by rw [arrV_size]; exact ivp hi) (by rw [arrV_read _ _ hi.2]; rfl) rfl rfl hd (g ls H locs hl hh ho)
theorem r_zald {pc : Nat} (hd : decode (kc K) pc = .ok (.baload, 1)) {X : CT} (hC : CX K X) {σ st : List Value} {h : AH} {x : Option Nat} {i y : Int32} (e : aI .boolean x i h = some y) (g : Gd X (kn K) (pc + 1) σ (.int y :: st) h) : Gd X (kn K) pc σ (.int i :: va_rf x :: st) h := by
  intro ls H locs hl hh ho
  obtain ⟨a, rfl, e⟩ := obind e
  obtain ⟨⟨ht, hi⟩, rfl⟩ := oif e
  exact W.zald hC.1 hC.2.1 (hh.arr ht) (KN.arr hC ht _) (fun q => by cases q) (by rw [arrV_size]; exact ivp hi) (by rw [arrV_read _ _ hi.2]; rfl) rfl rfl hd (g ls H locs hl hh ho)
theorem r_lald {pc : Nat} (hd : decode (kc K) pc = .ok (.laload, 1)) {X : CT} (hC : CX K X) {σ st : List Value} {h : AH} {x : Option Nat} {i : Int32} {y : Int64} (e : aJ x i h = some y) (g : Gd X (kn K) (pc + 1) σ (.long y :: st) h) : Gd X (kn K) pc σ (.int i :: va_rf x :: st) h := by
  intro ls H locs hl hh ho
  obtain ⟨a, rfl, e⟩ := obind e
  obtain ⟨⟨ht, hi⟩, rfl⟩ := oif e
  exact W.lald hC.1 hC.2.1 (hh.arr ht) (KN.arr hC ht _) (fun q => by cases q) (by rw [arrV_size]; exact ivp hi) (by rw [arrV_read _ _ hi.2]; rfl) rfl rfl hd (g ls H locs hl hh ho)
theorem r_aald {ty : FieldType} (hty : (∃ C, ty = .object C) ∨ ∃ u, ty = .array u) {pc : Nat} (hd : decode (kc K) pc = .ok (.aaload, 1)) {X : CT} (hC : CX K X) {σ st : List Value} {h : AH} {x : Option Nat} {i : Int32} {y : Option Nat} (e : aR ty x i h = some y) (g : Gd X (kn K) (pc + 1) σ (va_rf y :: st) h) : Gd X (kn K) pc σ (.int i :: va_rf x :: st) h := by
  intro ls H locs hl hh ho
  obtain ⟨a, rfl, e⟩ := obind e
  obtain ⟨⟨ht, hi⟩, rfl⟩ := oif e
  exact W.aald hC.1 hC.2.1 (hh.arr ht) (KN.arr hC ht _) (by obtain ⟨C, rfl⟩ | ⟨u, rfl⟩ := hty <;> rfl) (fun q => by cases q) (by rw [arrV_size]; exact ivp hi) (by rw [arrV_read _ _ hi.2]; obtain ⟨C, rfl⟩ | ⟨u, rfl⟩ := hty <;> rfl) rfl rfl hd (g ls H locs hl hh ho)
theorem EJ_iald {a : EX (Option Nat)} {b : EX Int32} {p0 p1 p2 : Nat} (ha : EJ K k eR a p0 p1) (hb : EJ K (1 + k) eI b p1 p2) (hd : decode (kc K) p2 = .ok (.iaload, 1)) : EJ K k eI (eh2 (aI .int) a b) p0 (p2 + 1) :=
  EJ_h2 ha hb (fun x st hs => by rw [sm_R]; omega) fun X hC σ st h x y z e g => r_iald hd hC e g
theorem EJ_bald {a : EX (Option Nat)} {b : EX Int32} {p0 p1 p2 : Nat} (ha : EJ K k eR a p0 p1) (hb : EJ K (1 + k) eI b p1 p2) (hd : decode (kc K) p2 = .ok (.baload, 1)) : EJ K k eI (eh2 (aI .byte) a b) p0 (p2 + 1) :=
  EJ_h2 ha hb (fun x st hs => by rw [sm_R]; omega) fun X hC σ st h x y z e g => r_bald hd hC e g
theorem EJ_zald {a : EX (Option Nat)} {b : EX Int32} {p0 p1 p2 : Nat} (ha : EJ K k eR a p0 p1) (hb : EJ K (1 + k) eI b p1 p2) (hd : decode (kc K) p2 = .ok (.baload, 1)) : EJ K k eI (eh2 (aI .boolean) a b) p0 (p2 + 1) :=
  EJ_h2 ha hb (fun x st hs => by rw [sm_R]; omega) fun X hC σ st h x y z e g => r_zald hd hC e g
theorem EJ_lald {a : EX (Option Nat)} {b : EX Int32} {p0 p1 p2 : Nat} (ha : EJ K k eR a p0 p1) (hb : EJ K (1 + k) eI b p1 p2) (hd : decode (kc K) p2 = .ok (.laload, 1)) : EJ K k eJ (eh2 aJ a b) p0 (p2 + 1) :=
  EJ_h2 ha hb (fun x st hs => by rw [sm_R]; omega) fun X hC σ st h x y z e g => r_lald hd hC e g
theorem EJ_aald {ty : FieldType} {a : EX (Option Nat)} {b : EX Int32} {p0 p1 p2 : Nat} (ha : EJ K k eR a p0 p1) (hb : EJ K (1 + k) eI b p1 p2) (hd : decode (kc K) p2 = .ok (.aaload, 1)) (hty : (∃ C, ty = .object C) ∨ ∃ u, ty = .array u) : EJ K k eR (eh2 (aR ty) a b) p0 (p2 + 1) :=
  EJ_h2 ha hb (fun x st hs => by rw [sm_R]; omega) fun X hC σ st h x y z e g => r_aald hty hd hC e g
theorem EJ_alen {a : EX (Option Nat)} {p0 p1 : Nat} (ha : EJ K k eR a p0 p1) (hd : decode (kc K) p1 = .ok (.arraylength, 1)) : EJ K k eI (eh1 aL a) p0 (p1 + 1) :=
  EJ_h1 ha fun X hC σ st h x y e g ls H locs hl hh ho => by
    obtain ⟨a, rfl, e⟩ := obind e
    obtain ⟨ht, rfl⟩ := oif e
    obtain ⟨ty, ht⟩ := Option.isSome_iff_exists.mp ht
    exact W.alen hC.1 hC.2.1 (hh.arr ht) (KN.arr hC ht _) (by rw [arrV_size]; rfl) rfl rfl hd (g ls H locs hl hh ho)
/-- storing into an array: any kind -/
theorem r_st {X : CT} (hC : CX K X) {h h' : AH} {H H' : Heap} {a j : Nat} {ty : FieldType} {v : Value} {locs : List Loc} (hh : Hr (xD X) (xAC X) (xH X) h H) (ht : sA (hT h a) = some ty) (eN : hN h' = hN h) (eT : hT h' = hT h) (eL : hL h' = hL h) (eo : ∀ b, b ≠ a → hI h' b = hI h b ∧ hJ h' b = hJ h b ∧ hR h' b = hR h b) (ev : kv ty h' a = updV (kv ty h a) j v)
    (o1 : H'[a]? = some ((arrV ((xAC X) ty) (hL h a) (kv ty h a)).setSlot j v)) (o2 : H'.size = H.size) (o3 : ∀ q, q ≠ a → H'[q]? = H[q]?) (ho : ∀ q ∈ locs, (xH X).size ≤ q.base) : Hr (xD X) (xAC X) (xH X) h' H' ∧ ∀ q ∈ locs ++ [⟨a, j⟩], (xH X).size ≤ q.base := by
  refine ⟨hh.upd (sA_0 ht) eN eT eL eo o2 o3 ⟨fun c hc => ?_, fun ty' hty => ?_⟩, lo_app ho (hh.2.2.2 a (sA_0 ht)).1⟩
  · rw [eT, sA_sC ht] at hc
    cases hc
  · rw [eT, ht] at hty
    cases hty
    rw [o1, arrV_store, eL, ev]
theorem up2_row {α : Type} (mk : α → Value) (f : Nat → Nat → α) (a j : Nat) (v : α) : (fun i => mk (up2 f a j v a i)) = updV (fun i => mk (f a i)) j (mk v) := by
  funext i
  by_cases e : i = j
  · subst e; simp [up2, updV]
  · simp [up2, updV, e]
theorem r_iast {ws : List Nat} {pc : Nat} (hd : decode (kc K) pc = .ok (.iastore, 1)) {X : CT} (hC : CX K X) {σ st : List Value} {h h' : AH} {x : Option Nat} {i y : Int32} (e : stI ws x i y h = some h') (g : Gd X (kn K) (pc + 1) σ st h') : Gd X (kn K) pc σ (.int y :: .int i :: va_rf x :: st) h := by
  intro ls H locs hl hh ho
  obtain ⟨a, rfl, e⟩ := obind e
  obtain ⟨⟨-, ht, hi⟩, rfl⟩ := oif e
  refine W.iast hC.1 hC.2.1 (hh.arr ht) (KN.arr hC ht _) (fun q => by cases q) (by rw [arrV_size]; exact ivp hi) rfl rfl hd fun H' o1 o2 o3 => ?_
  obtain ⟨k1, k2⟩ := r_st (h' := sI h a i.toNatClampNeg y) hC hh ht rfl rfl rfl (fun b hb => ⟨up2_ne hb, rfl, rfl⟩) (up2_row .int _ _ _ _) o1 o2 o3 ho
  exact g ls H' _ hl k1 k2
theorem r_bast {ws : List Nat} {pc : Nat} (hd : decode (kc K) pc = .ok (.bastore, 1)) {X : CT} (hC : CX K X) {σ st : List Value} {h h' : AH} {x : Option Nat} {i y : Int32} (e : stB ws x i y h = some h') (g : Gd X (kn K) (pc + 1) σ st h') : Gd X (kn K) pc σ (.int y :: .int i :: va_rf x :: st) h := by
  intro ls H locs hl hh ho
  obtain ⟨a, rfl, e⟩ := obind e
  obtain ⟨⟨-, ht, hi⟩, rfl⟩ := oif e
  refine W.bast hC.1 hC.2.1 (hh.arr ht) (KN.arr hC ht _) (fun q => by cases q) (by rw [arrV_size]; exact ivp hi) rfl rfl hd fun H' o1 o2 o3 => ?_
  obtain ⟨k1, k2⟩ := r_st (h' := sI h a i.toNatClampNeg y.toInt8.toInt32) hC hh ht rfl rfl rfl (fun b hb => ⟨up2_ne hb, rfl, rfl⟩) (up2_row .int _ _ _ _) o1 o2 o3 ho
  exact g ls H' _ hl k1 k2
theorem nar_z {v : Int32} (h : v = 0 ∨ v = 1) : narrow .boolean (.int v) = .int v := by obtain rfl | rfl := h <;> rfl
theorem r_zast {ws : List Nat} {pc : Nat} (hd : decode (kc K) pc = .ok (.bastore, 1)) {X : CT} (hC : CX K X) {σ st : List Value} {h h' : AH} {x : Option Nat} {i y : Int32} (e : stZ ws x i y h = some h') (g : Gd X (kn K) (pc + 1) σ st h') : Gd X (kn K) pc σ (.int y :: .int i :: va_rf x :: st) h := by
  intro ls H locs hl hh ho
  obtain ⟨a, rfl, e⟩ := obind e
  obtain ⟨⟨-, ht, hi, hy⟩, rfl⟩ := oif e
  refine W.zast hC.1 hC.2.1 (hh.arr ht) (KN.arr hC ht _) (fun q => by cases q) (by rw [arrV_size]; exact ivp hi) rfl rfl hd fun H' o1 o2 o3 => ?_
  rw [nar_z hy] at o1
  obtain ⟨k1, k2⟩ := r_st (h' := sI h a i.toNatClampNeg y) hC hh ht rfl rfl rfl (fun b hb => ⟨up2_ne hb, rfl, rfl⟩) (up2_row .int _ _ _ _) o1 o2 o3 ho
  exact g ls H' _ hl k1 k2
theorem r_last {ws : List Nat} {pc : Nat} (hd : decode (kc K) pc = .ok (.lastore, 1)) {X : CT} (hC : CX K X) {σ st : List Value} {h h' : AH} {x : Option Nat} {i : Int32} {y : Int64} (e : stJ ws x i y h = some h') (g : Gd X (kn K) (pc + 1) σ st h') : Gd X (kn K) pc σ (.long y :: .int i :: va_rf x :: st) h := by
  intro ls H locs hl hh ho
  obtain ⟨a, rfl, e⟩ := obind e
  obtain ⟨⟨-, ht, hi⟩, rfl⟩ := oif e
  refine W.last hC.1 hC.2.1 (hh.arr ht) (KN.arr hC ht _) (fun q => by cases q) (by rw [arrV_size]; exact ivp hi) rfl rfl hd fun H' o1 o2 o3 => ?_
  obtain ⟨k1, k2⟩ := r_st (h' := sJ h a i.toNatClampNeg y) hC hh ht rfl rfl rfl (fun b hb => ⟨rfl, up2_ne hb, rfl⟩) (up2_row .long _ _ _ _) o1 o2 o3 ho
  exact g ls H' _ hl k1 k2
theorem r_oast {ws : List Nat} {C : String} {tv c : Nat} {r : vw_C} (htv : sC tv = some c) (hr : classes[c]? = some r) (hrC : r.1 = C) {pc : Nat} (hd : decode (kc K) pc = .ok (.aastore, 1)) {X : CT} (hC : CX K X) {σ st : List Value} {h h' : AH} {x : Option Nat} {i : Int32} {y : Option Nat} (e : stO ws C tv x i y h = some h') (g : Gd X (kn K) (pc + 1) σ st h') : Gd X (kn K) pc σ (va_rf y :: .int i :: va_rf x :: st) h := by
  intro ls H locs hl hh ho
  obtain ⟨a, rfl, e⟩ := obind e
  obtain ⟨⟨-, ht, hi, hy⟩, rfl⟩ := oif e
  have fin : ∀ H' : Heap, H'[a]? = some ((arrV ((xAC X) (.object C)) (hL h a) (kv (.object C) h a)).setSlot i.toNatClampNeg (va_rf y)) → H'.size = H.size → (∀ q, q ≠ a → H'[q]? = H[q]?) → W (xP X) (xLn X) (xE X) (xR X) (xS X) (xM X) (xA X) (xB X) (xMe X) (xC X) H' (locs ++ [⟨a, i.toNatClampNeg⟩]) (hN h - hN (xh X)) (hU h - hU (xh X)) (xQ X) (F0 (xM X) (pc + 1) ls st) := by
    intro H' o1 o2 o3
    obtain ⟨k1, k2⟩ := r_st (h' := sR h a i.toNatClampNeg y) hC hh ht rfl rfl rfl (fun b hb => ⟨rfl, rfl, up2_ne hb⟩) (up2_row va_rf _ _ _ _) o1 o2 o3 ho
    exact g ls H' _ hl k1 k2
  cases y with
  | none => exact va_WaastN (C := C) hC.1 hC.2.1 (hh.arr ht) (KN.arr hC ht _) (fun q => by cases q) (by rw [arrV_size]; exact ivp hi) rfl rfl hd fin
  | some b =>
    obtain ⟨r', hr', cellV, g1, g2, g3, -⟩ := hh.obj (a := b) (by rw [hy b rfl]; exact htv)
    cases hr.symm.trans hr'
    have hcls := (hC.2.2.2.2.2.1.1 c r hr).2
    obtain ⟨-, kA, comp, k1, k2, k3⟩ := hC.2.2.2.2.2.1.2.1 _ (sA_in ht)
    have k3 : (xS X).vm.findClass C = some comp := k3
    rw [hrC] at hcls
    have hcomp : comp = (xD X).1 c := Option.some.inj (k3.symm.trans hcls.1)
    subst hcomp
    obtain ⟨kC, hkC, -⟩ := hcls.2
    exact W.aast hC.1 hC.2.1 (hh.arr ht) (fun q h => by cases h) (fun h => by cases h) k1 k2 rfl hkC ⟨hi.1, by rw [arrV_size]; exact hi.2⟩ g1 (fun q h => by rw [g3] at h; cases h) (by rw [g2]; exact hkC) (by rw [g2]; exact va_assign hcls) rfl rfl hd fin
theorem r_rast {ws : List Nat} {pc : Nat} (hd : decode (kc K) pc = .ok (.aastore, 1)) {X : CT} (hC : CX K X) {σ st : List Value} {h h' : AH} {x : Option Nat} {i : Int32} {y : Option Nat} (e : stA ws x i y h = some h') (g : Gd X (kn K) (pc + 1) σ st h') : Gd X (kn K) pc σ (va_rf y :: .int i :: va_rf x :: st) h := by
  intro ls H locs hl hh ho
  obtain ⟨a, rfl, e1⟩ := obind e
  obtain ⟨b, rfl, e2⟩ := obind (o := y) e1
  obtain ⟨⟨-, ht, hi, hy⟩, rfl⟩ := oif e2
  obtain ⟨-, kA, comp, k1, k2, k3⟩ := hC.2.2.2.2.2.1.2.1 _ (sA_in ht)
  have k3 : (xS X).vm.findClass (FieldType.array .int).toString = some comp := k3
  obtain ⟨f1, kB, compB, f2, f3, -⟩ := hC.2.2.2.2.2.1.2.1 _ (sA_in hy)
  have es : "[" ++ FieldType.int.toString = (FieldType.array .int).toString := by decide +kernel
  rw [es] at f1
  have hcomp : comp = (xAC X) .int := Option.some.inj (k3.symm.trans f1)
  subst hcomp
  refine W.aast (v := b) hC.1 hC.2.1 (hh.arr ht) (fun q h => by cases h) (fun h => by cases h) k1 k2 rfl f2 ⟨hi.1, by rw [arrV_size]; exact hi.2⟩ (hh.arr hy) (fun q h => by cases h) f2 (va_asg _ _) rfl rfl hd fun H' o1 o2 o3 => ?_
  obtain ⟨z1, z2⟩ := r_st (h' := sR h a i.toNatClampNeg (some b)) hC hh ht rfl rfl rfl (fun b hb => ⟨rfl, rfl, up2_ne hb⟩) (up2_row va_rf _ _ _ _) o1 o2 o3 ho
  exact g ls H' _ hl z1 z2
theorem stI_Le {ws : List Nat} (hw : ∀ t ∈ ws, t ∈ kw K) : ∀ (x : Option Nat) (i y : Int32) (h h' : AH), stI ws x i y h = some h' → Le (kw K) h h' := by
  intro x i y h h' e
  obtain ⟨a, rfl, e⟩ := obind e
  obtain ⟨⟨hm, -⟩, rfl⟩ := oif e
  exact Le.sI (hw _ hm)
theorem stB_Le {ws : List Nat} (hw : ∀ t ∈ ws, t ∈ kw K) : ∀ (x : Option Nat) (i y : Int32) (h h' : AH), stB ws x i y h = some h' → Le (kw K) h h' := by
  intro x i y h h' e
  obtain ⟨a, rfl, e⟩ := obind e
  obtain ⟨⟨hm, -⟩, rfl⟩ := oif e
  exact Le.sI (hw _ hm)
theorem stZ_Le {ws : List Nat} (hw : ∀ t ∈ ws, t ∈ kw K) : ∀ (x : Option Nat) (i y : Int32) (h h' : AH), stZ ws x i y h = some h' → Le (kw K) h h' := by
  intro x i y h h' e
  obtain ⟨a, rfl, e⟩ := obind e
  obtain ⟨⟨hm, -⟩, rfl⟩ := oif e
  exact Le.sI (hw _ hm)
theorem stJ_Le {ws : List Nat} (hw : ∀ t ∈ ws, t ∈ kw K) : ∀ (x : Option Nat) (i : Int32) (y : Int64) (h h' : AH), stJ ws x i y h = some h' → Le (kw K) h h' := by
  intro x i y h h' e
  obtain ⟨a, rfl, e⟩ := obind e
  obtain ⟨⟨hm, -⟩, rfl⟩ := oif e
  exact Le.sJ (hw _ hm)
theorem stO_Le {ws : List Nat} {C : String} {tv : Nat} (hw : ∀ t ∈ ws, t ∈ kw K) : ∀ (x : Option Nat) (i : Int32) (y : Option Nat) (h h' : AH), stO ws C tv x i y h = some h' → Le (kw K) h h' := by
  intro x i y h h' e
  obtain ⟨a, rfl, e⟩ := obind e
  obtain ⟨⟨hm, -⟩, rfl⟩ := oif e
  exact Le.sR (hw _ hm)
theorem stA_Le {ws : List Nat} (hw : ∀ t ∈ ws, t ∈ kw K) : ∀ (x : Option Nat) (i : Int32) (y : Option Nat) (h h' : AH), stA ws x i y h = some h' → Le (kw K) h h' := by
  intro x i y h h' e
  obtain ⟨a, rfl, e1⟩ := obind e
  obtain ⟨b, rfl, e2⟩ := obind (o := y) e1
  obtain ⟨⟨hm, -⟩, rfl⟩ := oif e2
  exact Le.sR (hw _ hm)
theorem SJ_iast {ws : List Nat} {a : EX (Option Nat)} {b c : EX Int32} {p0 p1 p2 p3 nB nC : Nat} (ha : EJ K 0 eR a p0 p1) (hb : EJ K 1 eI b p1 p2) (hc : EJ K 2 eI c p2 p3) (hd : decode (kc K) p3 = .ok (.iastore, 1)) (hw : ∀ t ∈ ws, t ∈ kw K) : SJ K emb ri (sh3 (stI ws) a b c) p0 (p3 + 1) nB nC :=
  SJ_h3 ha hb hc (fun x st hs => by rw [sm_R]; omega) (fun x st hs => by rw [sm_I]; omega) ⟨stI_Le hw, fun X hC σ h x y z h' e g => r_iast hd hC e g⟩
theorem SJ_bast {ws : List Nat} {a : EX (Option Nat)} {b c : EX Int32} {p0 p1 p2 p3 nB nC : Nat} (ha : EJ K 0 eR a p0 p1) (hb : EJ K 1 eI b p1 p2) (hc : EJ K 2 eI c p2 p3) (hd : decode (kc K) p3 = .ok (.bastore, 1)) (hw : ∀ t ∈ ws, t ∈ kw K) : SJ K emb ri (sh3 (stB ws) a b c) p0 (p3 + 1) nB nC :=
  SJ_h3 ha hb hc (fun x st hs => by rw [sm_R]; omega) (fun x st hs => by rw [sm_I]; omega) ⟨stB_Le hw, fun X hC σ h x y z h' e g => r_bast hd hC e g⟩
theorem SJ_zast {ws : List Nat} {a : EX (Option Nat)} {b c : EX Int32} {p0 p1 p2 p3 nB nC : Nat} (ha : EJ K 0 eR a p0 p1) (hb : EJ K 1 eI b p1 p2) (hc : EJ K 2 eI c p2 p3) (hd : decode (kc K) p3 = .ok (.bastore, 1)) (hw : ∀ t ∈ ws, t ∈ kw K) : SJ K emb ri (sh3 (stZ ws) a b c) p0 (p3 + 1) nB nC :=
  SJ_h3 ha hb hc (fun x st hs => by rw [sm_R]; omega) (fun x st hs => by rw [sm_I]; omega) ⟨stZ_Le hw, fun X hC σ h x y z h' e g => r_zast hd hC e g⟩
theorem SJ_last {ws : List Nat} {a : EX (Option Nat)} {b : EX Int32} {c : EX Int64} {p0 p1 p2 p3 nB nC : Nat} (ha : EJ K 0 eR a p0 p1) (hb : EJ K 1 eI b p1 p2) (hc : EJ K 2 eJ c p2 p3) (hd : decode (kc K) p3 = .ok (.lastore, 1)) (hw : ∀ t ∈ ws, t ∈ kw K) : SJ K emb ri (sh3 (stJ ws) a b c) p0 (p3 + 1) nB nC :=
  SJ_h3 ha hb hc (fun x st hs => by rw [sm_R]; omega) (fun x st hs => by rw [sm_I]; omega) ⟨stJ_Le hw, fun X hC σ h x y z h' e g => r_last hd hC e g⟩
theorem SJ_oast {ws : List Nat} {C : String} {tv cv : Nat} {r : vw_C} {a : EX (Option Nat)} {b : EX Int32} {c : EX (Option Nat)} {p0 p1 p2 p3 nB nC : Nat} (ha : EJ K 0 eR a p0 p1) (hb : EJ K 1 eI b p1 p2) (hc : EJ K 2 eR c p2 p3) (hd : decode (kc K) p3 = .ok (.aastore, 1)) (htv : sC tv = some cv) (hr : classes[cv]? = some r) (hrC : r.1 = C) (hw : ∀ t ∈ ws, t ∈ kw K) : SJ K emb ri (sh3 (stO ws C tv) a b c) p0 (p3 + 1) nB nC :=
  SJ_h3 ha hb hc (fun x st hs => by rw [sm_R]; omega) (fun x st hs => by rw [sm_I]; omega) ⟨stO_Le hw, fun X hC σ h x y z h' e g => r_oast htv hr hrC hd hC e g⟩
theorem SJ_rast {ws : List Nat} {a : EX (Option Nat)} {b : EX Int32} {c : EX (Option Nat)} {p0 p1 p2 p3 nB nC : Nat} (ha : EJ K 0 eR a p0 p1) (hb : EJ K 1 eI b p1 p2) (hc : EJ K 2 eR c p2 p3) (hd : decode (kc K) p3 = .ok (.aastore, 1)) (hw : ∀ t ∈ ws, t ∈ kw K) : SJ K emb ri (sh3 (stA ws) a b c) p0 (p3 + 1) nB nC :=
  SJ_h3 ha hb hc (fun x st hs => by rw [sm_R]; omega) (fun x st hs => by rw [sm_I]; omega) ⟨stA_Le hw, fun X hC σ h x y z h' e g => r_rast hd hC e g⟩
/-! what is read, changed and put back -/
def Op2 (K : SC) (f : Int32 → Int32 → Int32) (p : Nat) : Prop := ∀ X, CX K X → ∀ σ st h x y, Gd X (kn K) (p + 1) σ (.int (f x y) :: st) h → Gd X (kn K) p σ (.int y :: .int x :: st) h
theorem Op2_iadd {p : Nat} (hd : decode (kc K) p = .ok (.iadd, 1)) : Op2 K (fun x y => x + y) p := fun X hC σ st h x y g ls H locs hl hh ho => lv_iadd hC.1 hC.2.1 hd (g ls H locs hl hh ho)
theorem Op2_isub {p : Nat} (hd : decode (kc K) p = .ok (.isub, 1)) : Op2 K (fun x y => x - y) p := fun X hC σ st h x y g ls H locs hl hh ho => lv_isub hC.1 hC.2.1 hd (g ls H locs hl hh ho)
theorem Op2_ior {p : Nat} (hd : decode (kc K) p = .ok (.ior, 1)) : Op2 K (fun x y => x ||| y) p := fun X hC σ st h x y g ls H locs hl hh ho => lv_ior hC.1 hC.2.1 hd (g ls H locs hl hh ho)
theorem Op2_ixor {p : Nat} (hd : decode (kc K) p = .ok (.ixor, 1)) : Op2 K (fun x y => x ^^^ y) p := fun X hC σ st h x y g ls H locs hl hh ho => lv_ixor hC.1 hC.2.1 hd (g ls H locs hl hh ho)
theorem Op2_iand {p : Nat} (hd : decode (kc K) p = .ok (.iand, 1)) : Op2 K (fun x y => x &&& y) p := fun X hC σ st h x y g ls H locs hl hh ho => lv_iand hC.1 hC.2.1 hd (g ls H locs hl hh ho)
def uF (z : Bool) (t kf : Nat) (f : Int32 → Int32 → Int32) (o : Option Nat) (u w : Int32) (h : AH) : Option AH := pI z t kf o (f u w) h
def uA (ws : List Nat) (f : Int32 → Int32 → Int32) (o : Option Nat) (i u w : Int32) (h : AH) : Option AH := stI ws o i (f u w) h
theorem SJ_upF {z : Bool} {t c kf idx idx2 : Nat} {r : vw_C} {f : Int32 → Int32 → Int32} {a : EX (Option Nat)} {b : EX Int32} {p0 p1 p3 nB nC : Nat} (ha : EJ K 0 eR a p0 p1) (hd0 : decode (kc K) p1 = .ok (.dup, 1)) (hd1 : decode (kc K) (p1 + 1) = .ok (.getfield idx, 3)) (hb : EJ K 2 eI b (p1 + 4) p3) (hop : Op2 K f p3) (hd2 : decode (kc K) (p3 + 1) = .ok (.putfield idx2, 3)) (hf : FK K t c kf idx r) (hf2 : FK K t c kf idx2 r) (hfin : (r.2.1 kf).2.2.2 = false ∨ (ki K = true ∧ (r.2.1 kf).1 = ko K)) (hz : okZ z c kf) (hv : ∀ h a, fv h a c kf = .int (hI h a kf)) (hw : t ∈ kw K) : SJ K emb ri (su2 (gI t kf) (uF z t kf f) a b) p0 (p3 + 4) nB nC :=
  SJ_u2 (eu := eI) (ec := eI) ha (fun X hC σ h x u e g ls H locs hl hh ho => lv_dup hC.1 hC.2.1 hd0 (va_rf_cat x) (r_getI hf hv hd1 hC e g ls H locs hl hh ho)) hb (fun x u => by rw [sm_I, sm_R]; simp [sm]) ⟨fun x u w h h' e => pI_Le hw x (f u w) h h' e, fun X hC σ h x u w h' e g => hop X hC _ _ _ _ _ (r_putI hf2 hfin hz hv hd2 hC e g)⟩
theorem SJ_upA {ws : List Nat} {f : Int32 → Int32 → Int32} {a : EX (Option Nat)} {i b : EX Int32} {p0 p1 p2 p4 nB nC : Nat} (ha : EJ K 0 eR a p0 p1) (hi : EJ K 1 eI i p1 p2) (hd0 : decode (kc K) p2 = .ok (.dup2, 1)) (hd1 : decode (kc K) (p2 + 1) = .ok (.iaload, 1)) (hb : EJ K 3 eI b (p2 + 2) p4) (hop : Op2 K f p4) (hd2 : decode (kc K) (p4 + 1) = .ok (.iastore, 1)) (hw : ∀ t ∈ ws, t ∈ kw K) : SJ K emb ri (su3 (aI .int) (uA ws f) a i b) p0 (p4 + 2) nB nC :=
  SJ_u3 (eu := eI) (ec := eI) ha hi (fun X hC σ h x y u e g ls H locs hl hh ho => lv_dup2_11 hC.1 hC.2.1 hd0 rfl (va_rf_cat x) (r_iald hd1 hC e g ls H locs hl hh ho)) hb (fun x => by rw [sm_R]; simp [sm]) (fun x y u => by rw [sm_I, sm_I, sm_R]; simp [sm]) ⟨fun x y u w h h' e => stI_Le hw x y (f u w) h h' e, fun X hC σ h x y u w h' e g => hop X hC _ _ _ _ _ (r_iast hd2 hC e g)⟩
end ARR
/-! ===== new arrays ===== -/
def nA (t : Nat) (e : EX Int32) : EX (Option Nat) := fun σ h => (e σ h).bind fun x => if ¬ x.1 < 0 ∧ x.1.toNatClampNeg ≤ 20000 then some (some (hN x.2), nw x.2 t x.1.toNatClampNeg x.1.toNatClampNeg) else none
theorem AOA_use {t : FieldType} {A : Array Value} {U : State} (h : (Cond.arrayOver (.array t)).before #[] U = true) : (Cond.arrayOver (.array t)).before A U = true := h
section NEW
variable {K : SC} {k : Nat}
theorem nA_key {t : Nat} {e : EX Int32} {σ : List Value} {h h' : AH} {v : Option Nat} (q : nA t e σ h = some (v, h')) : ∃ x h1, e σ h = some (x, h1) ∧ ¬ x < 0 ∧ x.toNatClampNeg ≤ 20000 ∧ v = some (hN h1) ∧ h' = nw h1 t x.toNatClampNeg x.toNatClampNeg := by
  obtain ⟨⟨x, h1⟩, e1, e2⟩ := obind q
  obtain ⟨⟨c1, c2⟩, e3⟩ := oif e2
  cases e3
  exact ⟨x, h1, e1, c1, c2, rfl, rfl⟩
theorem nw_room {X : CT} {h : AH} {t n u : Nat} (hb : Be X h) (hf : Fi X (nw h t n u)) : (hN h - hN (xh X)) + 1 ≤ (xR X).cells ∧ (hU h - hU (xh X)) + u ≤ (xR X).slots ∧ hN (nw h t n u) - hN (xh X) = (hN h - hN (xh X)) + 1 ∧ hU (nw h t n u) - hU (xh X) = (hU h - hU (xh X)) + u := by
  have h1 : hN (nw h t n u) = hN h + 1 := rfl
  have h2 : hU (nw h t n u) = hU h + u := rfl
  obtain ⟨f1, f2⟩ := hf
  obtain ⟨b1, b2⟩ := hb
  rw [h1] at f1 ⊢
  rw [h2] at f2 ⊢
  omega
theorem kv_nw (ty : FieldType) (h : AH) (t n u : Nat) (hz : ty ∈ ATS) : kv ty (nw h t n u) (hN h) = fun _ => defaultValue ty := by
  funext j
  simp only [ATS, List.mem_cons, List.not_mem_nil, or_false] at hz
  have e1 : hI (nw h t n u) (hN h) j = 0 := by simp [hI, nw, nwC, hN, va_up]
  have e2 : hJ (nw h t n u) (hN h) j = 0 := by simp [hJ, nw, nwC, hN, va_up]
  have e3 : hR (nw h t n u) (hN h) j = none := by simp [hR, nw, nwC, hN, va_up]
  obtain rfl | rfl | rfl | rfl | rfl | rfl | rfl | rfl | rfl | rfl | rfl | rfl := hz <;> simp only [kv, e1, e2, e3] <;> rfl
theorem Ck_nw {D : va_G} {aC : FieldType → ClassId} {h : AH} {H' : Heap} {t n u : Nat} {ty : FieldType} (ht : sA t = some ty) (e : H'[hN h]? = some (arrV (aC ty) n (fun _ => defaultValue ty))) : Ck D aC (nw h t n u) H' (hN h) := by
  have h1 : hT (nw h t n u) (hN h) = t := by simp [hT, nw, nwC, hN, va_up]
  have h2 : hL (nw h t n u) (hN h) = n := by simp [hL, nw, nwC, hN, va_up]
  refine ⟨fun c hc => ?_, fun ty' hty => ?_⟩
  · rw [h1, sA_sC ht] at hc
    cases hc
  · rw [h1, ht] at hty
    cases hty
    rw [h2, kv_nw ty h t n u (sA_in ht)]
    exact e
theorem EJ_newarr {atype : ArrayType} {ty : FieldType} {t : Nat} {e : EX Int32} {p0 p1 : Nat} (he : EJ K k eI e p0 p1) (hd : decode (kc K) p1 = .ok (.newarray atype, 2)) (hty : newarray.typeOf atype = ty) (hb8 : componentBytes ty ≤ 8) (hq : Cond.arrayClass ty ∈ TB) (ht : sA t = some ty) : EJ K k eR (nA t e) p0 (p1 + 2) := by
  refine ⟨fun σ h v h' q => ?_, fun X hC σ h st v h' hs hb q hfi g => ?_⟩
  · obtain ⟨x, h1, e1, -, -, -, rfl⟩ := nA_key q
    exact (he.1 _ _ _ _ e1).tr Le.nwC
  · obtain ⟨x, h1, e1, c1, c2, rfl, rfl⟩ := nA_key q
    have l1 := he.1 _ _ _ _ e1
    refine he.2 X hC σ h st x h1 hs hb e1 (hfi.of (w := kw K) Le.nwC) fun ls H locs hl hh ho => ?_
    obtain ⟨r1, r2, r3, r4⟩ := nw_room (hb.of l1) hfi
    subst hty
    have hmul : x.toNatClampNeg * componentBytes (newarray.typeOf atype) ≤ 536870912 := by
      have := Nat.mul_le_mul c2 hb8
      omega
    refine va_newaK hC.1 hC.2.1 (hC.2.2.2.2.1 _ hq) rfl hd rfl c1 rfl hmul r1 r2 hh.1 fun H' cA o1 o2 o3 _ o5 => ?_
    have hcA : cA = (xAC X) (newarray.typeOf atype) := Option.some.inj (o5.symm.trans (hC.2.2.2.2.2.1.2.1 _ (sA_in ht)).1)
    subst hcA
    have hh' : Hr (xD X) (xAC X) (xH X) (nw h1 t x.toNatClampNeg x.toNatClampNeg) H' := hh.new (by rw [o2, hh.1]) (fun q hq => o3 q (by rw [← hh.1]; exact hq)) (Ck_nw ht o1)
    have := g ls H' locs hl hh' ho
    rw [r3, r4] at this
    exact this
theorem EJ_anew {C : String} {idx t : Nat} {e : EX Int32} {p0 p1 : Nat} (he : EJ K k eI e p0 p1) (hd : decode (kc K) p1 = .ok (.anewarray idx, 3)) (hq : Cond.classLink (ko K) idx C ∈ TB) (hC : C ∈ OWs) (ht : sA t = some (.object C)) : EJ K k eR (nA t e) p0 (p1 + 3) := by
  refine ⟨fun σ h v h' q => ?_, fun X hX σ h st v h' hs hb q hfi g => ?_⟩
  · obtain ⟨x, h1, e1, -, -, -, rfl⟩ := nA_key q
    exact (he.1 _ _ _ _ e1).tr Le.nwC
  · obtain ⟨x, h1, e1, c1, c2, rfl, rfl⟩ := nA_key q
    have l1 := he.1 _ _ _ _ e1
    refine he.2 X hX σ h st x h1 hs hb e1 (hfi.of (w := kw K) Le.nwC) fun ls H locs hl hh ho => ?_
    obtain ⟨r1, r2, r3, r4⟩ := nw_room (hb.of l1) hfi
    have hKN := hX.2.2.2.2.2.1
    refine W.anew hX.1 hX.2.1 hX.2.2.2.1 (hX.2.2.2.2.1 _ hq) (va_AO.use (hKN.2.2.2.2.1 C hC)) rfl hd rfl c1 (by omega) r1 r2 fun cA kA comp f1 f2 f3 f4 => ?_
    have hcA : cA = (xAC X) (.object C) := Option.some.inj (f1.symm.trans (hKN.2.1 _ (sA_in ht)).1)
    subst hcA
    have hh' : Hr (xD X) (xAC X) (xH X) (nw h1 t x.toNatClampNeg x.toNatClampNeg) (H.push { cls := (xAC X) (.object C), slots := Array.replicate x.toNatClampNeg .null, vm := .none }) :=
      hh.new (by simp) (fun q hq => by rw [Array.getElem?_push, if_neg (Nat.ne_of_lt hq)]) (Ck_nw ht (by rw [← hh.1]; simp; exact arrV_new _ _ _))
    have := g ls _ locs hl hh' ho
    rw [r3, r4] at this
    rw [hh.1]
    exact this
theorem EJ_anewA {idx t : Nat} {e : EX Int32} {p0 p1 : Nat} (he : EJ K k eI e p0 p1) (hd : decode (kc K) p1 = .ok (.anewarray idx, 3)) (hq : Cond.classLink (ko K) idx "[I" ∈ TB) (ht : sA t = some (.array .int)) : EJ K k eR (nA t e) p0 (p1 + 3) := by
  refine ⟨fun σ h v h' q => ?_, fun X hX σ h st v h' hs hb q hfi g => ?_⟩
  · obtain ⟨x, h1, e1, -, -, -, rfl⟩ := nA_key q
    exact (he.1 _ _ _ _ e1).tr Le.nwC
  · obtain ⟨x, h1, e1, c1, c2, rfl, rfl⟩ := nA_key q
    have l1 := he.1 _ _ _ _ e1
    refine he.2 X hX σ h st x h1 hs hb e1 (hfi.of (w := kw K) Le.nwC) fun ls H locs hl hh ho => ?_
    obtain ⟨r1, r2, r3, r4⟩ := nw_room (hb.of l1) hfi
    have hKN := hX.2.2.2.2.2.1
    have es : "[I" = (FieldType.array .int).toString := by decide +kernel
    refine W.anewA (t := .int) hX.1 hX.2.1 hX.2.2.2.1 (by rw [← es]; exact hX.2.2.2.2.1 _ hq) (AOA_use hKN.2.2.2.2.2) rfl hd rfl c1 (by omega) r1 r2 fun cA kA comp f1 f2 f3 f4 => ?_
    have hcA : cA = (xAC X) (.array .int) := Option.some.inj (f1.symm.trans (hKN.2.1 _ (sA_in ht)).1)
    subst hcA
    have hh' : Hr (xD X) (xAC X) (xH X) (nw h1 t x.toNatClampNeg x.toNatClampNeg) (H.push { cls := (xAC X) (.array .int), slots := Array.replicate x.toNatClampNeg .null, vm := .none }) :=
      hh.new (by simp) (fun q hq => by rw [Array.getElem?_push, if_neg (Nat.ne_of_lt hq)]) (Ck_nw ht (by rw [← hh.1]; simp; exact arrV_new _ _ _))
    have := g ls _ locs hl hh' ho
    rw [r3, r4] at this
    rw [hh.1]
    exact this
end NEW
