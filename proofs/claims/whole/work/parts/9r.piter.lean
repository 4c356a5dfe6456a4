/-! ===== ASSIGNMENTS one by one, purely ===== -/
/-- the bits of a number, the least first -/
def bl (x : Nat) : List Nat := (List.range 11).filter (fun q => x.testBit q)
def lo (x : Nat) : Nat := (bl x).headD 0
set_option maxRecDepth 20000 in
theorem bl_step0 : ∀ x : Fin 2048, x.1 = 0 ∨ (bl x.1 = lo x.1 :: bl (x.1 ^^^ 2 ^ lo x.1) ∧ nI x.1 &&& -(nI x.1) = nI (2 ^ lo x.1) ∧ nI x.1 ^^^ nI (2 ^ lo x.1) = nI (x.1 ^^^ 2 ^ lo x.1) ∧ x.1 ^^^ 2 ^ lo x.1 < 2048) := by decide +kernel
theorem bl_step {x : Nat} (hx : x < 2 ^ 11) (h0 : x ≠ 0) : bl x = lo x :: bl (x ^^^ 2 ^ lo x) ∧ nI x &&& -(nI x) = nI (2 ^ lo x) ∧ nI x ^^^ nI (2 ^ lo x) = nI (x ^^^ 2 ^ lo x) ∧ x ^^^ 2 ^ lo x < 2 ^ 11 := (bl_step0 ⟨x, hx⟩).resolve_left h0
theorem bl_0 : bl 0 = [] := by decide
theorem bl_mem {x q : Nat} : q ∈ bl x ↔ q < 11 ∧ x.testBit q = true := by
  unfold bl
  rw [List.mem_filter, List.mem_range]
theorem bl_len {x : Nat} : (bl x).length ≤ 11 := by
  have := List.length_filter_le (fun q => x.testBit q) (List.range 11)
  rw [List.length_range] at this
  exact this
theorem fm_if {α β : Type} {p : α → Bool} {H : α → List β} : ∀ (l : List α), l.flatMap (fun q => if p q = true then H q else []) = (l.filter p).flatMap H
  | [] => rfl
  | a :: l => by
    rw [List.flatMap_cons, fm_if l]
    by_cases z : p a = true
    · rw [if_pos z, List.filter_cons_of_pos z, List.flatMap_cons]
    · rw [if_neg z, List.filter_cons_of_neg z, List.nil_append]
theorem fm_nil {α β : Type} {H : α → List β} : ∀ (l : List α), (∀ a ∈ l, H a = []) → l.flatMap H = []
  | [], _ => rfl
  | a :: l, h => by rw [List.flatMap_cons, h a (List.mem_cons_self ..), fm_nil l (fun b hb => h b (List.mem_cons_of_mem _ hb))]; rfl
theorem fm_cg {α β : Type} {H H' : α → List β} : ∀ (l : List α), (∀ a ∈ l, H a = H' a) → l.flatMap H = l.flatMap H'
  | [], _ => rfl
  | a :: l, h => by rw [List.flatMap_cons, List.flatMap_cons, h a (List.mem_cons_self ..), fm_cg l (fun b hb => h b (List.mem_cons_of_mem _ hb))]
/-- all ends of a METANOTION that is met for the first time -/
theorem asg_first {A : Alts} {w r : List Nat} {c p : Nat} {e : EnvA} (hw : w.length ≤ 10) (hp : p ≤ w.length) (hc : cap c = true) (he : e c = none) {x : Nat} (hx : Bt x 11 (fun q => Spn A w c p q)) : asg (spB A w) w (c :: r) p e = (bl x).flatMap (fun q => asg (spB A w) w r q (up1 e c (p, q - p))) := by
  rw [asg, if_pos hc, he]
  dsimp only
  unfold bl
  rw [← fm_if, show (11 : Nat) = p + ((w.length + 1 - p) + (10 - w.length)) by omega, List.range_add, List.range_add, List.flatMap_append, List.map_append, List.flatMap_append]
  rw [fm_nil (List.range p), fm_nil ((List.range (10 - w.length)).map _ |>.map _), List.nil_append, List.append_nil, List.flatMap_map]
  · refine fm_cg _ (fun n hn => ?_)
    have i : spB A w c p (p + n) = true ↔ x.testBit (p + n) = true := by rw [spB_iff, hx.2]
    by_cases z : spB A w c p (p + n) = true
    · rw [if_pos z, if_pos (i.mp z), Nat.add_sub_cancel_left]
    · rw [if_neg z, if_neg (fun y => z (i.mpr y))]
  · intro q hq
    rw [List.map_map, List.mem_map] at hq
    obtain ⟨n, hn, rfl⟩ := hq
    rw [if_neg]
    intro y
    have := ((hx.2 _).mp y).2.1
    simp only [Function.comp] at this
    omega
  · intro q hq
    rw [List.mem_range] at hq
    rw [if_neg]
    intro y
    have := ((hx.2 _).mp y).1
    omega
/-- the last one must end at the end -/
theorem asg_last {A : Alts} {w : List Nat} {c p : Nat} {e : EnvA} (hw : w.length ≤ 10) (hp : p ≤ w.length) (hc : cap c = true) (he : e c = none) {x : Nat} (hx : Bt x 11 (fun q => Spn A w c p q)) : asg (spB A w) w [c] p e = (bl (x &&& 2 ^ w.length)).flatMap (fun q => asg (spB A w) w [] q (up1 e c (p, q - p))) := by
  rw [asg_first hw hp hc he hx]
  unfold bl
  rw [← fm_if, ← fm_if]
  refine fm_cg _ (fun q hq => ?_)
  rw [Nat.testBit_and, Nat.testBit_two_pow]
  by_cases z : w.length = q
  · rw [decide_eq_true z, Bool.and_true]
  · have e1 : asg (spB A w) w [] q (up1 e c (p, q - p)) = [] := by rw [asg, if_neg (fun y : q = w.length => z y.symm)]
    rw [decide_eq_false z, Bool.and_false, if_neg (show ¬ (false = true) by decide), e1, ite_self]
/-- what is ASSIGNED so far -/
def envA (hd : List Nat) (t : Nat → Nat) (j : Nat) : EnvA := fun c => if cap c = true ∧ c ∈ hd.take j then some (t (hd.idxOf c), t (hd.idxOf c + 1) - t (hd.idxOf c)) else none
def fstS (hd : List Nat) (j : Nat) : Bool := cap (hd.getD j 0) && decide (hd.idxOf (hd.getD j 0) = j)
theorem envA_0 {hd : List Nat} {t : Nat → Nat} : envA hd t 0 = e0 := by
  funext c
  unfold envA e0
  rw [List.take_zero, if_neg (fun y => by cases y.2)]
theorem idx_take {hd : List Nat} {c j : Nat} (h : c ∈ hd.take j) : hd.idxOf c < j := by
  have : hd.idxOf c = (hd.take j).idxOf c := by
    conv => lhs; rw [← List.take_append_drop j hd]
    rw [List.idxOf_append, if_pos h]
  rw [this]
  have := List.idxOf_lt_length_iff.mpr h
  rw [List.length_take] at this
  omega
theorem take_idx {hd : List Nat} {c j : Nat} (hc : c ∈ hd) (h : hd.idxOf c < j) : c ∈ hd.take j := by
  have l := List.idxOf_lt_length_iff.mpr hc
  have e := idx_get hc
  rw [← e]
  have : (hd.take j).getD (hd.idxOf c) 0 = hd.getD (hd.idxOf c) 0 := by rw [List.getD_eq_getElem?_getD, List.getD_eq_getElem?_getD, List.getElem?_take_of_lt h]
  rw [← this]
  exact getD_mem (by rw [List.length_take]; omega)
theorem envA_cg {hd : List Nat} {t t' : Nat → Nat} {j : Nat} (h : ∀ i, i ≤ j → t' i = t i) : envA hd t' j = envA hd t j := by
  funext c
  unfold envA
  by_cases z : cap c = true ∧ c ∈ hd.take j
  · have := idx_take z.2
    rw [if_pos z, if_pos z, h _ (by omega), h _ (by omega)]
  · rw [if_neg z, if_neg z]
theorem envA_old {hd : List Nat} {t : Nat → Nat} {j : Nat} (hj : j < hd.length) (h : fstS hd j = false) : envA hd t (j + 1) = envA hd t j := by
  funext c
  unfold envA
  have tk := take_sn hj
  by_cases z : cap c = true ∧ c ∈ hd.take j
  · rw [if_pos z, if_pos ⟨z.1, by rw [tk]; exact List.mem_append.mpr (Or.inl z.2)⟩]
  · rw [if_neg z, if_neg]
    rintro ⟨y1, y2⟩
    rw [tk] at y2
    rcases List.mem_append.mp y2 with y | y
    · exact z ⟨y1, y⟩
    · have e := List.mem_singleton.mp y
      unfold fstS at h
      rw [← e, y1, Bool.true_and] at h
      have ne := of_decide_eq_false h
      have cm : c ∈ hd := by rw [e]; exact getD_mem hj
      have le : hd.idxOf c ≤ j := by
        rcases Nat.lt_or_ge j (hd.idxOf c) with q | q
        · exfalso
          have : c ∈ hd.take (j + 1) := by rw [tk]; exact y2
          have := idx_take this
          omega
        · exact q
      exact z ⟨y1, take_idx cm (by omega)⟩
theorem envA_new {hd : List Nat} {t : Nat → Nat} {j : Nat} (hj : j < hd.length) (h : fstS hd j = true) : envA hd t (j + 1) = up1 (envA hd t j) (hd.getD j 0) (t j, t (j + 1) - t j) ∧ envA hd t j (hd.getD j 0) = none := by
  have h1 := Bool.and_eq_true_iff.mp h
  have ix := of_decide_eq_true h1.2
  have nt : hd.getD j 0 ∉ hd.take j := fun y => by have := idx_take y; omega
  have tk := take_sn hj
  refine ⟨?_, by unfold envA; rw [if_neg (fun y => nt y.2)]⟩
  funext c
  unfold up1
  by_cases z : c = hd.getD j 0
  · rw [if_pos z, z]
    unfold envA
    rw [if_pos ⟨h1.1, by rw [tk]; exact List.mem_append.mpr (Or.inr (List.mem_singleton.mpr rfl))⟩, ix]
  · rw [if_neg z]
    unfold envA
    by_cases y : cap c = true ∧ c ∈ hd.take j
    · rw [if_pos y, if_pos ⟨y.1, by rw [tk]; exact List.mem_append.mpr (Or.inl y.2)⟩]
    · rw [if_neg y, if_neg]
      rintro ⟨y1, y2⟩
      rw [tk] at y2
      rcases List.mem_append.mp y2 with q | q
      · exact y ⟨y1, q⟩
      · exact z (List.mem_singleton.mp q)
/-- what is still to come by the places before -/
def pend (sp : Nat → Nat → Nat → Bool) (w hd : List Nat) (t l : Nat → Nat) : Nat → List EnvA
  | 0 => []
  | j + 1 => (if fstS hd j = true then (bl (l j)).flatMap (fun q => asg sp w (hd.drop (j + 1)) q (up1 (envA hd t j) (hd.getD j 0) (t j, q - t j))) else []) ++ pend sp w hd t l j
theorem pend_cg {sp : Nat → Nat → Nat → Bool} {w hd : List Nat} {t l t' l' : Nat → Nat} : ∀ {j : Nat}, (∀ i, i < j → t' i = t i) → (∀ i, i < j → l' i = l i) → pend sp w hd t' l' j = pend sp w hd t l j
  | 0, _, _ => rfl
  | j + 1, h1, h2 => by
    rw [pend, pend, pend_cg (j := j) (fun i hi => h1 i (by omega)) (fun i hi => h2 i (by omega)), h2 j (by omega), envA_cg (t := t) (t' := t') (j := j) (fun i hi => h1 i (by omega)), h1 j (by omega)]
/-! how many turns -/
def Tb : Nat → Nat
  | 0 => 1
  | 1 => 3
  | k + 2 => 1 + 11 * (Tb (k + 1) + 1)
def Bb (k : Nat) (l : Nat → Nat) : Nat → Nat
  | 0 => 0
  | j + 1 => Bb k l j + 1 + (bl (l j)).length * (Tb (k - j - 1) + 1)
theorem Tb_6 : ∀ k, k ≤ 6 → Tb k ≤ 676413 := by decide
theorem Tb_2 : ∀ k, k < 6 → Tb k + 2 ≤ Tb (k + 1) := by decide
theorem Tb_s : ∀ k, k < 6 → 1 ≤ k → Tb (k + 1) = 1 + 11 * (Tb k + 1) := by decide
theorem Bb_cg {k : Nat} {l l' : Nat → Nat} : ∀ {j : Nat}, (∀ i, i < j → l' i = l i) → Bb k l' j = Bb k l j
  | 0, _ => rfl
  | j + 1, h => by rw [Bb, Bb, Bb_cg (j := j) (fun i hi => h i (by omega)), h j (by omega)]
