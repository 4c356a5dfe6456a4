/-! ===== the reference: a search, its parts ===== -/
/-- cells that a search writes; fields that it writes -/
def srC : List Nat := [0, 10, 11, 12, 18, 19, 20, 23, 24, 25, 26, 27, 28, 29, 30, 31, 32]
def srK : List Nat := [25, 33, 34, 35, 36, 37, 47, 49]
def SrF (f f' : Nat → Nat → Int32) : Prop := Fr srC f f' ∧ ∀ k, k ∉ srK → f' 0 k = f 0 k
theorem SrF.rf {f : Nat → Nat → Int32} : SrF f f := ⟨Fr.rf, fun _ _ => rfl⟩
theorem SrF.tr {f f1 f2 : Nat → Nat → Int32} (a : SrF f f1) (b : SrF f1 f2) : SrF f f2 := ⟨a.1.tr b.1, fun k hk => (b.2 k hk).trans (a.2 k hk)⟩
theorem SrF_u {f : Nat → Nat → Int32} {c : Nat} (hc : c ∈ srC) (h0 : c ≠ 0) (S : Nat → Int32) : SrF f (uc f c S) := ⟨fun k hk => uc_ne (fun z => hk (by rw [z]; exact hc)), fun k _ => by rw [uc_ne (fun z => h0 z.symm)]⟩
theorem SrF_0 {f : Nat → Nat → Int32} {k : Nat} (hk : k ∈ srK) (v : Int32) : SrF f (uc f 0 (uc (f 0) k v)) := ⟨fun c hc => uc_ne (fun z => hc (by rw [z]; decide)), fun j hj => by rw [uc_eq, uc_ne (fun z => hj (by rw [z]; exact hk))]⟩
theorem SrF_lv {f f' : Nat → Nat → Int32} (h : ∀ k, k ≠ 12 → f' k = f k) : SrF f f' := ⟨fun k hk => h k (fun z => hk (by rw [z]; decide)), fun k _ => by rw [h 0 (by decide)]⟩
/-- rows of levels: those below one stay -/
def LwL (cs : List (Nat × Nat)) (l : Nat) (f f' : Nat → Nat → Int32) : Prop := ∀ c ∈ cs, ∀ k, k < c.2 * l → f' c.1 k = f c.1 k
def lAll : List (Nat × Nat) := [(10, 10), (11, 1), (12, 66), (19, 6), (20, 6), (23, 1), (24, 1), (25, 1), (26, 1), (27, 1), (28, 6), (29, 1)]
def lCh : List (Nat × Nat) := [(10, 10), (11, 1), (12, 66), (19, 6), (20, 6), (23, 1), (24, 1), (25, 1), (26, 1), (27, 1), (29, 1)]
def lHd : List (Nat × Nat) := [(10, 10), (11, 1), (12, 66), (23, 1), (24, 1), (25, 1), (27, 1)]
theorem LwL.rf {cs : List (Nat × Nat)} {l : Nat} {f : Nat → Nat → Int32} : LwL cs l f f := fun _ _ _ _ => rfl
theorem LwL.tr {cs : List (Nat × Nat)} {l : Nat} {f f1 f2 : Nat → Nat → Int32} (a : LwL cs l f f1) (b : LwL cs l f1 f2) : LwL cs l f f2 := fun c hc k hk => (b c hc k hk).trans (a c hc k hk)
theorem LwL.lo {cs ds : List (Nat × Nat)} {l l' : Nat} {f f1 : Nat → Nat → Int32} (a : LwL cs l f f1) (h : ∀ c ∈ ds, c ∈ cs) (hl : l' ≤ l) : LwL ds l' f f1 := fun c hc k hk => a c (h c hc) k (Nat.lt_of_lt_of_le hk (Nat.mul_le_mul_left _ hl))
theorem LwL_u {cs : List (Nat × Nat)} {l : Nat} {f : Nat → Nat → Int32} {c : Nat} {S : Nat → Int32} (h : ∀ x ∈ cs, x.1 = c → ∀ k, k < x.2 * l → S k = f c k) : LwL cs l f (uc f c S) := by
  intro x hx k hk
  by_cases z : x.1 = c
  · rw [z, uc_eq]; exact h x hx z k hk
  · rw [uc_ne z]
/-- NODES below a place stay -/
def NdEq (n : Nat) (f f' : Nat → Nat → Int32) : Prop := (∀ k, k < 12 * n → f' 30 k = f 30 k) ∧ ∀ k, k < 10 * n → f' 31 k = f 31 k
theorem NdEq.rf {n : Nat} {f : Nat → Nat → Int32} : NdEq n f f := ⟨fun _ _ => rfl, fun _ _ => rfl⟩
theorem NdEq.tr {n : Nat} {f f1 f2 : Nat → Nat → Int32} (a : NdEq n f f1) (b : NdEq n f1 f2) : NdEq n f f2 := ⟨fun k hk => (b.1 k hk).trans (a.1 k hk), fun k hk => (b.2 k hk).trans (a.2 k hk)⟩
theorem NdEq.lo {n m : Nat} {f f1 : Nat → Nat → Int32} (a : NdEq n f f1) (h : m ≤ n) : NdEq m f f1 := ⟨fun k hk => a.1 k (by omega), fun k hk => a.2 k (by omega)⟩
theorem NdEq_of {n : Nat} {f f' : Nat → Nat → Int32} (h1 : f' 30 = f 30) (h2 : f' 31 = f 31) : NdEq n f f' := ⟨fun k _ => by rw [h1], fun k _ => by rw [h2]⟩
def oA : Option Nat → Int32
  | none => -1
  | some a => nI a
/-- what stands of a NODE from its beginning on -/
def NodeP (f : Nat → Nat → Int32) (i from_ many : Nat) (above : Option Nat) (row : List Nat) (lvl : Nat) : Prop := f 30 (12 * i + 3) = nI from_ ∧ f 30 (12 * i + 4) = nI many ∧ f 30 (12 * i + 5) = oA above ∧ f 30 (12 * i + 6) = nI row.length ∧ f 30 (12 * i + 7) = nI lvl ∧ ∀ k, k < row.length → f 31 (10 * i + k) = nI (row.getD k 0)
def FrA (nm : List Nat) (f : Nat → Nat → Int32) (i : Nat) (fr : List (Nat × Nat)) : Prop := match fr with
  | [] => f 30 (12 * i + 8) = -1 ∧ f 30 (12 * i + 10) = -1
  | [x] => f 30 (12 * i + 8) = nI (mJ nm x.1) ∧ f 30 (12 * i + 9) = nI x.2 ∧ f 30 (12 * i + 10) = -1
  | x :: y :: _ => f 30 (12 * i + 8) = nI (mJ nm x.1) ∧ f 30 (12 * i + 9) = nI x.2 ∧ f 30 (12 * i + 10) = nI (mJ nm y.1) ∧ f 30 (12 * i + 11) = nI y.2
def NodeAt (nm : List Nat) (f : Nat → Nat → Int32) (i : Nat) (nd : Nd) : Prop := f 30 (12 * i) = nI nd.1 ∧ f 30 (12 * i + 1) = nI nd.2.1 ∧ f 30 (12 * i + 2) = nI nd.2.2.1 ∧ NodeP f i nd.2.2.2.1 nd.2.2.2.2.1 nd.2.2.2.2.2.1 nd.2.2.2.2.2.2.1 nd.2.2.2.2.2.2.2.1 ∧ FrA nm f i nd.2.2.2.2.2.2.2.2 ∧ nd.2.2.2.2.2.2.1.length ≤ 10
def ndD : Nd := (0, 0, 0, 0, 0, none, [], 0, [])
def NodesAt (nm : List Nat) (f : Nat → Nat → Int32) (i : Nat) (ns : List Nd) : Prop := ∀ j, j < ns.length → NodeAt nm f (i + j) (ns.getD j ndD)
theorem NodeP_eq {n i from_ many lvl : Nat} {above : Option Nat} {row : List Nat} {f f' : Nat → Nat → Int32} (h : NodeP f i from_ many above row lvl) (hr : row.length ≤ 10) (he : NdEq n f f') (hi : i < n) : NodeP f' i from_ many above row lvl := by
  obtain ⟨h1, h2, h3, h4, h5, h6⟩ := h
  exact ⟨by rw [he.1 _ (by omega)]; exact h1, by rw [he.1 _ (by omega)]; exact h2, by rw [he.1 _ (by omega)]; exact h3, by rw [he.1 _ (by omega)]; exact h4, by rw [he.1 _ (by omega)]; exact h5, fun k hk => by rw [he.2 _ (by omega)]; exact h6 k hk⟩
theorem FrA_eq {n i : Nat} {nm : List Nat} {fr : List (Nat × Nat)} {f f' : Nat → Nat → Int32} (h : FrA nm f i fr) (he : NdEq n f f') (hi : i < n) : FrA nm f' i fr := by
  match fr, h with
  | [], h => exact ⟨by rw [he.1 _ (by omega)]; exact h.1, by rw [he.1 _ (by omega)]; exact h.2⟩
  | [x], h => exact ⟨by rw [he.1 _ (by omega)]; exact h.1, by rw [he.1 _ (by omega)]; exact h.2.1, by rw [he.1 _ (by omega)]; exact h.2.2⟩
  | x :: y :: t, h => exact ⟨by rw [he.1 _ (by omega)]; exact h.1, by rw [he.1 _ (by omega)]; exact h.2.1, by rw [he.1 _ (by omega)]; exact h.2.2.1, by rw [he.1 _ (by omega)]; exact h.2.2.2⟩
theorem NodeAt_eq {n i : Nat} {nm : List Nat} {nd : Nd} {f f' : Nat → Nat → Int32} (h : NodeAt nm f i nd) (he : NdEq n f f') (hi : i < n) : NodeAt nm f' i nd := by
  obtain ⟨h1, h2, h3, h4, h5, h6⟩ := h
  exact ⟨by rw [he.1 _ (by omega)]; exact h1, by rw [he.1 _ (by omega)]; exact h2, by rw [he.1 _ (by omega)]; exact h3, NodeP_eq h4 h6 he hi, FrA_eq h5 he hi, h6⟩
theorem NodesAt_eq {n i : Nat} {nm : List Nat} {ns : List Nd} {f f' : Nat → Nat → Int32} (h : NodesAt nm f i ns) (he : NdEq n f f') (hi : i + ns.length ≤ n) : NodesAt nm f' i ns := fun j hj => NodeAt_eq (h j hj) he (by omega)
theorem NodesAt_app {i : Nat} {nm : List Nat} {ns ns2 : List Nd} {f : Nat → Nat → Int32} (h : NodesAt nm f i ns) (h2 : NodesAt nm f (i + ns.length) ns2) : NodesAt nm f i (ns ++ ns2) := by
  intro j hj
  rw [List.length_append] at hj
  rcases Nat.lt_or_ge j ns.length with q | q
  · rw [List.getD_eq_getElem?_getD, List.getElem?_append_left q, ← List.getD_eq_getElem?_getD]
    exact h j q
  · rw [List.getD_eq_getElem?_getD, List.getElem?_append_right q, ← List.getD_eq_getElem?_getD]
    have := h2 (j - ns.length) (by omega)
    rw [show i + ns.length + (j - ns.length) = i + j by omega] at this
    exact this
/-- the counters, not over -/
def CtrAt (f : Nat → Nat → Int32) (s : Ctr) : Prop := f 0 33 = nI s.1 ∧ f 0 34 = nI s.2.1 ∧ f 0 35 = nI s.2.2.1 ∧ f 0 36 = nI s.2.2.2 ∧ f 0 37 = 0 ∧ s.1 ≤ 500 ∧ s.2.2.2 ≤ 12
theorem CtrAt_0 {f f' : Nat → Nat → Int32} {s : Ctr} (h : CtrAt f s) (h0 : ∀ k, 33 ≤ k → k ≤ 37 → f' 0 k = f 0 k) : CtrAt f' s := by
  unfold CtrAt at *
  rw [h0 33 (by omega) (by omega), h0 34 (by omega) (by omega), h0 35 (by omega) (by omega), h0 36 (by omega) (by omega), h0 37 (by omega) (by omega)]
  exact h
/-- what a search rests on -/
def SrP (f : Nat → Nat → Int32) (g : Nat → Nat) (gr : GrT) (nt : List Nat) (tx : List (List Nat)) (lim : Nat) : Prop := NowAt f g gr nt tx ∧ HasAt f gr.1 gr.2.2.2 ∧ f 0 32 = nI lim ∧ lim ≤ 12
theorem SrP_fr {f f' : Nat → Nat → Int32} {g : Nat → Nat} {gr : GrT} {nt : List Nat} {tx : List (List Nat)} {lim : Nat} (h : SrP f g gr nt tx lim) (hf : SrF f f') : SrP f' g gr nt tx lim :=
  ⟨Now_fr h.1 hf.1 (by decide), Has_cong h.2.1 (hf.1 13 (by decide)) (hf.1 14 (by decide)) (hf.1 15 (by decide)), by rw [hf.2 32 (by decide)]; exact h.2.2.1, h.2.2.2⟩
def LvS_fr {f f' : Nat → Nat → Int32} {l : Nat} {w : List Nat} (h : LvS f l w) (hf : LwL [(10, 10), (11, 1)] (l + 1) f f') : LvS f' l w := by
  obtain ⟨h1, h2, h3⟩ := h
  exact ⟨by rw [hf (11, 1) (by simp) l (by simp)]; exact h1, h2, fun i hi => by rw [hf (10, 10) (by simp) (10 * l + i) (by simp; omega)]; exact h3 i hi⟩
