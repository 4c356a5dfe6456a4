/-! ===== the reference: choices ===== -/
theorem frs_nd {hd : List Nat} : ∀ (l acc : List Nat), acc.Nodup → (l.foldl (frsF hd) acc).Nodup
  | [], acc, h => h
  | c :: l, acc, h => by
    rw [List.foldl_cons]
    refine frs_nd l _ ?_
    unfold frsF
    split
    · rename_i z
      rw [List.nodup_append]
      refine ⟨h, by simp, fun a ha b hb => ?_⟩
      rw [List.mem_singleton] at hb
      rw [hb]
      exact fun e => z.2.2 (e ▸ ha)
    · exact h
theorem frs_mono {hd : List Nat} : ∀ (l acc : List Nat), ∀ c ∈ acc, c ∈ l.foldl (frsF hd) acc
  | [], acc => fun c h => h
  | a :: l, acc => fun c h => by
    rw [List.foldl_cons]
    refine frs_mono l _ c ?_
    unfold frsF
    split
    · exact List.mem_append.mpr (Or.inl h)
    · exact h
theorem frs_has {hd : List Nat} : ∀ (l acc : List Nat) (c : Nat), c ∈ l → cap c = true → c ∉ hd → c ∈ l.foldl (frsF hd) acc
  | [], acc, c, h, _, _ => by cases h
  | a :: l, acc, c, h, h1, h2 => by
    rw [List.foldl_cons]
    rcases List.mem_cons.mp h with e | e
    · subst e
      refine frs_mono l _ c ?_
      unfold frsF
      by_cases z : c ∈ acc
      · split
        · exact List.mem_append.mpr (Or.inl z)
        · exact z
      · rw [if_pos ⟨h1, h2, z⟩]; simp
    · exact frs_has l _ c e h1 h2
theorem frs_hd {hd : List Nat} : ∀ (l acc : List Nat), (∀ c ∈ acc, c ∉ hd) → ∀ c ∈ l.foldl (frsF hd) acc, c ∉ hd
  | [], acc, h => h
  | a :: l, acc, h => by
    rw [List.foldl_cons]
    refine frs_hd l _ ?_
    unfold frsF
    split
    · rename_i z
      intro c hc
      rcases List.mem_append.mp hc with y | y
      · exact h c y
      · rw [List.mem_singleton] at y; rw [y]; exact z.2.1
    · exact h
/-- the v-th way that FREE ones can stand for words -/
def frV (Hw : Nat → List (List Nat)) (fs : List Nat) (v : Nat) : List (Nat × Nat) := match fs with
  | [] => []
  | [a] => [(a, v)]
  | a :: b :: _ => [(a, v / (Hw b).length), (b, v % (Hw b).length)]
def frN (Hw : Nat → List (List Nat)) (fs : List Nat) : Nat := match fs with
  | [] => 1
  | [a] => (Hw a).length
  | a :: b :: _ => (Hw a).length * (Hw b).length
theorem flat_grid {α : Type} {g : Nat → α} {n : Nat} : ∀ m, (List.range m).flatMap (fun i => (List.range n).map (fun j => g (i * n + j))) = (List.range (m * n)).map g
  | 0 => by simp
  | m + 1 => by
    rw [List.range_succ, List.flatMap_append, flat_grid m, Nat.add_mul, Nat.one_mul, List.range_add, List.map_append, List.map_map]
    simp [Function.comp_def]
theorem combos_eq {Hw : Nat → List (List Nat)} {fs : List Nat} (h : fs.length ≤ 2) : combos Hw fs = (List.range (frN Hw fs)).map (frV Hw fs) := by
  match fs, h with
  | [], _ => rfl
  | [a], _ =>
    simp only [combos, frN, frV]
    generalize (Hw a).length = n
    induction n with
    | zero => rfl
    | succ n ih => rw [List.range_succ, List.flatMap_append, List.map_append, ih]; rfl
  | [a, b], _ =>
    have e1 : combos Hw [b] = (List.range (Hw b).length).map (fun j => [(b, j)]) := by
      simp only [combos]
      generalize (Hw b).length = n
      induction n with
      | zero => rfl
      | succ n ih => rw [List.range_succ, List.flatMap_append, List.map_append, ih]; rfl
    have e2 : combos Hw [a, b] = (List.range (Hw a).length).flatMap (fun k => (combos Hw [b]).map (fun t => (a, k) :: t)) := rfl
    rw [e2, e1]
    simp only [frN, List.map_map, Function.comp_def]
    rw [← flat_grid]
    refine congrArg List.flatten (List.map_congr_left (fun i _ => List.map_congr_left (fun j hj => ?_)))
    have hj := List.mem_range.mp hj
    have hpos : 0 < (Hw b).length := by omega
    simp only [frV]
    rw [Nat.mul_comm i, Nat.mul_add_div hpos, Nat.div_eq_of_lt hj, Nat.mul_add_mod, Nat.mod_eq_of_lt hj, Nat.add_zero]
theorem frV_fst {Hw : Nat → List (List Nat)} {fs : List Nat} (h : fs.length ≤ 2) (v : Nat) : (frV Hw fs v).map (fun x => x.1) = fs := by
  match fs, h with
  | [], _ => rfl
  | [a], _ => rfl
  | [a, b], _ => rfl
theorem frV_find {Hw : Nat → List (List Nat)} {fs : List Nat} (h : fs.length ≤ 2) {v c : Nat} (hc : c ∈ fs) : ∃ y, (frV Hw fs v).find? (fun y => decide (y.1 = c)) = some y := by
  cases q : (frV Hw fs v).find? (fun y => decide (y.1 = c)) with
  | some y => exact ⟨y, rfl⟩
  | none =>
    rw [← frV_fst (Hw := Hw) h v] at hc
    obtain ⟨x, hx, e⟩ := List.mem_map.mp hc
    have := List.find?_eq_none.mp q x hx
    simp only [decide_eq_true_eq] at this
    exact absurd e this
def PostC (nm : List Nat) (f' : Nat → Nat → Int32) (idx : Nat) (rv : Int32) (res : Res (List Nd)) : Prop := match res with
  | none => rv = nI 0 ∧ f' 0 37 = nI 1
  | some (none, s') => rv = nI 0 ∧ CtrAt f' s' ∧ f' 0 47 = nI (idx + 1)
  | some (some ns, s') => rv = nI 1 ∧ CtrAt f' s' ∧ f' 0 47 = nI (idx + ns.length) ∧ NodesAt nm f' idx ns
/-- what a level stands on, while its RULES are gone through -/
def LvB (f : Nat → Nat → Int32) (gr : GrT) (l : Nat) (w : List Nat) (e : EnvA) (r from_ many idx : Nat) (above : Option Nat) : Prop := LvS f l w ∧ EnvAt f l gr.1 w e ∧ f 25 l = nI r ∧ f 23 l = nI from_ ∧ f 24 l = nI (from_ + many) ∧ f 27 l = nI idx ∧ NodeP f idx from_ many above w l
theorem LvB_fr {f f' : Nat → Nat → Int32} {gr : GrT} (go : GrOK gr) {l : Nat} {w : List Nat} {e : EnvA} {r from_ many idx : Nat} {above : Option Nat} (h : LvB f gr l w e r from_ many idx above) (hf : LwL lCh (l + 1) f f') (hn : NdEq (idx + 1) f f') : LvB f' gr l w e r from_ many idx above := by
  obtain ⟨h1, h2, h3, h4, h5, h6, h7⟩ := h
  refine ⟨LvS_fr h1 (hf.lo (by decide) (Nat.le_refl _)), EnvAt_cong h2 (fun m hm => hf (19, 6) (by decide) _ (by simp; omega)) (fun m hm => hf (20, 6) (by decide) _ (by simp; omega)) go.1, ?_, ?_, ?_, ?_, NodeP_eq h7 h1.2.1 hn (by omega)⟩
  · rw [hf (25, 1) (by decide) _ (by simp)]; exact h3
  · rw [hf (23, 1) (by decide) _ (by simp)]; exact h4
  · rw [hf (24, 1) (by decide) _ (by simp)]; exact h5
  · rw [hf (27, 1) (by decide) _ (by simp)]; exact h6
theorem LvB_lev {f : Nat → Nat → Int32} {gr : GrT} {l : Nat} {w : List Nat} {e : EnvA} {r from_ many idx : Nat} {above : Option Nat} (h : LvB f gr l w e r from_ many idx above) {fr : List (Nat × Nat)} (hf : FwAt f l (nmL gr.1) (HW (AofMs gr.1) gr.2.2.2) fr) : LevAt f gr l w e fr r (from_ + many) idx := ⟨h.1, h.2.1, hf, h.2.2.1, h.2.2.2.2.1, h.2.2.2.2.2.1⟩
theorem LwL_no {cs : List (Nat × Nat)} {l : Nat} {f f' : Nat → Nat → Int32} {ks : List Nat} (h : Fr ks f f') (hk : ∀ c ∈ cs, c.1 ∉ ks) : LwL cs l f f' := fun c hc k _ => by rw [h c.1 (hk c hc)]
theorem NodesAt_up {nm : List Nat} {f f' : Nat → Nat → Int32} {i : Nat} {ns : List Nd} (h : NodesAt nm f i ns) (h1 : ∀ k, 12 * i ≤ k → f' 30 k = f 30 k) (h2 : f' 31 = f 31) : NodesAt nm f' i ns := by
  intro j hj
  obtain ⟨a1, a2, a3, ⟨b1, b2, b3, b4, b5, b6⟩, a5, a6⟩ := h j hj
  refine ⟨by rw [h1 _ (by omega)]; exact a1, by rw [h1 _ (by omega)]; exact a2, by rw [h1 _ (by omega)]; exact a3, ⟨by rw [h1 _ (by omega)]; exact b1, by rw [h1 _ (by omega)]; exact b2, by rw [h1 _ (by omega)]; exact b3, by rw [h1 _ (by omega)]; exact b4, by rw [h1 _ (by omega)]; exact b5, fun k hk => by rw [h2]; exact b6 k hk⟩, ?_, a6⟩
  generalize (ns.getD j ndD).2.2.2.2.2.2.2.2 = fr at a5
  match fr, a5 with
  | [], a5 => exact ⟨by rw [h1 _ (by omega)]; exact a5.1, by rw [h1 _ (by omega)]; exact a5.2⟩
  | [x], a5 => exact ⟨by rw [h1 _ (by omega)]; exact a5.1, by rw [h1 _ (by omega)]; exact a5.2.1, by rw [h1 _ (by omega)]; exact a5.2.2⟩
  | x :: y :: t, a5 => exact ⟨by rw [h1 _ (by omega)]; exact a5.1, by rw [h1 _ (by omega)]; exact a5.2.1, by rw [h1 _ (by omega)]; exact a5.2.2.1, by rw [h1 _ (by omega)]; exact a5.2.2.2⟩
theorem NodesAt_cons {nm : List Nat} {f : Nat → Nat → Int32} {i : Nat} {nd : Nd} {ns : List Nd} (h1 : NodeAt nm f i nd) (h2 : NodesAt nm f (i + 1) ns) : NodesAt nm f i (nd :: ns) := by
  intro j hj
  cases j with
  | zero => exact h1
  | succ j =>
    have := h2 j (by simp at hj; omega)
    rw [show i + 1 + j = i + (j + 1) by omega] at this
    exact this
theorem zdrop {α : Type} {l : List α} {d : α} {k : Nat} (h : k < l.length) : l.zipIdx.drop k = (l.getD k d, k) :: l.zipIdx.drop (k + 1) := by
  rw [List.drop_eq_getElem_cons (by rw [List.length_zipIdx]; exact h)]
  congr 1
  rw [List.getElem_zipIdx, List.getD_eq_getElem?_getD, List.getElem?_eq_getElem h]
  simp
theorem mdrop {α : Type} {g : Nat → α} {n k : Nat} (h : k < n) : ((List.range n).map g).drop k = g k :: ((List.range n).map g).drop (k + 1) := by
  rw [List.drop_eq_getElem_cons (by rw [List.length_map, List.length_range]; exact h)]
  simp
