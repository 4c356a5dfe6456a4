/-! ===== THE DERIVATION is as the rules say ===== -/
abbrev nRu (x : Nd) : Nat := x.1
abbrev nCh (x : Nd) : Nat := x.2.1
abbrev nNo (x : Nd) : Nat := x.2.2.1
abbrev nFr (x : Nd) : Nat := x.2.2.2.1
abbrev nMa (x : Nd) : Nat := x.2.2.2.2.1
abbrev nAb (x : Nd) : Option Nat := x.2.2.2.2.2.1
abbrev nRo (x : Nd) : List Nat := x.2.2.2.2.2.2.1
abbrev nLv (x : Nd) : Nat := x.2.2.2.2.2.2.2.1
abbrev nFs (x : Nd) : List (Nat × Nat) := x.2.2.2.2.2.2.2.2
def MemT (tx : List (List Nat)) (sl : List Nat → List Nat) (idx lvl : Nat) : ChoT → Nat → Nat → List Nd → Prop
  | [], from_, to_, ns => from_ = to_ ∧ ns = []
  | m :: ms, from_, to_, ns => if m.1 = true then (from_ < to_ ∧ tx[from_]? = some (sl m.2)) ∧ MemT tx sl idx lvl ms (from_ + 1) to_ ns
    else (sl m.2).length ≤ 10 ∧ ∃ b bs ns2, ns = (b :: bs) ++ ns2 ∧ nRo b = sl m.2 ∧ nFr b = from_ ∧ nAb b = some idx ∧ nLv b = lvl + 1 ∧ (∀ x ∈ bs, lvl + 1 < nLv x) ∧ from_ + nMa b ≤ to_ ∧ MemT tx sl idx lvl ms (from_ + nMa b) to_ ns2
/-- one NODE of a list stands as its line says -/
def NdOK (G : Gs) (D : Nat) (L : List Nd) (base j : Nat) : Prop := ∃ nd rt ch e ns rest, L[j]? = some nd ∧ (gRs G)[nRu nd]? = some rt ∧ rt.2[nCh nd]? = some ch ∧ (asgs G (nRo nd) rt)[nNo nd]? = some e ∧ nFs nd ∈ combos (gH G) (frs rt.1 ch) ∧ (nRo nd).length ≤ 10 ∧ nLv nd < D ∧ L.drop (j + 1) = ns ++ rest ∧ MemT (gX G) (spl (nRo nd) e (fwd (gH G) (nFs nd))) (base + j) (nLv nd) ch (nFr nd) (nFr nd + nMa nd) ns ∧ ∀ x, rest.head? = some x → nLv x ≤ nLv nd
def NdPl (L : List Nd) (base j : Nat) : Prop := ∃ nd a up, L[j]? = some nd ∧ nAb nd = some (base + a) ∧ a < j ∧ L[a]? = some up ∧ nLv nd = nLv up + 1
theorem NdOK_app {G : Gs} {D : Nat} {L L2 : List Nd} {base j : Nat} (h : NdOK G D L base j) (h2 : ∀ nd x, L[j]? = some nd → L2.head? = some x → nLv x ≤ nLv nd) : NdOK G D (L ++ L2) base j := by
  obtain ⟨nd, rt, ch, e, ns, rest, a1, a2, a3, a4, a5, a6, a7, a8, a9, a10⟩ := h
  have hj : j < L.length := by
    rcases Nat.lt_or_ge j L.length with q | q
    · exact q
    · rw [List.getElem?_eq_none q] at a1; cases a1
  refine ⟨nd, rt, ch, e, ns, rest ++ L2, by rw [List.getElem?_append_left hj]; exact a1, a2, a3, a4, a5, a6, a7, ?_, a9, fun x hx => ?_⟩
  · rw [List.drop_append_of_le_length (by omega), a8, List.append_assoc]
  · cases rest with
    | nil => exact h2 nd x a1 hx
    | cons r rs => exact a10 x hx
theorem NdOK_pre {G : Gs} {D : Nat} {P L : List Nd} {base j : Nat} (h : NdOK G D L (base + P.length) j) : NdOK G D (P ++ L) base (P.length + j) := by
  obtain ⟨nd, rt, ch, e, ns, rest, a1, a2, a3, a4, a5, a6, a7, a8, a9, a10⟩ := h
  refine ⟨nd, rt, ch, e, ns, rest, ?_, a2, a3, a4, a5, a6, a7, ?_, by rw [← Nat.add_assoc]; exact a9, a10⟩
  · rw [List.getElem?_append_right (by omega), Nat.add_sub_cancel_left]; exact a1
  · rw [show P.length + j + 1 = P.length + (j + 1) by omega, List.drop_append, List.drop_of_length_le (by omega), List.nil_append, Nat.add_sub_cancel_left]
    exact a8
theorem NdPl_app {L L2 : List Nd} {base j : Nat} (h : NdPl L base j) : NdPl (L ++ L2) base j := by
  obtain ⟨nd, a, up, h1, h2, h3, h4, h5⟩ := h
  have hj : j < L.length := by
    rcases Nat.lt_or_ge j L.length with q | q
    · exact q
    · rw [List.getElem?_eq_none q] at h1; cases h1
  exact ⟨nd, a, up, by rw [List.getElem?_append_left hj]; exact h1, h2, h3, by rw [List.getElem?_append_left (by omega)]; exact h4, h5⟩
theorem NdPl_pre {P L : List Nd} {base j : Nat} (h : NdPl L (base + P.length) j) : NdPl (P ++ L) base (P.length + j) := by
  obtain ⟨nd, a, up, h1, h2, h3, h4, h5⟩ := h
  exact ⟨nd, P.length + a, up, by rw [List.getElem?_append_right (by omega), Nat.add_sub_cancel_left]; exact h1, by rw [← Nat.add_assoc]; exact h2, by omega, by rw [List.getElem?_append_right (by omega), Nat.add_sub_cancel_left]; exact h4, h5⟩
theorem fst_inv {α β : Type} {f : α → Ctr → Res β} {b : β} {s' : Ctr} : ∀ (l : List α) (s : Ctr), fstM f l s = some (some b, s') → ∃ x ∈ l, ∃ s1, f x s1 = some (some b, s')
  | [], s, h => by cases h
  | x :: xs, s, h => by
    simp only [fstM] at h
    match q : f x s, h with
    | none, h => simp only [q] at h; cases h
    | some (some c, s1), h => simp only [q] at h; cases h; exact ⟨x, List.mem_cons_self .., s, q⟩
    | some (none, s1), h =>
      simp only [q] at h
      obtain ⟨y, hy, s2, h2⟩ := fst_inv xs s1 h
      exact ⟨y, List.mem_cons_of_mem _ hy, s2, h2⟩
theorem thn_inv {β γ : Type} {x : Res β} {k : β → Ctr → Res γ} {c : γ} {s' : Ctr} (h : thn x k = some (some c, s')) : ∃ b s, x = some (some b, s) ∧ k b s = some (some c, s') := by
  match x, h with
  | some (some b, s), h => exact ⟨b, s, rfl, h⟩
/-- what an answer of ask is made of -/
def AkOK (G : Gs) (D lvl : Nat) (row : List Nat) (from_ many idx : Nat) (above : Option Nat) (ns : List Nd) : Prop := (∃ nd tl, ns = nd :: tl ∧ nFr nd = from_ ∧ nMa nd = many ∧ nAb nd = above ∧ nRo nd = row ∧ nLv nd = lvl ∧ ∀ x ∈ tl, lvl < nLv x) ∧ (∀ j, j < ns.length → NdOK G D ns idx j) ∧ ∀ j, 0 < j → j < ns.length → NdPl ns idx j
theorem mem_valid {G : Gs} {D lvl idx : Nat} {ak : List Nat → Nat → Nat → Nat → Ctr → Res (List Nd)} {sl : List Nat → List Nat} (hak : ∀ row f n i s ns s', row.length ≤ 10 → ak row f n i s = some (some ns, s') → AkOK G D (lvl + 1) row f n i (some idx) ns) : ∀ (ms : ChoT) (f t nxt : Nat) (s s' : Ctr) (ns : List Nd), f ≤ t → memF ak (gX G) sl ms f t nxt s = some (some ns, s') → MemT (gX G) sl idx lvl ms f t ns ∧ (∀ j, j < ns.length → NdOK G D ns nxt j) ∧ (∀ x ∈ ns, lvl < nLv x) ∧ (∀ x, ns.head? = some x → nLv x = lvl + 1) ∧ ∀ j nd, ns[j]? = some nd → (nAb nd = some idx ∧ nLv nd = lvl + 1) ∨ NdPl ns nxt j
  | [], f, t, nxt, s, s', ns, hft, h => by
    simp only [memF] at h
    split at h
    · rename_i q
      cases h
      exact ⟨⟨q, rfl⟩, fun j hj => (by simp at hj), fun x hx => (by cases hx), fun x hx => (by cases hx), fun j nd hj => (by simp at hj)⟩
    · cases h
  | m :: ms, f, t, nxt, s, s', ns, hft, h => by
    simp only [memF] at h
    split at h
    · rename_i q1
      split at h
      · rename_i q2
        obtain ⟨i1, i2⟩ := mem_valid hak ms (f + 1) t nxt s s' ns (by omega) h
        refine ⟨?_, i2⟩
        unfold MemT
        rw [if_pos q1]
        exact ⟨q2, i1⟩
      · cases h
    · rename_i q1
      split at h
      · cases h
      · rename_i q2
        obtain ⟨n, hn, s1, h1⟩ := fst_inv _ s h
        obtain ⟨b, s2, e1, h2⟩ := thn_inv h1
        obtain ⟨ns2, s3, e2, h3⟩ := thn_inv h2
        cases h3
        have hnt : f + n ≤ t := by
          split at hn
          · rw [List.mem_singleton] at hn; omega
          · have := List.mem_range.mp hn; omega
        obtain ⟨⟨nd, tl, eb, b1, b2, b3, b4, b5, b6⟩, c1, c2⟩ := hak _ _ _ _ _ _ _ (by omega) e1
        obtain ⟨i1, i2, i3, i4, i5⟩ := mem_valid hak ms (f + n) t (nxt + b.length) s2 s' ns2 hnt e2
        have hall : ∀ x ∈ b, lvl < nLv x := by
          intro x hx
          rw [eb] at hx
          rcases List.mem_cons.mp hx with z | z
          · rw [z, b5]; omega
          · have := b6 x z; omega
        refine ⟨?_, ?_, ?_, ?_, ?_⟩
        · unfold MemT
          rw [if_neg q1]
          exact ⟨by omega, nd, tl, ns2, by rw [eb], b4, b1, b3, b5, b6, by rw [b2]; exact hnt, by rw [b2]; exact i1⟩
        · intro j hj
          rw [List.length_append] at hj
          rcases Nat.lt_or_ge j b.length with z | z
          · refine NdOK_app (c1 j z) (fun nd' x hx1 hx2 => ?_)
            rw [i4 x hx2]
            exact hall nd' (List.mem_of_getElem? hx1)
          · have := NdOK_pre (P := b) (i2 (j - b.length) (by omega))
            rw [show b.length + (j - b.length) = j by omega] at this
            exact this
        · intro x hx
          rcases List.mem_append.mp hx with z | z
          · exact hall x z
          · exact i3 x z
        · intro x hx
          rw [eb] at hx
          cases hx
          exact b5
        · intro j nd' hj
          rcases Nat.lt_or_ge j b.length with z | z
          · rw [List.getElem?_append_left z] at hj
            cases j with
            | zero =>
              rw [eb] at hj
              cases hj
              exact Or.inl ⟨b3, b5⟩
            | succ j => exact Or.inr (NdPl_app (c2 (j + 1) (by omega) z))
          · rw [List.getElem?_append_right z] at hj
            refine (i5 (j - b.length) nd' hj).imp id (fun y => ?_)
            have := NdPl_pre (P := b) y
            rw [show b.length + (j - b.length) = j by omega] at this
            exact this
theorem mem_zip {α : Type} {l : List α} {x : α × Nat} (h : x ∈ l.zipIdx) : l[x.2]? = some x.1 := by
  rw [List.mem_zipIdx_iff_getElem?] at h
  exact h
theorem ask_valid {G : Gs} : ∀ (d lvl : Nat) (row : List Nat) (from_ many idx : Nat) (above : Option Nat) (s s' : Ctr) (ns : List Nd), row.length ≤ 10 → ask G d lvl row from_ many idx above s = some (some ns, s') → AkOK G (lvl + d) lvl row from_ many idx above ns
  | 0, lvl, row, from_, many, idx, above, s, s', ns, hr, h => by
    unfold ask at h
    split at h <;> cases h
  | d + 1, lvl, row, from_, many, idx, above, s, s', ns, hr, h => by
    by_cases h5 : s.1 = 500
    · unfold ask at h; rw [if_pos h5] at h; cases h
    · have key : ∃ s0, fstM (fun rr s => tryR G (fun row f n i s => ask G d (lvl + 1) row f n i (some idx) s) row lvl from_ many idx above rr s) (gRs G).zipIdx s0 = some (some ns, s') := by
        obtain ⟨k1, k2, k3⟩ := ask_cases (G := G) (d := d) (lvl := lvl) (row := row) (from_ := from_) (many := many) (idx := idx) (above := above) h5
        refine ⟨(s.1 + 1, s.2.1, s.2.2.1, max s.2.2.2 lvl), ?_⟩
        match q : fstM (fun rr s => tryR G (fun row f n i s => ask G d (lvl + 1) row f n i (some idx) s) row lvl from_ many idx above rr s) (gRs G).zipIdx (s.1 + 1, s.2.1, s.2.2.1, max s.2.2.2 lvl) with
        | none => rw [k1 q] at h; cases h
        | some (none, s1) => rw [k3 s1 q] at h; cases h
        | some (some b, s1) => rw [k2 b s1 q] at h; exact h
      obtain ⟨s0, h0⟩ := key
      obtain ⟨rr, hrr, s1, h1⟩ := fst_inv _ s0 h0
      obtain ⟨ek, hek, s2, h2⟩ := fst_inv _ s1 h1
      obtain ⟨c, hc, s3, h3⟩ := fst_inv _ s2 h2
      obtain ⟨fr, hfr, s4, h4⟩ := fst_inv _ s3 h3
      obtain ⟨ms, s5, e5, h5'⟩ := thn_inv h4
      cases h5'
      obtain ⟨i1, i2, i3, i4, i5⟩ := mem_valid (G := G) (D := lvl + (d + 1)) (lvl := lvl) (idx := idx) (ak := fun row f n i s => ask G d (lvl + 1) row f n i (some idx) s) (fun row f n i s ns s' hl hh => by
        have := ask_valid d (lvl + 1) row f n i (some idx) s s' ns hl hh
        rw [show lvl + 1 + d = lvl + (d + 1) by omega] at this
        exact this) c.1 from_ (from_ + many) (idx + 1) s4 s' ms (by omega) e5
      refine ⟨⟨_, ms, rfl, rfl, rfl, rfl, rfl, rfl, i3⟩, fun j hj => ?_, fun j hj0 hj => ?_⟩
      · cases j with
        | zero => exact ⟨_, rr.1, c.1, ek.1, ms, [], rfl, mem_zip hrr, mem_zip hc, mem_zip hek, hfr, hr, (by show lvl < lvl + (d + 1); omega), by simp, i1, fun x hx => by cases hx⟩
        | succ j =>
          have := NdOK_pre (P := [(rr.2, c.2, ek.2, from_, many, above, row, lvl, fr)]) (i2 j (by simp at hj; omega))
          rw [show [(rr.2, c.2, ek.2, from_, many, above, row, lvl, fr)].length + j = j + 1 by simp; omega] at this
          exact this
      · cases j with
        | zero => omega
        | succ j =>
          have hjl : j < ms.length := by simp at hj; omega
          have hg := getD_at (d := ndD) hjl
          rcases i5 j _ hg with ⟨y1, y2⟩ | y
          · exact ⟨ms.getD j ndD, 0, (rr.2, c.2, ek.2, from_, many, above, row, lvl, fr), by simpa using hg, y1, by omega, rfl, y2⟩
          · have := NdPl_pre (P := [(rr.2, c.2, ek.2, from_, many, above, row, lvl, fr)]) y
            rw [show [(rr.2, c.2, ek.2, from_, many, above, row, lvl, fr)].length + j = j + 1 by simp; omega] at this
            exact this
theorem combos_in {Hw : Nat → List (List Nat)} : ∀ {fs : List Nat} {fr : List (Nat × Nat)}, fr ∈ combos Hw fs → fr.map (fun x => x.1) = fs ∧ ∀ x ∈ fr, x.2 < (Hw x.1).length
  | [], fr, h => by
    simp only [combos, List.mem_singleton] at h
    rw [h]
    exact ⟨rfl, fun x hx => by cases hx⟩
  | a :: fs, fr, h => by
    obtain ⟨k, hk, h⟩ := List.mem_flatMap.mp h
    obtain ⟨t, ht, rfl⟩ := List.mem_map.mp h
    obtain ⟨i1, i2⟩ := combos_in ht
    refine ⟨by simp [i1], fun x hx => ?_⟩
    rcases List.mem_cons.mp hx with z | z
    · rw [z]; exact List.mem_range.mp hk
    · exact i2 x z
