/-! ===== the notions of NODES are words of small letters ===== -/
def Pw (ns : List Nd) : Prop := ∀ x ∈ ns, WL (nRo x)
theorem mem_WL {ak : List Nat → Nat → Nat → Nat → Ctr → Res (List Nd)} {tx : List (List Nat)} {sl : List Nat → List Nat} (hak : ∀ row f n i s ns s', WL row → ak row f n i s = some (some ns, s') → Pw ns) : ∀ (ms : ChoT) (f t nxt : Nat) (s s' : Ctr) (ns : List Nd), (∀ m ∈ ms, WL (sl m.2)) → memF ak tx sl ms f t nxt s = some (some ns, s') → Pw ns
  | [], f, t, nxt, s, s', ns, _, h => by
    rw [memF] at h
    by_cases z : f = t
    · rw [if_pos z] at h; cases h; exact fun x hx => by cases hx
    · rw [if_neg z] at h; cases h
  | m :: ms, f, t, nxt, s, s', ns, hm, h => by
    rw [memF] at h
    have hm' : ∀ x ∈ ms, WL (sl x.2) := fun x hx => hm x (List.mem_cons_of_mem _ hx)
    split at h
    · split at h
      · exact mem_WL hak ms _ _ _ _ _ _ hm' h
      · cases h
    · split at h
      · cases h
      · obtain ⟨n, _, s1, h1⟩ := fst_inv _ _ h
        obtain ⟨b, s2, h2, h3⟩ := thn_inv h1
        obtain ⟨b2, s3, h4, h5⟩ := thn_inv h3
        cases h5
        intro x hx
        rcases List.mem_append.mp hx with y | y
        · exact hak _ _ _ _ _ _ _ (hm m (List.mem_cons_self ..)) h2 x y
        · exact mem_WL hak ms _ _ _ _ _ _ hm' h4 x y
theorem fwd_WL {H : Nat → List (List Nat)} (hH : ∀ c, ∀ v ∈ H c, WL v) {fr : List (Nat × Nat)} {c : Nat} : WL (fwd H fr c) := by
  unfold fwd
  split
  · rename_i x _
    by_cases z : x.2 < (H c).length
    · exact hH c _ (getD_in (d := []) z)
    · rw [List.getD_eq_getElem?_getD, List.getElem?_eq_none (Nat.le_of_not_lt z)]
      exact WL_nil
  · exact WL_nil
theorem spl_WL {w : List Nat} {e : EnvA} {fw : Nat → List Nat} {sg : List Nat} (hw : WL w) (hf : ∀ c, WL (fw c)) (hs : ∀ c ∈ sg, SG c) : WL (spl w e fw sg) := by
  intro x hx
  unfold spl at hx
  obtain ⟨c, hc, h2⟩ := List.mem_flatMap.mp hx
  have : WL (splE w e fw c) := by
    unfold splE
    split
    · split
      · exact pc_WL hw
      · exact hf c
    · rename_i nc
      rw [WL_cons]
      rcases hs c hc with z | z
      · exact ⟨z, WL_nil⟩
      · exact absurd (cap_iff.mpr z) nc
  exact this x h2
theorem ask_WL {G : Gs} (hH : ∀ c, ∀ v ∈ gH G c, WL v) (hR : ∀ rt ∈ gRs G, ∀ ch ∈ rt.2, ∀ m ∈ ch, ∀ c ∈ m.2, SG c) : ∀ (d lvl : Nat) (row : List Nat) (from_ many idx : Nat) (above : Option Nat) (s s' : Ctr) (ns : List Nd), WL row → ask G d lvl row from_ many idx above s = some (some ns, s') → Pw ns
  | 0, lvl, row, from_, many, idx, above, s, s', ns, hr, h => by
    unfold ask at h
    split at h <;> cases h
  | d + 1, lvl, row, from_, many, idx, above, s, s', ns, hr, h => by
    by_cases h5 : s.1 = 500
    · unfold ask at h; rw [if_pos h5] at h; cases h
    · have key : ∃ s0, fstM (fun rr s => tryR G (fun row f n i s => ask G d (lvl + 1) row f n i (some idx) s) row lvl from_ many idx above rr s) (gRs G).zipIdx s0 = some (some ns, s') := by
        obtain ⟨k1, k2, k3⟩ := ask_cases (G := G) (d := d) (lvl := lvl) (row := row) (from_ := from_) (many := many) (idx := idx) (above := above) h5
        refine ⟨(s.1 + 1, s.2.1, s.2.2.1, max s.2.2.2 lvl), ?_⟩
        match q : fstM (fun rr s => tryR G (fun row f n i s => ask G d (lvl + 1) row f n i (some idx) s) row lvl from_ many idx above rr s) (gRs G).zipIdx (s.1 + 1, s.2.1, s.2.2.1, max s.2.2.2 lvl) with
        | none => rw [k1 q] at h; cases h
        | some (none, s1) => rw [k3 s1 q] at h; cases h
        | some (some b, s1) => rw [k2 b s1 q] at h; exact h
      obtain ⟨s0, h0⟩ := key
      obtain ⟨rr, hrr, s1, h1⟩ := fst_inv _ s0 h0
      obtain ⟨ek, hek, s2, h2⟩ := fst_inv _ s1 h1
      obtain ⟨c, hc, s3, h3⟩ := fst_inv _ s2 h2
      obtain ⟨fr, hfr, s4, h4⟩ := fst_inv _ s3 h3
      obtain ⟨ms, s5, e5, h5'⟩ := thn_inv h4
      cases h5'
      have m1 : rr.1 ∈ gRs G := List.mem_of_getElem? (mem_zip hrr)
      have m2 : c.1 ∈ rr.1.2 := List.mem_of_getElem? (mem_zip hc)
      have := mem_WL (ak := fun row f n i s => ask G d (lvl + 1) row f n i (some idx) s) (fun row f n i s ns s' hw hh => ask_WL hH hR d (lvl + 1) row f n i (some idx) s s' ns hw hh) c.1 from_ (from_ + many) (idx + 1) s4 s' ms (fun m hm => spl_WL hr (fun c => fwd_WL hH) (hR rr.1 m1 c.1 m2 m hm)) e5
      intro x hx
      rcases List.mem_cons.mp hx with y | y
      · rw [y]; exact hr
      · exact this x y
/-- fuel -/
theorem q_asks {Γ : Nat → List Nat × Alts} {S FA FB T U X : Nat} {nm : List Nat} {gr : GrT} {tx : List (List Nat)} {d : Nat} (htx : TxOK tx) : ∀ r n, 10 * r + 1 ≤ n → AkS Γ S FA FB T U X nm gr tx d n r
  | 0, n, h => by
    obtain ⟨n, rfl⟩ : ∃ n', n = n' + 1 := ⟨n - 1, by omega⟩
    exact q_ask0 n
  | r + 1, n, h => q_ask (K := 10 * r + 1) (fun n hn => q_asks htx r n hn) htx n (by omega)
