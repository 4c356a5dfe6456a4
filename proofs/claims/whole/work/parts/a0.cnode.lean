/-! ===== the class: Search.openNode; what calls of a SEARCH leave as it was ===== -/
def nl (S : Nat) (h : AH) : Nat := cntP (fun k => (hR h (S + 2) k).isNone) 500
def SA (S FB lvl i0 : Nat) (h : AH) (a : Nat) : Prop := a = S ∨ a = S + 2 ∨ (∃ j, lvl ≤ j ∧ j < 12 ∧ Bk (FB + 7 * j) 7 a) ∨ (∃ k N, i0 ≤ k ∧ k < 500 ∧ hR h (S + 2) k = some N ∧ (a = N ∨ a = N + 1))
/-- what a call by a level and from a NODE on leaves as it was -/
def SR (S FB lvl i0 : Nat) (h h' : AH) : Prop := hN h ≤ hN h' ∧ (∀ a, a < hN h → hT h' a = hT h a ∧ hL h' a = hL h a ∧ (¬ SA S FB lvl i0 h a → Sm h h' a)) ∧ (∀ k N, hR h (S + 2) k = some N → hR h' (S + 2) k = some N) ∧ (∀ k N, hR h (S + 2) k = none → hR h' (S + 2) k = some N → hN h ≤ N) ∧ hN h' + 2 * nl S h' = hN h + 2 * nl S h ∧ hU h' + 13 * nl S h' = hU h + 13 * nl S h
theorem SR.rf {S FB lvl i0 : Nat} {h : AH} : SR S FB lvl i0 h h := ⟨Nat.le_refl _, fun _ _ => ⟨rfl, rfl, fun _ => ⟨rfl, rfl, rfl⟩⟩, fun _ _ z => z, fun _ _ z y => (by rw [z] at y; cases y), rfl, rfl⟩
theorem SR.tr {S FB lvl i0 : Nat} {h h1 h2 : AH} (a : SR S FB lvl i0 h h1) (b : SR S FB lvl i0 h1 h2) : SR S FB lvl i0 h h2 := by
  obtain ⟨a1, a2, a3, a4, a5, a6⟩ := a
  obtain ⟨b1, b2, b3, b4, b5, b6⟩ := b
  refine ⟨by omega, fun x hx => ?_, fun k N z => b3 k N (a3 k N z), fun k N z y => ?_, by omega, by omega⟩
  · obtain ⟨c1, c2, c3⟩ := a2 x hx
    obtain ⟨e1, e2, e3⟩ := b2 x (by omega)
    refine ⟨e1.trans c1, e2.trans c2, fun z => ?_⟩
    obtain ⟨p1, p2, p3⟩ := c3 z
    obtain ⟨q1, q2, q3⟩ := e3 (fun y => z (by
      rcases y with y | y | y | ⟨k, N, y1, y2, y3, y4⟩
      · exact Or.inl y
      · exact Or.inr (Or.inl y)
      · exact Or.inr (Or.inr (Or.inl y))
      · cases hk : hR h (S + 2) k with
        | some M =>
          have := a3 k M hk
          rw [this] at y3
          rw [← Option.some.inj y3] at y4
          exact Or.inr (Or.inr (Or.inr ⟨k, M, y1, y2, hk, y4⟩))
        | none =>
          have := a4 k N hk y3
          omega))
    exact ⟨q1.trans p1, q2.trans p2, q3.trans p3⟩
  · cases hk : hR h1 (S + 2) k with
    | some M =>
      have := a4 k M z hk
      have e := b3 k M hk
      rw [e] at y
      cases y; exact this
    | none =>
      have := b4 k N hk y
      omega
theorem SR.w {S FB lvl lvl' i0 i0' : Nat} {h h' : AH} (a : SR S FB lvl i0 h h') (hl : lvl' ≤ lvl) (hi : i0' ≤ i0) : SR S FB lvl' i0' h h' := by
  refine ⟨a.1, fun x hx => ⟨(a.2.1 x hx).1, (a.2.1 x hx).2.1, fun z => (a.2.1 x hx).2.2 (fun y => z ?_)⟩, a.2.2⟩
  rcases y with y | y | ⟨j, y1, y2⟩ | ⟨k, N, y1, y2⟩
  · exact Or.inl y
  · exact Or.inr (Or.inl y)
  · exact Or.inr (Or.inr (Or.inl ⟨j, by omega, y2⟩))
  · exact Or.inr (Or.inr (Or.inr ⟨k, N, by omega, y2⟩))
/-- nothing is made -/
theorem SR_z {S FB lvl i0 : Nat} {A : Nat → Prop} {h h' : AH} (z : Fz A h h') (hA : ∀ a, A a → SA S FB lvl i0 h a) (hS : hR h' (S + 2) = hR h (S + 2)) : SR S FB lvl i0 h h' := by
  refine ⟨by rw [z.1]; exact Nat.le_refl _, fun a _ => ⟨by rw [z.2.2.1], by rw [z.2.2.2.1], fun y => z.2.2.2.2 a (fun w => y (hA a w))⟩, fun k N y => by rw [hS]; exact y, fun k N y w => (by rw [hS, y] at w; cases w), ?_, ?_⟩
  · unfold nl; rw [hS, z.1]
  · unfold nl; rw [hS, z.2.1]
theorem SR_s {S FB lvl i0 k : Nat} {h : AH} {v : Int32} : SR S FB lvl i0 h (sI h S k v) := SR_z (A := fun a => a = S) (Fz_sI rfl) (fun a ha => Or.inl ha) rfl
theorem SR_f {Γ : Nat → List Nat × Alts} {S FA FB T U X : Nat} {nm : List Nat} {gr : GrT} {tx : List (List Nat)} {d : Nat} {lvl i0 l : Nat} {h : AH} (q : SI Γ S FA FB T U X nm gr tx d h) (h1 : lvl ≤ l) (h2 : l < 12) {fi : Nat → Nat → Int32} {fj : Nat → Nat → Int64} {fr : Nat → Nat → Option Nat} : SR S FB lvl i0 h (ov h (FB + 7 * l) 7 fi fj fr) := by
  refine SR_z (A := Bk (FB + 7 * l) 7) Fz_ov (fun a ha => Or.inr (Or.inr (Or.inl ⟨l, h1, h2, ha⟩))) (ov_Ro (Ft_out (q.2.2.2.1 l h2).1 (by rw [q.2.1.2.2.2.1]; decide)))
theorem SR_n {Γ : Nat → List Nat × Alts} {S FA FB T U X : Nat} {nm : List Nat} {gr : GrT} {tx : List (List Nat)} {d : Nat} {lvl i0 k N : Nat} {A : Nat → Prop} {h h' : AH} (q : SI Γ S FA FB T U X nm gr tx d h) (z : Fz A h h') (hA : ∀ a, A a → a = N ∨ a = N + 1) (h1 : i0 ≤ k) (h2 : k < 500) (hN' : hR h (S + 2) k = some N) : SR S FB lvl i0 h h' := by
  refine SR_z z (fun a ha => Or.inr (Or.inr (Or.inr ⟨k, N, h1, h2, hN', hA a ha⟩))) ?_
  obtain ⟨c1, c2, c3, c4, c5⟩ := q.2.2.2.2.1 k h2 N hN'
  have tS := q.2.1.2.2.2.1
  refine (z.2.2.2.2 (S + 2) (fun w => ?_)).2.2
  rcases hA _ w with e | e
  · rw [e, c1] at tS; cases tS
  · rw [e, c3] at tS; cases tS
/-- a new NODE -/
def nwNd (h : AH) (k : Nat) : AH := sI (sR (nw (nw h 4 0 11) 49 2 2) (hN h) 10 (some (hN h + 1))) (hN h) 0 (nI k)
theorem nwNd_at {h : AH} {k : Nat} : NdC (nwNd h k) (hN h) k ∧ hN (nwNd h k) = hN h + 2 ∧ hU (nwNd h k) = hU h + 13 ∧ Fx (fun _ => False) 2 13 h (nwNd h k) := by
  unfold nwNd NdC
  refine ⟨⟨?_, ?_, ?_, ?_, ?_⟩, ?_, ?_, ⟨?_, ?_⟩, ⟨?_, ?_⟩, fun a ha => ⟨?_, ?_, fun _ => ⟨?_, ?_, ?_⟩⟩⟩
  all_goals simp (disch := omega) only [hN_sI, hU_sI, hT_sI, hL_sI, hI_sI, hJ_sI, hR_sI, hN_sJ, hU_sJ, hT_sJ, hL_sJ, hI_sJ, hJ_sJ, hR_sJ, hN_sR, hU_sR, hT_sR, hL_sR, hI_sR, hJ_sR, hR_sR, hN_nw, hU_nw, hT_nw, hL_nw, hI_nw, hJ_nw, hR_nw, vu_s, vu_n, u2_s, u2_o]
  all_goals first | rfl | omega
theorem WF_nwNd {h : AH} {k : Nat} (w : WF h) : WF (nwNd h k) := WF_nw (t := 49) (n := 2) (u := 2) (WF_nw (t := 4) (n := 0) (u := 11) w)
theorem FtG_x {Γ : Nat → List Nat × Alts} {A : Nat → Prop} {n u : Nat} {h h' : AH} {F : Nat} (q : FtG Γ h F) (wf : WF h) (z : Fx A n u h h') (hA : ∀ c, c < 7 → ¬ A (F + c)) : FtG Γ h' F := by
  obtain ⟨q1, q2, ⟨U, w, q3, q5⟩, q4⟩ := q
  have lt : F + 6 < hN h := wf _ (by rw [q1.2.2.2.2.2.2.1]; decide)
  have t : ∀ c, c < 7 → hT h' (F + c) = hT h (F + c) ∧ hL h' (F + c) = hL h (F + c) := fun c hc => ⟨(z.2.2 _ (by omega)).1, (z.2.2 _ (by omega)).2.1⟩
  have s : ∀ c, c < 7 → Sm h h' (F + c) := fun c hc => (z.2.2 _ (by omega)).2.2 (hA c hc)
  refine ⟨?_, FtR_cg q2 (s 0 (by decide)).2.2, ⟨U, w, FtL_cg q3 (s 0 (by decide)).1 (s 1 (by decide)).1 (s 2 (by decide)).1 (s 0 (by decide)).2.1 (s 0 (by decide)).2.2, (z.2.2 U (wf U (by rw [q5]; decide))).1.trans q5⟩, by rw [(s 3 (by decide)).1]; exact q4⟩
  have t0 : hT h' F = hT h F := (t 0 (by decide)).1
  unfold FtT at *
  rw [t0, (t 1 (by decide)).1, (t 1 (by decide)).2, (t 2 (by decide)).1, (t 2 (by decide)).2, (t 3 (by decide)).1, (t 3 (by decide)).2, (t 4 (by decide)).1, (t 4 (by decide)).2, (t 5 (by decide)).1, (t 5 (by decide)).2, (t 6 (by decide)).1, (t 6 (by decide)).2]
  exact q1
theorem cntP_up {p q : Nat → Bool} {k : Nat} : ∀ {n : Nat}, k < n → p k = true → q k = false → (∀ j, j ≠ k → q j = p j) → cntP q n + 1 = cntP p n
  | 0, h, _, _, _ => by cases h
  | n + 1, h, h1, h2, h3 => by
    unfold cntP
    rw [List.range_succ, List.countP_append, List.countP_append, List.countP_singleton, List.countP_singleton]
    by_cases z : k = n
    · subst z
      have : (List.range k).countP q = (List.range k).countP p := List.countP_congr (fun x hx => by rw [h3 x (by have := List.mem_range.mp hx; omega)])
      rw [this, h1, h2]; simp
    · have := cntP_up (n := n) (by omega) h1 h2 h3
      unfold cntP at this
      rw [h3 n (fun e => z e.symm)]
      omega
/-- a NODE is made and put -/
theorem SI_new {Γ : Nat → List Nat × Alts} {S FA FB T U X : Nat} {nm : List Nat} {gr : GrT} {tx : List (List Nat)} {d : Nat} {h : AH} (q : SI Γ S FA FB T U X nm gr tx d h) {i : Nat} (hi : i < 500) (h0 : hR h (S + 2) i = none) : SI Γ S FA FB T U X nm gr tx d (sR (nwNd h i) (S + 2) i (some (hN h))) ∧ SR S FB 12 i h (sR (nwNd h i) (S + 2) i (some (hN h))) ∧ hR (sR (nwNd h i) (S + 2) i (some (hN h))) (S + 2) i = some (hN h) ∧ hI (sR (nwNd h i) (S + 2) i (some (hN h))) S = hI h S := by
  obtain ⟨q1, q2, q3, q4, q5, ⟨q6, q7, q8⟩, ⟨q9, q10⟩, q11, q12⟩ := q
  obtain ⟨n1, n2, n3, n4⟩ := nwNd_at (h := h) (k := i)
  have z : Fz (fun a => a = S + 2) (nwNd h i) (sR (nwNd h i) (S + 2) i (some (hN h))) := Fz_sR rfl
  have x : Fx (fun a => a = S + 2) 2 13 h (sR (nwNd h i) (S + 2) i (some (hN h))) := (n4.w (fun _ _ y => y.elim) (Nat.le_refl _) (Nat.le_refl _)).tr z.fx
  have S2 : S + 2 < hN h := q1 _ (by rw [q2.2.2.2.1]; decide)
  have e2 : ∀ k, k ≠ i → hR (sR (nwNd h i) (S + 2) i (some (hN h))) (S + 2) k = hR h (S + 2) k := fun k hk => by
    rw [hR_sR, u2_n (Or.inr hk), ((n4.2.2 (S + 2) S2).2.2 (fun y => y)).2.2]
  have e1 : hR (sR (nwNd h i) (S + 2) i (some (hN h))) (S + 2) i = some (hN h) := by rw [hR_sR, u2_s]
  have nc : NdC (sR (nwNd h i) (S + 2) i (some (hN h))) (hN h) i := by
    obtain ⟨c1, c2, c3, c4, c5⟩ := n1
    exact ⟨c1, by rw [hR_sR, u2_o (by omega)]; exact c2, c3, c4, c5⟩
  have hn2 : hN (sR (nwNd h i) (S + 2) i (some (hN h))) = hN h + 2 := n2
  have hu2 : hU (sR (nwNd h i) (S + 2) i (some (hN h))) = hU h + 13 := n3
  have wf2 : WF (sR (nwNd h i) (S + 2) i (some (hN h))) := WF_nwNd (k := i) q1
  generalize sR (nwNd h i) (S + 2) i (some (hN h)) = h' at *
  have gk : Gk h h' := Gk_Fx q1 x (fun a ha m => by rw [ha, q2.2.2.2.1] at m; exact absurd m (by decide))
  have sS := x.2.2 S (by omega)
  have sm := sS.2.2 (by omega)
  have tN := x.2.2 (S + 2) S2
  refine ⟨⟨wf2, ⟨sS.1.trans q2.1, by rw [sm.2.2]; exact q2.2.1, by rw [sm.2.2]; exact q2.2.2.1, tN.1.trans q2.2.2.2.1, tN.2.1.trans q2.2.2.2.2⟩, FaO_k q3 gk, fun j hj => FtG_x (q4 j hj) q1 x (fun c hc w => ?_), fun k hk N hN' => ?_, ⟨by rw [sm.2.2]; exact q6, StA_k q7 gk, q8⟩, ⟨by rw [sm.2.2]; exact q9, TxA_k q10 gk⟩, by rw [sm.1]; exact q11, q12⟩, ⟨by omega, fun a ha => ⟨(x.2.2 a ha).1, (x.2.2 a ha).2.1, fun y => (x.2.2 a ha).2.2 (fun w => y (Or.inr (Or.inl w)))⟩, fun k N y => ?_, fun k N y w => ?_, ?_, ?_⟩, e1, sm.1⟩
  · have o := Ft_out (q4 j hj).1 (a := S + 2) (by rw [q2.2.2.2.1]; decide)
    omega
  · by_cases e : k = i
    · subst e
      rw [e1] at hN'
      cases hN'
      exact nc
    · rw [e2 k e] at hN'
      obtain ⟨c1, c2, c3, c4, c5⟩ := q5 k hk N hN'
      have lt : N + 1 < hN h := q1 _ (by rw [c3]; decide)
      have a1 := x.2.2 N (by omega)
      have a2 := x.2.2 (N + 1) lt
      have ne : N ≠ S + 2 := fun y => by rw [y, q2.2.2.2.1] at c1; cases c1
      have s1 := a1.2.2 ne
      exact ⟨a1.1.trans c1, by rw [s1.2.2]; exact c2, a2.1.trans c3, a2.2.1.trans c4, by rw [s1.1]; exact c5⟩
  · by_cases e : k = i
    · rw [e, h0] at y; cases y
    · rw [e2 k e]; exact y
  · by_cases e : k = i
    · rw [e, e1] at w; cases w; exact Nat.le_refl _
    · rw [e2 k e, y] at w; cases w
  · have := cntP_up (p := fun k => (hR h (S + 2) k).isNone) (q := fun k => (hR h' (S + 2) k).isNone) (k := i) (n := 500) hi (by rw [h0]; rfl) (by rw [e1]; rfl) (fun j hj => by rw [e2 j hj])
    unfold nl
    omega
  · have := cntP_up (p := fun k => (hR h (S + 2) k).isNone) (q := fun k => (hR h' (S + 2) k).isNone) (k := i) (n := 500) hi (by rw [h0]; rfl) (by rw [e1]; rfl) (fun j hj => by rw [e2 j hj])
    unfold nl
    omega
