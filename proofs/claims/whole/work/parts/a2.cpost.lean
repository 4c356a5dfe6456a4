/-! ===== the class: A SEARCH, what its calls must give ===== -/
def SSi : List Nat := [8, 51, 3, 43, 44, 45, 46, 47, 48, 4, 49]
theorem SA_site {Γ : Nat → List Nat × Alts} {S FA FB T U X : Nat} {nm : List Nat} {gr : GrT} {tx : List (List Nat)} {d : Nat} {lvl i0 a : Nat} {h : AH} (q : SI Γ S FA FB T U X nm gr tx d h) (ha : SA S FB lvl i0 h a) : hT h a ∈ SSi := by
  rcases ha with e | e | ⟨j, j1, j2, j3⟩ | ⟨k, N, k1, k2, k3, e | e⟩
  · rw [e, q.2.1.1]; decide
  · rw [e, q.2.1.2.2.2.1]; decide
  · by_cases y : hT h a ∈ [3, 43, 44, 45, 46, 47, 48]
    · unfold SSi
      simp only [List.mem_cons, List.not_mem_nil, or_false] at y ⊢
      omega
    · have := Ft_out (q.2.2.2.1 j j2).1 y
      unfold Bk at j3; omega
  · rw [e, (q.2.2.2.2.1 k k2 N k3).1]; decide
  · rw [e, (q.2.2.2.2.1 k k2 N k3).2.2.1]; decide
theorem SR_gk {Γ : Nat → List Nat × Alts} {S FA FB T U X : Nat} {nm : List Nat} {gr : GrT} {tx : List (List Nat)} {d : Nat} {lvl i0 : Nat} {h h' : AH} (q : SI Γ S FA FB T U X nm gr tx d h) (r : SR S FB lvl i0 h h') : Gk h h' := fun a ha => by
  have l1 := q.1 a (fun z => GS0 (z ▸ ha))
  obtain ⟨e1, e2, e3⟩ := r.2.1 a l1
  refine ⟨e1, e2, e3 (fun z => ?_)⟩
  have d : ∀ t ∈ SSi, t ∉ GS := by decide
  exact d _ (SA_site q z) ha
theorem SR_node {Γ : Nat → List Nat × Alts} {S FA FB T U X : Nat} {nm : List Nat} {gr : GrT} {tx : List (List Nat)} {d : Nat} {lvl i0 k N : Nat} {h h' : AH} (q : SI Γ S FA FB T U X nm gr tx d h) (r : SR S FB lvl i0 h h') (hk : k < i0) (h5 : k < 500) (hN' : hR h (S + 2) k = some N) : Sm h h' N ∧ Sm h h' (N + 1) := by
  obtain ⟨c1, c2, c3, c4, c5⟩ := q.2.2.2.2.1 k h5 N hN'
  have l1 : N + 1 < hN h := q.1 _ (by rw [c3]; decide)
  have out : ∀ a, (a = N ∨ a = N + 1) → ¬ SA S FB lvl i0 h a := fun a ha z => by
    have ta : hT h a = 4 ∨ hT h a = 49 := ha.elim (fun e => by rw [e]; exact Or.inl c1) (fun e => by rw [e]; exact Or.inr c3)
    rcases z with e | e | ⟨j, j1, j2, j3⟩ | ⟨k', M, k1, k2, k3, e⟩
    · rw [e, q.2.1.1] at ta; omega
    · rw [e, q.2.1.2.2.2.1] at ta; omega
    · have := Ft_out (q.2.2.2.1 j j2).1 (a := a) (by rcases ta with e | e <;> rw [e] <;> decide)
      unfold Bk at j3; omega
    · obtain ⟨m1, m2, m3, m4, m5⟩ := q.2.2.2.2.1 k' k2 M k3
      have e' : N = M := by
        rcases ha with x | x <;> rcases e with y | y
        · rw [← x, ← y]
        · rw [← x, y, m3] at c1; cases c1
        · rw [← x, y, m1] at c3; cases c3
        · omega
      rw [← e', c5] at m5
      have := (nI_eq (by omega) (by omega)).mp m5
      omega
  exact ⟨(r.2.1 N (by omega)).2.2 (out N (Or.inl rfl)), (r.2.1 (N + 1) l1).2.2 (out _ (Or.inr rfl))⟩
theorem SR_fit {Γ : Nat → List Nat × Alts} {S FA FB T U X : Nat} {nm : List Nat} {gr : GrT} {tx : List (List Nat)} {d : Nat} {lvl i0 j c : Nat} {h h' : AH} (q : SI Γ S FA FB T U X nm gr tx d h) (r : SR S FB lvl i0 h h') (hj : j < lvl) (hj2 : j < 12) (hc : c < 7) : Sm h h' (FB + 7 * j + c) := by
  have HT := (q.2.2.2.1 j hj2).1
  have ts : hT h (FB + 7 * j + c) ∈ [3, 43, 44, 45, 46, 47, 48] := by
    by_cases y : hT h (FB + 7 * j + c) ∈ [3, 43, 44, 45, 46, 47, 48]
    · exact y
    · have := Ft_out HT y; omega
  have l1 : FB + 7 * j + c < hN h := q.1 _ (fun z => by rw [z] at ts; exact absurd ts (by decide))
  refine (r.2.1 _ l1).2.2 (fun z => ?_)
  rcases z with e | e | ⟨j', j1, j2, j3⟩ | ⟨k', M, k1, k2, k3, e | e⟩
  · rw [e, q.2.1.1] at ts; exact absurd ts (by decide)
  · rw [e, q.2.1.2.2.2.1] at ts; exact absurd ts (by decide)
  · unfold Bk at j3; omega
  · rw [e, (q.2.2.2.2.1 k' k2 M k3).1] at ts; exact absurd ts (by decide)
  · rw [e, (q.2.2.2.2.1 k' k2 M k3).2.2.1] at ts; exact absurd ts (by decide)
/-- the counters -/
def CtrA (h : AH) (S : Nat) (s : Ctr) : Prop := hI h S 5 = nI s.1 ∧ hI h S 6 = nI s.2.1 ∧ hI h S 7 = nI s.2.2.1 ∧ hI h S 8 = nI s.2.2.2 ∧ s.2.2.2 ≤ 12
def nd0 : Nd := (0, 0, 0, 0, 0, none, [], 0, [])
/-- a NODE as it is told -/
def NdA (h : AH) (T N : Nat) (H : Nat → List (List Nat)) (n : Nd) : Prop := hI h N 6 = nI n.1 ∧ hI h N 8 = nI n.2.1 ∧ hI h N 7 = nI n.2.2.1 ∧ hI h N 4 = nI n.2.2.2.1 ∧ hI h N 5 = nI n.2.2.2.2.1 ∧ hI h N 3 = oI n.2.2.2.2.2.1 ∧ hJ h N 1 = lN (cd n.2.2.2.2.2.2.1) ∧ hI h N 2 = nI n.2.2.2.2.2.2.2.1 ∧ (∃ rl R C, hR h T 1 = some rl ∧ hR h rl n.1 = some R ∧ hR h (R + 2) n.2.1 = some C ∧ hR h N 9 = some C ∧ hT h rl = 28 ∧ hT h (R + 2) = 42) ∧ ∀ j, j < n.2.2.2.2.2.2.2.2.length → hJ h (N + 1) j = lN (cd ((H (n.2.2.2.2.2.2.2.2.getD j (0, 0)).1).getD (n.2.2.2.2.2.2.2.2.getD j (0, 0)).2 []))
theorem NdA_cg {h h' : AH} {T N : Nat} {H : Nat → List (List Nat)} {n : Nd} (q : NdA h T N H n) (s1 : Sm h h' N) (s2 : Sm h h' (N + 1)) (k : Gk h h') (tT : hT h T = 10) : NdA h' T N H n := by
  obtain ⟨a1, a2, a3, a4, a5, a6, a7, a8, ⟨rl, R, C, b1, b2, b3, b4, b5, b6⟩, a9⟩ := q
  have kT := k T (by rw [tT]; decide)
  have kr := k rl (by rw [b5]; decide)
  have kR := k (R + 2) (by rw [b6]; decide)
  unfold NdA
  rw [s1.1, s1.2.1, s2.2.1]
  exact ⟨a1, a2, a3, a4, a5, a6, a7, a8, ⟨rl, R, C, by rw [kT.2.2.2.2]; exact b1, by rw [kr.2.2.2.2]; exact b2, by rw [kR.2.2.2.2]; exact b3, by rw [s1.2.2]; exact b4, kr.1.trans b5, kR.1.trans b6⟩, a9⟩
def NsA (h : AH) (S T : Nat) (H : Nat → List (List Nat)) (i : Nat) (ns : List Nd) : Prop := ∀ j, j < ns.length → ∃ N, hR h (S + 2) (i + j) = some N ∧ NdA h T N H (ns.getD j nd0)
theorem NsA_r {Γ : Nat → List Nat × Alts} {S FA FB T U X : Nat} {nm : List Nat} {gr : GrT} {tx : List (List Nat)} {d : Nat} {lvl i0 i : Nat} {h h' : AH} {H : Nat → List (List Nat)} {ns : List Nd} (q : SI Γ S FA FB T U X nm gr tx d h) (r : SR S FB lvl i0 h h') (n : NsA h S T H i ns) (hi : i + ns.length ≤ i0) (h5 : i + ns.length ≤ 500) : NsA h' S T H i ns := fun j hj => by
  obtain ⟨N, n1, n2⟩ := n j hj
  obtain ⟨s1, s2⟩ := SR_node q r (show i + j < i0 by omega) (by omega) n1
  exact ⟨N, r.2.2.1 _ _ n1, NdA_cg n2 s1 s2 (SR_gk q r) q.2.2.2.2.2.1.2.1.1⟩
theorem NsA_app {h : AH} {S T i : Nat} {H : Nat → List (List Nat)} {a b : List Nd} (h1 : NsA h S T H i a) (h2 : NsA h S T H (i + a.length) b) : NsA h S T H i (a ++ b) := fun j hj => by
  rw [List.length_append] at hj
  by_cases z : j < a.length
  · obtain ⟨N, n1, n2⟩ := h1 j z
    exact ⟨N, n1, by rw [List.getD_eq_getElem?_getD, List.getElem?_append_left z, ← List.getD_eq_getElem?_getD]; exact n2⟩
  · obtain ⟨N, n1, n2⟩ := h2 (j - a.length) (by omega)
    exact ⟨N, by rw [show i + a.length + (j - a.length) = i + j by omega] at n1; exact n1, by rw [List.getD_eq_getElem?_getD, List.getElem?_append_right (by omega), ← List.getD_eq_getElem?_getD]; exact n2⟩
/-- what comes of asking -/
def PoA (S T i : Nat) (H : Nat → List (List Nat)) (ret : Bool) (h : AH) (v : Int32) : Res (List Nd) → Prop
  | none => v = nI 0 ∧ hI h S 4 = nI 1
  | some (none, s) => v = nI 0 ∧ hI h S 4 = nI 0 ∧ CtrA h S s ∧ (ret = true → hI h S 10 = nI i)
  | some (some ns, s) => v = nI 1 ∧ hI h S 4 = nI 0 ∧ CtrA h S s ∧ hI h S 10 = nI (i + ns.length) ∧ NsA h S T H i ns
noncomputable def akF (gr : GrT) (tx : List (List Nat)) (d lvl ix : Nat) : List Nat → Nat → Nat → Nat → Ctr → Res (List Nd) := fun row f n i s => ask (gG gr tx) d (lvl + 1) row f n i (some ix) s
/-- ask, by so much fuel and with so many levels left -/
def AkS (Γ : Nat → List Nat × Alts) (S FA FB T U X : Nat) (nm : List Nat) (gr : GrT) (tx : List (List Nat)) (d : Nat) (n r : Nat) : Prop := ∀ (h : AH) (lvl : Nat) (row : List Nat) (f m i : Nat) (ab : Option Nat) (s : Ctr), SI Γ S FA FB T U X nm gr tx d h → lvl + r = d → WL row → row.length ≤ 10 → f + m ≤ tx.length → i ≤ s.1 → s.1 ≤ 500 → CtrA h S s → hI h S 4 = nI 0 → hI h S 10 = nI i → ∃ h' v, R_Search_ask n 0 [.ref S, .int (nI lvl), .long (lN (cd row)), .int (nI f), .int (nI m), .int (oI ab)] h = some (v, h') ∧ SI Γ S FA FB T U X nm gr tx d h' ∧ SR S FB lvl i h h' ∧ PoA S T i (gH (gG gr tx)) true h' v (ask (gG gr tx) r lvl row f m i ab s)
/-- the values of METANOTIONS by the Fit of a level -/
def VlA (h : AH) (F : Nat) (nm w : List Nat) (e : EnvA) (fw : Nat → List Nat) (ch : ChoT) : Prop := ∀ m ∈ ch, ∀ c ∈ m.2, cap c = true → VAt (fun c => hI h (F + c)) (fun c => hJ h (F + c)) (nm.idxOf c) (splE w e fw c) ∧ WL (splE w e fw c) ∧ (splE w e fw c).length ≤ 10
theorem VlA_cg {h h' : AH} {F : Nat} {nm w : List Nat} {e : EnvA} {fw : Nat → List Nat} {ch : ChoT} (q : VlA h F nm w e fw ch) (s5 : Sm h h' (F + 5)) (s6 : Sm h h' (F + 6)) : VlA h' F nm w e fw ch := fun m hm c hc hcap => by
  obtain ⟨⟨a1, a2⟩, a3⟩ := q m hm c hc hcap
  exact ⟨⟨by show hJ h' (F + 5) _ = _; rw [s5.2.1]; exact a1, by show hI h' (F + 6) _ = _; rw [s6.1]; exact a2⟩, a3⟩
