/-! ===== the class: Search, what it keeps ===== -/
def SrO (h : AH) (S FA : Nat) : Prop := hT h S = 8 ∧ hR h S 3 = some FA ∧ hR h S 9 = some (S + 2) ∧ hT h (S + 2) = 51 ∧ hL h (S + 2) = 500
def FaO (h : AH) (FA FB : Nat) : Prop := hT h FA = 52 ∧ hL h FA = 12 ∧ ∀ i, i < 12 → hR h FA i = some (FB + 7 * i)
/-- a Fit, whatever it was loaded with -/
def FtG (Γ : Nat → List Nat × Alts) (h : AH) (F : Nat) : Prop := FtT h F ∧ FtR (fun c => hR h (F + c)) F ∧ (∃ U w, FtL Γ (fun c => hI h (F + c)) (fun c => hJ h (F + c)) (fun c => hR h (F + c)) U w ∧ hT h U = 11) ∧ hI h (F + 3) 0 = nI 0
def NdC (h : AH) (N k : Nat) : Prop := hT h N = 4 ∧ hR h N 10 = some (N + 1) ∧ hT h (N + 1) = 49 ∧ hL h (N + 1) = 2 ∧ hI h N 0 = nI k
def NdG (h : AH) (S : Nat) : Prop := ∀ k, k < 500 → ∀ N, hR h (S + 2) k = some N → NdC h N k
def TxA (h : AH) (X : Nat) (tx : List (List Nat)) : Prop := hT h X = 21 ∧ hL h X = tx.length ∧ ∀ i, i < tx.length → hJ h X i = lN (cd (tx.getD i []))
theorem TxA_k {h h' : AH} {X : Nat} {tx : List (List Nat)} (q : TxA h X tx) (k : Gk h h') : TxA h' X tx := by
  obtain ⟨e1, e2, _, e4, _⟩ := k X (by rw [q.1]; decide)
  exact ⟨e1.trans q.1, e2.trans q.2.1, fun i hi => by rw [e4]; exact q.2.2 i hi⟩
theorem FaO_k {h h' : AH} {FA FB : Nat} (q : FaO h FA FB) (k : Gk h h') : FaO h' FA FB := by
  obtain ⟨e1, e2, _, _, e5⟩ := k FA (by rw [q.1]; decide)
  exact ⟨e1.trans q.1, e2.trans q.2.1, fun i hi => by rw [e5]; exact q.2.2 i hi⟩
/-- all that a SEARCH stands on: its cells, its world, a depth -/
def SI (Γ : Nat → List Nat × Alts) (S FA FB T U X : Nat) (nm : List Nat) (gr : GrT) (tx : List (List Nat)) (d : Nat) (h : AH) : Prop := WF h ∧ SrO h S FA ∧ FaO h FA FB ∧ (∀ i, i < 12 → FtG Γ h (FB + 7 * i)) ∧ NdG h S ∧ (hR h S 0 = some T ∧ StA h T U nm gr ∧ Γ U = (nm, AofMs gr.1)) ∧ (hR h S 2 = some X ∧ TxA h X tx) ∧ hI h S 1 = nI d ∧ d ≤ 12
theorem FtL_cg {Γ : Nat → List Nat × Alts} {fi fi' : Nat → Nat → Int32} {fj fj' : Nat → Nat → Int64} {fr fr' : Nat → Nat → Option Nat} {U : Nat} {w : List Nat} (h : FtL Γ fi fj fr U w) (e0 : fi' 0 = fi 0) (e1 : fi' 1 = fi 1) (e2 : fi' 2 = fi 2) (ej : fj' 0 = fj 0) (er : fr' 0 = fr 0) : FtL Γ fi' fj' fr' U w := by
  unfold FtL WhAt SpAtF at *
  rw [e0, e1, e2, ej, er]; exact h
theorem FtR_cg {fr fr' : Nat → Nat → Option Nat} {F : Nat} (h : FtR fr F) (er : fr' 0 = fr 0) : FtR fr' F := by
  unfold FtR at *
  rw [er]; exact h
theorem FtG_z {Γ : Nat → List Nat × Alts} {A : Nat → Prop} {h h' : AH} {F : Nat} (q : FtG Γ h F) (z : Fz A h h') (hA : ∀ c, c < 7 → ¬ A (F + c)) : FtG Γ h' F := by
  obtain ⟨q1, q2, ⟨U, w, q3, q5⟩, q4⟩ := q
  have s : ∀ c, c < 7 → Sm h h' (F + c) := fun c hc => z.2.2.2.2 _ (hA c hc)
  refine ⟨?_, FtR_cg q2 (s 0 (by decide)).2.2, ⟨U, w, FtL_cg q3 (s 0 (by decide)).1 (s 1 (by decide)).1 (s 2 (by decide)).1 (s 0 (by decide)).2.1 (s 0 (by decide)).2.2, by rw [z.2.2.1]; exact q5⟩, by rw [(s 3 (by decide)).1]; exact q4⟩
  unfold FtT at *
  rw [z.2.2.1, z.2.2.2.1]; exact q1
/-- the cells of NODES change -/
theorem SI_n {Γ : Nat → List Nat × Alts} {S FA FB T U X : Nat} {nm : List Nat} {gr : GrT} {tx : List (List Nat)} {d : Nat} {A : Nat → Prop} {h h' : AH} (q : SI Γ S FA FB T U X nm gr tx d h) (z : Fz A h h') (hA : ∀ a, A a → hT h a = 4 ∨ hT h a = 49) (hN' : ∀ k N, k < 500 → hR h (S + 2) k = some N → hI h' N 0 = hI h N 0 ∧ hR h' N 10 = hR h N 10) : SI Γ S FA FB T U X nm gr tx d h' := by
  obtain ⟨q1, q2, q3, q4, q5, ⟨q6, q7, q8⟩, ⟨q9, q10⟩, q11, q12⟩ := q
  have nA : ∀ a, hT h a ≠ 4 → hT h a ≠ 49 → Sm h h' a := fun a x y => z.2.2.2.2 a (fun w => (hA a w).elim x y)
  have sS := nA S (by rw [q2.1]; decide) (by rw [q2.1]; decide)
  have sN := nA (S + 2) (by rw [q2.2.2.2.1]; decide) (by rw [q2.2.2.2.1]; decide)
  have gk : Gk h h' := Gk_Fx q1 z.fx (fun a ha m => by rcases hA a ha with e | e <;> rw [e] at m <;> exact absurd m (by decide))
  refine ⟨WF_z q1 z, ⟨by rw [z.2.2.1]; exact q2.1, by rw [sS.2.2]; exact q2.2.1, by rw [sS.2.2]; exact q2.2.2.1, by rw [z.2.2.1]; exact q2.2.2.2.1, by rw [z.2.2.2.1]; exact q2.2.2.2.2⟩, FaO_k q3 gk, fun i hi => FtG_z (q4 i hi) z (fun c hc w => ?_), fun k hk N hN => ?_, ⟨by rw [sS.2.2]; exact q6, StA_k q7 gk, q8⟩, ⟨by rw [sS.2.2]; exact q9, TxA_k q10 gk⟩, by rw [sS.1]; exact q11, q12⟩
  · obtain ⟨t0, ⟨t1, _⟩, ⟨t2, _⟩, ⟨t3, _⟩, ⟨t4, _⟩, ⟨t5, _⟩, t6, _⟩ := (q4 i hi).1
    have := hA _ w
    rcases (show c = 0 ∨ c = 1 ∨ c = 2 ∨ c = 3 ∨ c = 4 ∨ c = 5 ∨ c = 6 by omega) with e | e | e | e | e | e | e
    · rw [e, Nat.add_zero, t0] at this; omega
    · rw [e, t1] at this; omega
    · rw [e, t2] at this; omega
    · rw [e, t3] at this; omega
    · rw [e, t4] at this; omega
    · rw [e, t5] at this; omega
    · rw [e, t6] at this; omega
  · rw [sN.2.2] at hN
    obtain ⟨c1, c2, c3, c4, c5⟩ := q5 k hk N hN
    obtain ⟨n1, n2⟩ := hN' k N hk hN
    exact ⟨by rw [z.2.2.1]; exact c1, n2.trans c2, by rw [z.2.2.1]; exact c3, by rw [z.2.2.2.1]; exact c4, n1.trans c5⟩
/-- the counters change -/
theorem SI_s {Γ : Nat → List Nat × Alts} {S FA FB T U X : Nat} {nm : List Nat} {gr : GrT} {tx : List (List Nat)} {d : Nat} {h : AH} (q : SI Γ S FA FB T U X nm gr tx d h) {k : Nat} {v : Int32} (hk : k ≠ 1) : SI Γ S FA FB T U X nm gr tx d (sI h S k v) := by
  obtain ⟨q1, q2, q3, q4, q5, ⟨q6, q7, q8⟩, ⟨q9, q10⟩, q11, q12⟩ := q
  have z : Fz (fun a => a = S) h (sI h S k v) := Fz_sI rfl
  have gk : Gk h (sI h S k v) := Gk_Fx q1 z.fx (fun a ha m => by rw [ha, q2.1] at m; exact absurd m (by decide))
  refine ⟨q1, q2, FaO_k q3 gk, fun i hi => FtG_z (q4 i hi) z (fun c hc w => ?_), fun k' hk' N hN => ?_, ⟨q6, StA_k q7 gk, q8⟩, ⟨q9, TxA_k q10 gk⟩, by rw [hI_sI, u2_n (Or.inr (Ne.symm hk))]; exact q11, q12⟩
  · obtain ⟨t0, ⟨t1, _⟩, ⟨t2, _⟩, ⟨t3, _⟩, ⟨t4, _⟩, ⟨t5, _⟩, t6, _⟩ := (q4 i hi).1
    have e8 := q2.1
    rw [← w] at e8
    rcases (show c = 0 ∨ c = 1 ∨ c = 2 ∨ c = 3 ∨ c = 4 ∨ c = 5 ∨ c = 6 by omega) with e | e | e | e | e | e | e
    · rw [e, Nat.add_zero, t0] at e8; cases e8
    · rw [e, t1] at e8; cases e8
    · rw [e, t2] at e8; cases e8
    · rw [e, t3] at e8; cases e8
    · rw [e, t4] at e8; cases e8
    · rw [e, t5] at e8; cases e8
    · rw [e, t6] at e8; cases e8
  · obtain ⟨c1, c2, c3, c4, c5⟩ := q5 k' hk' N hN
    have ne : N ≠ S := fun e => by rw [e, q2.1] at c1; cases c1
    exact ⟨c1, c2, c3, c4, by rw [hI_sI, u2_o ne]; exact c5⟩
/-- a Fit changes -/
theorem SI_f {Γ : Nat → List Nat × Alts} {S FA FB T U X : Nat} {nm : List Nat} {gr : GrT} {tx : List (List Nat)} {d : Nat} {h : AH} (q : SI Γ S FA FB T U X nm gr tx d h) {l : Nat} (hl : l < 12) {fi : Nat → Nat → Int32} {fj : Nat → Nat → Int64} {fr : Nat → Nat → Option Nat} (hr : FtR fr (FB + 7 * l)) {U0 : Nat} {w0 : List Nat} (hL : FtL Γ fi fj fr U0 w0) (hU0 : hT h U0 = 11) (h30 : fi 3 0 = nI 0) : SI Γ S FA FB T U X nm gr tx d (ov h (FB + 7 * l) 7 fi fj fr) := by
  obtain ⟨q1, q2, q3, q4, q5, ⟨q6, q7, q8⟩, ⟨q9, q10⟩, q11, q12⟩ := q
  have z : Fz (Bk (FB + 7 * l) 7) h (ov h (FB + 7 * l) 7 fi fj fr) := Fz_ov
  have HT := (q4 l hl).1
  have out : ∀ a, hT h a ∉ [3, 43, 44, 45, 46, 47, 48] → Sm h (ov h (FB + 7 * l) 7 fi fj fr) a := fun a ha => z.2.2.2.2 a (by have := Ft_out HT ha; unfold Bk; omega)
  have inn : ∀ a, Bk (FB + 7 * l) 7 a → hT h a ∈ [3, 43, 44, 45, 46, 47, 48] := fun a ha => by
    by_cases y : hT h a ∈ [3, 43, 44, 45, 46, 47, 48]
    · exact y
    · have := Ft_out HT y
      unfold Bk at ha; omega
  have gk : Gk h (ov h (FB + 7 * l) 7 fi fj fr) := Gk_Fx q1 z.fx (fun a ha m => by
    have := inn a ha
    have d : ∀ t ∈ [3, 43, 44, 45, 46, 47, 48], t ∉ GS := by decide
    exact d _ this m)
  have sS := out S (by rw [q2.1]; decide)
  have sN := out (S + 2) (by rw [q2.2.2.2.1]; decide)
  refine ⟨q1, ⟨q2.1, by rw [sS.2.2]; exact q2.2.1, by rw [sS.2.2]; exact q2.2.2.1, q2.2.2.2⟩, FaO_k q3 gk, fun i hi => ?_, fun k' hk' N hN => ?_, ⟨by rw [sS.2.2]; exact q6, StA_k q7 gk, q8⟩, ⟨by rw [sS.2.2]; exact q9, TxA_k q10 gk⟩, by rw [sS.1]; exact q11, q12⟩
  · by_cases e : i = l
    · subst e
      exact ⟨HT, FtR_cg hr (ov_R (c := 0) (by decide)), ⟨U0, w0, FtL_cg hL (ov_I (c := 0) (by decide)) (ov_I (c := 1) (by decide)) (ov_I (c := 2) (by decide)) (ov_J (c := 0) (by decide)) (ov_R (c := 0) (by decide)), hU0⟩, by rw [ov_I (c := 3) (by decide)]; exact h30⟩
    · exact FtG_z (q4 i hi) z (fun c hc w => by unfold Bk at w; omega)
  · rw [sN.2.2] at hN
    obtain ⟨c1, c2, c3, c4, c5⟩ := q5 k' hk' N hN
    have s1 := out N (by rw [c1]; decide)
    exact ⟨c1, by rw [s1.2.2]; exact c2, c3, c4, by rw [s1.1]; exact c5⟩
