/-! ===== the class: its state, whole ===== -/
def FSs : List Nat := [3, 43, 44, 45, 46, 47, 48, 8, 51, 52, 4, 49]
theorem Ft_site {h : AH} {F c : Nat} (HT : FtT h F) (hc : c < 7) : hT h (F + c) ∈ [3, 43, 44, 45, 46, 47, 48] := by
  by_cases y : hT h (F + c) ∈ [3, 43, 44, 45, 46, 47, 48]
  · exact y
  · have := Ft_out HT y
    omega
theorem FS_of {t : Nat} (h : t ∈ [3, 43, 44, 45, 46, 47, 48]) : t ∈ FSs := by
  unfold FSs
  simp only [List.mem_cons, List.not_mem_nil, or_false] at h ⊢
  omega
theorem NdG_x {A : Nat → Prop} {n u S : Nat} {h h' : AH} (q : NdG h S) (wf : WF h) (z : Fx A n u h h') (h2 : hT h (S + 2) = 51) (hA : ∀ a, A a → hT h a ∉ FSs) : NdG h' S := fun k hk N eN => by
  have l2 : S + 2 < hN h := wf _ (by rw [h2]; decide)
  have s2 := (z.2.2 (S + 2) l2).2.2 (fun y => hA _ y (by rw [h2]; decide))
  rw [s2.2.2] at eN
  obtain ⟨c1, c2, c3, c4, c5⟩ := q k hk N eN
  have l1 : N + 1 < hN h := wf _ (by rw [c3]; decide)
  have a1 := z.2.2 N (by omega)
  have a2 := z.2.2 (N + 1) l1
  have m1 := a1.2.2 (fun y => hA _ y (by rw [c1]; decide))
  exact ⟨a1.1.trans c1, by rw [m1.2.2]; exact c2, a2.1.trans c3, a2.2.1.trans c4, by rw [m1.1]; exact c5⟩
theorem SrO_x {A : Nat → Prop} {n u S FA : Nat} {h h' : AH} (q : SrO h S FA) (wf : WF h) (z : Fx A n u h h') (hA : ∀ a, A a → hT h a ∉ FSs) : SrO h' S FA := by
  have l2 : S + 2 < hN h := wf _ (by rw [q.2.2.2.1]; decide)
  have a1 := z.2.2 S (by omega)
  have a2 := z.2.2 (S + 2) l2
  have m1 := a1.2.2 (fun y => hA _ y (by rw [q.1]; decide))
  exact ⟨a1.1.trans q.1, by rw [m1.2.2]; exact q.2.1, by rw [m1.2.2]; exact q.2.2.1, a2.1.trans q.2.2.2.1, a2.2.1.trans q.2.2.2.2⟩
theorem FaO_x {A : Nat → Prop} {n u FA FB : Nat} {h h' : AH} (q : FaO h FA FB) (wf : WF h) (z : Fx A n u h h') (hA : ∀ a, A a → hT h a ∉ FSs) : FaO h' FA FB := by
  have l2 : FA < hN h := wf _ (by rw [q.1]; decide)
  have a1 := z.2.2 FA l2
  have m1 := a1.2.2 (fun y => hA _ y (by rw [q.1]; decide))
  exact ⟨a1.1.trans q.1, a1.2.1.trans q.2.1, fun i hi => by rw [m1.2.2]; exact q.2.2 i hi⟩
theorem FtG_xs {Γ : Nat → List Nat × Alts} {A : Nat → Prop} {n u F : Nat} {h h' : AH} (q : FtG Γ h F) (wf : WF h) (z : Fx A n u h h') (hA : ∀ a, A a → hT h a ∉ FSs) : FtG Γ h' F := FtG_x q wf z (fun c hc y => hA _ y (FS_of (Ft_site q.1 hc)))
theorem SJn_x {Γ : Nat → List Nat × Alts} {A : Nat → Prop} {n u S FA FB : Nat} {h h' : AH} (q : SJn Γ S FA FB h) (wf' : WF h') (z : Fx A n u h h') (hA : ∀ a, A a → hT h a ∉ FSs) : SJn Γ S FA FB h' := by
  obtain ⟨q1, q2, q3, q4, q5⟩ := q
  exact ⟨wf', SrO_x q2 q1 z hA, FaO_x q3 q1 z hA, fun i hi => FtG_xs (q4 i hi) q1 z hA, NdG_x q5 q1 z q2.2.2.2.1 hA⟩
/-- GRAMMAR and SETTINGS, with the names that go along -/
def GrC (Γ : Nat → List Nat × Alts) (h : AH) (S U : Nat) (nm : List Nat) (gr : GrT) : Prop := StA h S U nm gr ∧ Γ U = (nm, AofMs gr.1)
theorem GrC_k {Γ : Nat → List Nat × Alts} {h h' : AH} {S U : Nat} {nm : List Nat} {gr : GrT} (q : GrC Γ h S U nm gr) (k : Gk h h') : GrC Γ h' S U nm gr := ⟨StA_k q.1 k, q.2⟩
def gr0 : GrT := ([], [], 0, 0)
def PsC (Γ : Nat → List Nat × Alts) (h : AH) (P : Nat) (past : List GrT) : Prop := ∀ j, j < past.length → ∃ S U nm, hR h P j = some S ∧ GrC Γ h S U nm (past.getD j gr0)
theorem PsC_k {Γ : Nat → List Nat × Alts} {h h' : AH} {P : Nat} {past : List GrT} (q : PsC Γ h P past) (k : Gk h h') (e : hR h' P = hR h P) : PsC Γ h' P past := fun j hj => by
  obtain ⟨S, U, nm, a1, a2⟩ := q j hj
  exact ⟨S, U, nm, by rw [e]; exact a1, GrC_k a2 k⟩
def ShC (Γ : Nat → List Nat × Alts) (h : AH) (K : Nat) (kp : Kpt) : Prop := hT h K = 9 ∧ (∃ S U nm, hR h K 0 = some S ∧ GrC Γ h S U nm kp.1) ∧ hJ h K 1 = lN (cd kp.2.1) ∧ (∃ X, hR h K 2 = some X ∧ TxA h X kp.2.2) ∧ NtOK kp.2.1 ∧ TxOK kp.2.2
theorem ShC_k {Γ : Nat → List Nat × Alts} {h h' : AH} {K : Nat} {kp : Kpt} (q : ShC Γ h K kp) (k : Gk h h') : ShC Γ h' K kp := by
  obtain ⟨q1, ⟨S, U, nm, q2, q3⟩, q4, ⟨X, q5, q6⟩, q7⟩ := q
  obtain ⟨e1, e2, e3, e4, e5⟩ := k K (by rw [q1]; decide)
  exact ⟨e1.trans q1, ⟨S, U, nm, by rw [e5]; exact q2, GrC_k q3 k⟩, by rw [e4]; exact q4, ⟨X, by rw [e5]; exact q5, TxA_k q6 k⟩, q7⟩
def ShO (Γ : Nat → List Nat × Alts) (h : AH) (x : Option Nat) : Option Kpt → Prop
  | none => x = none
  | some kp => ∃ K, x = some K ∧ ShC Γ h K kp
theorem ShO_k {Γ : Nat → List Nat × Alts} {h h' : AH} {x : Option Nat} {o : Option Kpt} (q : ShO Γ h x o) (k : Gk h h') : ShO Γ h' x o := by
  match o, q with
  | none, q => exact q
  | some kp, ⟨K, a1, a2⟩ => exact ⟨K, a1, ShC_k a2 k⟩
def ShsC (Γ : Nat → List Nat × Alts) (h : AH) (Q : Nat) (sh : Nat → Option Kpt) : Prop := ∀ j, j < 2 → ShO Γ h (hR h Q j) (sh j)
theorem ShsC_k {Γ : Nat → List Nat × Alts} {h h' : AH} {Q : Nat} {sh : Nat → Option Kpt} (q : ShsC Γ h Q sh) (k : Gk h h') (e : hR h' Q = hR h Q) : ShsC Γ h' Q sh := fun j hj => by
  rw [e]
  exact ShO_k (q j hj) k
def TpC (h : AH) (O : Nat) (tp : List Nat) : Prop := hI h O 1 = nI tp.length ∧ tp.length ≤ 500 ∧ ∀ i, i < tp.length → hI h (O + 1) i = nI (tp.getD i 0) ∧ tp.getD i 0 < 256
def NwC (Γ : Nat → List Nat × Alts) (h : AH) (O S U X : Nat) (nm : List Nat) (gr : GrT) (nt : List Nat) (tx : List (List Nat)) : Prop := (hR h O 3 = some S ∧ GrC Γ h S U nm gr) ∧ (hJ h O 4 = lN (cd nt) ∧ NtOK nt) ∧ hR h O 5 = some X ∧ TxA h X tx ∧ TxOK tx
theorem NwC_k {Γ : Nat → List Nat × Alts} {h h' : AH} {O S U X : Nat} {nm : List Nat} {gr : GrT} {nt : List Nat} {tx : List (List Nat)} (q : NwC Γ h O S U X nm gr nt tx) (k : Gk h h') (e3 : hR h' O 3 = hR h O 3) (e4 : hJ h' O 4 = hJ h O 4) (e5 : hR h' O 5 = hR h O 5) : NwC Γ h' O S U X nm gr nt tx := ⟨⟨by rw [e3]; exact q.1.1, GrC_k q.1.2 k⟩, ⟨by rw [e4]; exact q.2.1.1, q.2.1.2⟩, by rw [e5]; exact q.2.2.1, TxA_k q.2.2.2.1 k, q.2.2.2.2⟩
/-- the fixed cells -/
def TlO (h : AH) (O : Nat) : Prop := hT h O = 12 ∧ (hR h O 0 = some (O + 1) ∧ hT h (O + 1) = 20 ∧ hL h (O + 1) = 500) ∧ (hR h O 2 = some (O + 2) ∧ RdO h (O + 2)) ∧ (hR h O 6 = some (O + 21) ∧ hT h (O + 21) = 22 ∧ hL h (O + 21) = 8) ∧ (hR h O 7 = some (O + 22) ∧ hT h (O + 22) = 23 ∧ hL h (O + 22) = 10) ∧ (hR h O 9 = some (O + 23) ∧ hT h (O + 23) = 24 ∧ hL h (O + 23) = 2) ∧ hR h O 10 = some (O + 24) ∧ hR h O 11 = some (O + 116) ∧ hR h O 12 = some (O + 119)
/-- no NODE is of both SEARCHES -/
def Dsj (h : AH) (P Q : Nat) : Prop := ∀ k k' N, k < 500 → k' < 500 → hR h (P + 2) k = some N → ¬ hR h (Q + 2) k' = some N
def FsC (Γ : Nat → List Nat × Alts) (h : AH) (O : Nat) : Prop := FtG Γ h (O + 24) ∧ SJn Γ (O + 116) (O + 31) (O + 32) h ∧ SJn Γ (O + 119) (O + 31) (O + 32) h ∧ Dsj h (O + 116) (O + 119)
noncomputable def srN (gr : GrT) (nt : List Nat) (tx : List (List Nat)) : Res (List Nd) := srch (gG gr tx) nt tx.length gr.2.2.1
/-- answers that are kept -/
def CaD (Γ : Nat → List Nat × Alts) (h : AH) (O S U X : Nat) (nm : List Nat) (gr : GrT) (nt : List Nat) (tx : List (List Nat)) : Prop := hI h O 13 = rsA (srN gr nt tx) ∧ SI Γ (O + 116) (O + 31) (O + 32) S U X nm gr tx gr.2.2.1 h ∧ RnP (O + 116) S (gH (gG gr tx)) h (srN gr nt tx)
def CaC (Γ : Nat → List Nat × Alts) (h : AH) (O S U X : Nat) (nm : List Nat) (gr : GrT) (nt : List Nat) (tx : List (List Nat)) : Prop := (hI h O 13 = -4 ∨ CaD Γ h O S U X nm gr nt tx) ∧ (hI h O 14 = -4 ∨ hI h O 14 = rsA (srch (gG gr tx) nt 0 gr.2.2.1)) ∧ (hI h O 15 = -4 ∨ hI h O 15 = lstA (gG gr tx) nt tx.length 12 1)
/-- all that the class stands on -/
def CI (Γ : Nat → List Nat × Alts) (O : Nat) (st : Stt) (h : AH) : Prop := TlO h O ∧ TpC h O st.1 ∧ (∃ S U X nm, NwC Γ h O S U X nm st.2.1 st.2.2.1 st.2.2.2.1 ∧ CaC Γ h O S U X nm st.2.1 st.2.2.1 st.2.2.2.1) ∧ (hI h O 8 = nI st.2.2.2.2.1.length ∧ st.2.2.2.2.1.length ≤ 10 ∧ PsC Γ h (O + 22) st.2.2.2.2.1) ∧ ShsC Γ h (O + 23) st.2.2.2.2.2 ∧ FsC Γ h O
theorem CI_wf {Γ : Nat → List Nat × Alts} {O : Nat} {st : Stt} {h : AH} (q : CI Γ O st h) : WF h := q.2.2.2.2.2.2.1.1
theorem Dsj_e {h h' : AH} {P Q : Nat} (q : Dsj h P Q) (e1 : hR h' (P + 2) = hR h (P + 2)) (e2 : hR h' (Q + 2) = hR h (Q + 2)) : Dsj h' P Q := by
  unfold Dsj at *
  rw [e1, e2]; exact q
theorem FsC_x {Γ : Nat → List Nat × Alts} {A : Nat → Prop} {n u O : Nat} {h h' : AH} (q : FsC Γ h O) (wf' : WF h') (z : Fx A n u h h') (hA : ∀ a, A a → hT h a ∉ FSs) : FsC Γ h' O := by
  obtain ⟨q1, q2, q3, q4⟩ := q
  have wf := q2.1
  have ee : ∀ S, hT h (S + 2) = 51 → hR h' (S + 2) = hR h (S + 2) := fun S hS => ((z.2.2 (S + 2) (wf _ (by rw [hS]; decide))).2.2 (fun y => hA _ y (by rw [hS]; decide))).2.2
  exact ⟨FtG_xs q1 wf z hA, SJn_x q2 wf' z hA, SJn_x q3 wf' z hA, Dsj_e q4 (ee _ q2.2.1.2.2.2.1) (ee _ q3.2.1.2.2.2.1)⟩
theorem RdO_x {A : Nat → Prop} {n u U : Nat} {h h' : AH} (q : RdO h U) (wf : WF h) (z : Fx A n u h h') (e4 : hR h' U 4 = hR h U 4) (e5 : hR h' U 5 = hR h U 5) : RdO h' U := by
  obtain ⟨q1, ⟨a1, a2, a3⟩, b1, b2, b3⟩ := q
  have l0 := z.2.2 U (wf _ (by rw [q1]; decide))
  have l1 := z.2.2 (U + 2) (wf _ (by rw [a2]; decide))
  have l2 := z.2.2 (U + 3) (wf _ (by rw [b2]; decide))
  exact ⟨l0.1.trans q1, ⟨by rw [e4]; exact a1, l1.1.trans a2, l1.2.1.trans a3⟩, by rw [e5]; exact b1, l2.1.trans b2, l2.2.1.trans b3⟩
theorem TlO_x {A : Nat → Prop} {n u O : Nat} {h h' : AH} (q : TlO h O) (wf : WF h) (z : Fx A n u h h') (e : ∀ k, k = 0 ∨ k = 2 ∨ k = 6 ∨ k = 7 ∨ k = 9 ∨ k = 10 ∨ k = 11 ∨ k = 12 → hR h' O k = hR h O k) (e4 : hR h' (O + 2) 4 = hR h (O + 2) 4) (e5 : hR h' (O + 2) 5 = hR h (O + 2) 5) : TlO h' O := by
  obtain ⟨q0, ⟨a1, a2, a3⟩, ⟨b1, b2⟩, ⟨c1, c2, c3⟩, ⟨d1, d2, d3⟩, ⟨f1, f2, f3⟩, g1, g2, g3⟩ := q
  have l0 := z.2.2 O (wf _ (by rw [q0]; decide))
  have l1 := z.2.2 (O + 1) (wf _ (by rw [a2]; decide))
  have l2 := z.2.2 (O + 21) (wf _ (by rw [c2]; decide))
  have l3 := z.2.2 (O + 22) (wf _ (by rw [d2]; decide))
  have l4 := z.2.2 (O + 23) (wf _ (by rw [f2]; decide))
  exact ⟨l0.1.trans q0, ⟨by rw [e 0 (by omega)]; exact a1, l1.1.trans a2, l1.2.1.trans a3⟩, ⟨by rw [e 2 (by omega)]; exact b1, RdO_x b2 wf z e4 e5⟩, ⟨by rw [e 6 (by omega)]; exact c1, l2.1.trans c2, l2.2.1.trans c3⟩, ⟨by rw [e 7 (by omega)]; exact d1, l3.1.trans d2, l3.2.1.trans d3⟩, ⟨by rw [e 9 (by omega)]; exact f1, l4.1.trans f2, l4.2.1.trans f3⟩, by rw [e 10 (by omega)]; exact g1, by rw [e 11 (by omega)]; exact g2, by rw [e 12 (by omega)]; exact g3⟩
/-- what a SEARCH left stays -/
theorem NsA_x {A : Nat → Prop} {n u S T i : Nat} {H : Nat → List (List Nat)} {ns : List Nd} {h h' : AH} (q : NsA h S T H i ns) (nd : NdG h S) (wf : WF h) (z : Fx A n u h h') (gk : Gk h h') (tT : hT h T = 10) (h5 : i + ns.length ≤ 500) (e2 : hR h' (S + 2) = hR h (S + 2)) (hA : ∀ k N, k < 500 → hR h (S + 2) k = some N → ¬ A N ∧ ¬ A (N + 1)) : NsA h' S T H i ns := fun j hj => by
  obtain ⟨N, n1, n2⟩ := q j hj
  obtain ⟨c1, c2, c3, c4, c5⟩ := nd _ (by omega) N n1
  have l1 : N + 1 < hN h := wf _ (by rw [c3]; decide)
  obtain ⟨x1, x2⟩ := hA _ N (by omega) n1
  exact ⟨N, by rw [e2]; exact n1, NdA_cg n2 ((z.2.2 N (by omega)).2.2 x1) ((z.2.2 (N + 1) l1).2.2 x2) gk tT⟩
theorem RnP_x {A : Nat → Prop} {n u S T : Nat} {H : Nat → List (List Nat)} {r : Res (List Nd)} {h h' : AH} (q : RnP S T H h r) (nd : NdG h S) (wf : WF h) (z : Fx A n u h h') (gk : Gk h h') (tT : hT h T = 10) (h5 : ∀ ns s, r = some (some ns, s) → ns.length ≤ 500) (eS : hI h' S = hI h S) (e2 : hR h' (S + 2) = hR h (S + 2)) (hA : ∀ k N, k < 500 → hR h (S + 2) k = some N → ¬ A N ∧ ¬ A (N + 1)) : RnP S T H h' r := by
  match r, q, h5 with
  | none, q, _ => trivial
  | some (none, s), q, _ => exact CtrA_S q eS
  | some (some ns, s), ⟨q1, q2, q3⟩, h5 => exact ⟨CtrA_S q1 eS, by rw [eS]; exact q2, NsA_x q3 nd wf z gk tT (by have := h5 ns s rfl; omega) e2 hA⟩
theorem sr_len {G : Gs} {nt : List Nat} {m d : Nat} {ns : List Nd} {s : Ctr} (h : srch G nt m d = some (some ns, s)) : ns.length ≤ 500 := by
  have := Gro_ask (G := G) d 0 nt 0 m 0 none (0, 0, 0, 0) (some ns) s h
  have a := this.2.2.2 ns rfl
  have b := this.2.2.1 (by decide)
  have a : ns.length + 0 ≤ s.1 := a
  omega
theorem SI_mk {Γ : Nat → List Nat × Alts} {S FA FB T U X : Nat} {nm : List Nat} {gr : GrT} {tx : List (List Nat)} {d : Nat} {h : AH} (q : SJn Γ S FA FB h) (r0 : hR h S 0 = some T) (st : GrC Γ h T U nm gr) (r2 : hR h S 2 = some X) (tx' : TxA h X tx) (i1 : hI h S 1 = nI d) (d12 : d ≤ 12) : SI Γ S FA FB T U X nm gr tx d h := ⟨q.1, q.2.1, q.2.2.1, q.2.2.2.1, q.2.2.2.2, ⟨r0, st.1, st.2⟩, ⟨r2, tx'⟩, i1, d12⟩
/-- THE DERIVATION that is kept stays, where neither GRAMMAR nor Fits nor its own cells change -/
theorem CaD_x {Γ : Nat → List Nat × Alts} {A : Nat → Prop} {n u O S U X : Nat} {nm : List Nat} {gr : GrT} {nt : List Nat} {tx : List (List Nat)} {h h' : AH} (q : CaD Γ h O S U X nm gr nt tx) (z : Fx A n u h h') (gk : Gk h h') (fs : SJn Γ (O + 116) (O + 31) (O + 32) h') (i13 : hI h' O 13 = hI h O 13) (sS : Sm h h' (O + 116)) (e2 : hR h' (O + 118) = hR h (O + 118)) (hA : ∀ k N, k < 500 → hR h (O + 118) k = some N → ¬ A N ∧ ¬ A (N + 1)) : CaD Γ h' O S U X nm gr nt tx := by
  obtain ⟨q1, q2, q3⟩ := q
  refine ⟨by rw [i13]; exact q1, ?_, RnP_x q3 q2.2.2.2.2.1 q2.1 z gk q2.2.2.2.2.2.1.2.1.1 (fun ns s e => sr_len e) sS.1 e2 hA⟩
  exact SI_mk fs (by rw [sS.2.2]; exact q2.2.2.2.2.2.1.1) ⟨StA_k q2.2.2.2.2.2.1.2.1 gk, q2.2.2.2.2.2.1.2.2⟩ (by rw [sS.2.2]; exact q2.2.2.2.2.2.2.1.1) (TxA_k q2.2.2.2.2.2.2.1.2 gk) (by rw [sS.1]; exact q2.2.2.2.2.2.2.2.1) q2.2.2.2.2.2.2.2.2
/-- room: what is made, NODES that may still be made counted in -/
def Rm (O n u : Nat) (h h' : AH) : Prop := hN h' + 2 * nl (O + 116) h' + 2 * nl (O + 119) h' ≤ hN h + 2 * nl (O + 116) h + 2 * nl (O + 119) h + n ∧ hU h' + 13 * nl (O + 116) h' + 13 * nl (O + 119) h' ≤ hU h + 13 * nl (O + 116) h + 13 * nl (O + 119) h + u
theorem Rm.tr {O n u n' u' : Nat} {h h1 h2 : AH} (a : Rm O n u h h1) (b : Rm O n' u' h1 h2) : Rm O (n + n') (u + u') h h2 := by
  unfold Rm at *
  omega
theorem Rm.w {O n u n' u' : Nat} {h h1 : AH} (a : Rm O n u h h1) (hn : n ≤ n') (hu : u ≤ u') : Rm O n' u' h h1 := by
  unfold Rm at *
  omega
theorem Rm.rf {O n u : Nat} {h : AH} : Rm O n u h h := by
  unfold Rm
  omega
theorem Rm_x {A : Nat → Prop} {n u O : Nat} {h h' : AH} (z : Fx A n u h h') (e1 : hR h' (O + 118) = hR h (O + 118)) (e2 : hR h' (O + 121) = hR h (O + 121)) : Rm O n u h h' := by
  have a1 : nl (O + 116) h' = nl (O + 116) h := by unfold nl; rw [e1]
  have a2 : nl (O + 119) h' = nl (O + 119) h := by unfold nl; rw [e2]
  have := z.1.2
  have := z.2.1.2
  unfold Rm
  rw [a1, a2]
  omega
/-- most calls: the object's own fields change, and some cells that are nothing but this call's -/
theorem CI_act {Γ : Nat → List Nat × Alts} {A : Nat → Prop} {n u O : Nat} {st : Stt} {h h' : AH} (q : CI Γ O st h) (wf' : WF h') (z : Fx A n u h h') (hA : ∀ a, A a → hT h a ∉ FSs ∧ hT h a ∉ GS ∧ hT h a ∉ [5]) (hO : ∀ k, k = 0 ∨ k = 2 ∨ k = 6 ∨ k = 7 ∨ k = 9 ∨ k = 10 ∨ k = 11 ∨ k = 12 → hR h' O k = hR h O k) : TlO h' O ∧ Gk h h' ∧ FsC Γ h' O ∧ Rm O n u h h' := by
  have wf := CI_wf q
  obtain ⟨q1, q2, q3, q4, q5, q6⟩ := q
  have t5 := q1.2.2.1.2.1
  have s2 := (z.2.2 (O + 2) (wf _ (by rw [t5]; decide))).2.2 (fun y => (hA _ y).2.2 (by rw [t5]; decide))
  have t1 := q6.2.1.2.1.2.2.2.1
  have t2 := q6.2.2.1.2.1.2.2.2.1
  refine ⟨TlO_x q1 wf z hO (by rw [s2.2.2]) (by rw [s2.2.2]), Gk_Fx wf z (fun a ha => (hA a ha).2.1), FsC_x q6 wf' z (fun a ha => (hA a ha).1), Rm_x z ?_ ?_⟩
  · exact ((z.2.2 (O + 116 + 2) (wf _ (by rw [t1]; decide))).2.2 (fun y => (hA _ y).1 (by rw [t1]; decide))).2.2
  · exact ((z.2.2 (O + 119 + 2) (wf _ (by rw [t2]; decide))).2.2 (fun y => (hA _ y).1 (by rw [t2]; decide))).2.2
