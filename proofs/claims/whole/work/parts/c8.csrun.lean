/-! ===== the class: a SEARCH is run ===== -/
theorem cntP_len {p : Nat → Bool} {n : Nat} : cntP p n ≤ n := by
  unfold cntP
  have := List.countP_le_length (p := p) (l := List.range n)
  rw [List.length_range] at this
  exact this
theorem CI_run {Γ : Nat → List Nat × Alts} {O S S' T U X d : Nat} {nm : List Nat} {gr : GrT} {tx : List (List Nat)} {st : Stt} {h h' : AH} (hS : (S = O + 116 ∧ S' = O + 119) ∨ (S = O + 119 ∧ S' = O + 116)) (q : CI Γ O st h) (hSJ : SJn Γ S (O + 31) (O + 32) h) (hSJ' : SJn Γ S' (O + 31) (O + 32) h) (hds : Dsj h S S') (I1 : SI Γ S (O + 31) (O + 32) T U X nm gr tx d (rnW h S T X d)) (I' : SI Γ S (O + 31) (O + 32) T U X nm gr tx d h') (r : SR S (O + 32) 0 0 (rnW h S T X d) h') :
    Fx (fun a => SA S (O + 32) 0 0 (rnW h S T X d) a) 1000 6500 h h' ∧ Gk h h' ∧ TlO h' O ∧ FsC Γ h' O ∧ Rm O 0 0 h h' ∧ (∀ a, hT h a ≠ 0 → hT h a ∉ SSi → Sm h h' a) ∧ Sm h h' S' ∧ hR h' (S' + 2) = hR h (S' + 2) ∧ ∀ k N, k < 500 → hR h (S' + 2) k = some N → ¬ SA S (O + 32) 0 0 (rnW h S T X d) N ∧ ¬ SA S (O + 32) 0 0 (rnW h S T X d) (N + 1) := by
  have z : Fz (fun a => a = S) h (rnW h S T X d) := rnW_z
  have wf := CI_wf q
  have e2 : hR (rnW h S T X d) (S + 2) = hR h (S + 2) := (z.2.2.2.2 (S + 2) (fun e => by have e : S + 2 = S := e; omega)).2.2
  have nlS : nl S (rnW h S T X d) = nl S h := by unfold nl; rw [e2]
  have l5 : nl S h ≤ 500 := cntP_len
  have hn1 := z.1
  have hu1 := z.2.1
  have ht1 := z.2.2.1
  have hl1 := z.2.2.2.1
  generalize hh1 : rnW h S T X d = h1 at *
  have sm : ∀ a, a < hN h → ¬ SA S (O + 32) 0 0 h1 a → Sm h h' a := fun a ha na => by
    have nS : ¬ a = S := fun e => na (Or.inl e)
    have s1 := z.2.2.2.2 a nS
    have s2 := (r.2.1 a (by omega)).2.2 na
    exact ⟨s2.1.trans s1.1, s2.2.1.trans s1.2.1, s2.2.2.trans s1.2.2⟩
  have fx : Fx (fun a => SA S (O + 32) 0 0 h1 a) 1000 6500 h h' := by
    have a1 := r.1
    have a2 := r.2.2.2.2.1
    have a3 := r.2.2.2.2.2
    have l6 : nl S h' ≤ 500 := cntP_len
    refine ⟨⟨by omega, by omega⟩, ⟨?_, by omega⟩, fun a ha => ⟨?_, ?_, fun na => sm a ha na⟩⟩
    · have : nl S h' ≤ nl S h1 := by omega
      omega
    · rw [(r.2.1 a (by omega)).1, ht1]
    · rw [(r.2.1 a (by omega)).2.1, hl1]
  have site : ∀ a, SA S (O + 32) 0 0 h1 a → hT h a ∈ SSi := fun a ha => by
    have := SA_site I1 ha
    rw [ht1] at this
    exact this
  have gk : Gk h h' := Gk_Fx wf fx (fun a ha m => by
    have dd : ∀ t ∈ SSi, t ∉ GS := by decide
    exact dd _ (site a ha) m)
  have smS : ∀ a, hT h a ≠ 0 → hT h a ∉ SSi → Sm h h' a := fun a h0 hn => sm a (wf a h0) (fun y => hn (site a y))
  obtain ⟨q1, q2, q3, q4, q5, ⟨f1, f2, f3, f4⟩⟩ := q
  have sO := smS O (by rw [q1.1]; decide) (by rw [q1.1]; decide)
  have s2 := smS (O + 2) (by rw [q1.2.2.1.2.1]; decide) (by rw [q1.2.2.1.2.1]; decide)
  -- the other SEARCH
  have tS := hSJ.2.1.1
  have tS2 := hSJ.2.1.2.2.2.1
  have tS' := hSJ'.2.1.1
  have tS2' := hSJ'.2.1.2.2.2.1
  have fit : ∀ a j, j < 12 → hT h a ∉ [3, 43, 44, 45, 46, 47, 48] → ¬ Bk (O + 32 + 7 * j) 7 a := fun a j hj hn y => by
    have := Ft_out (hSJ.2.2.2.1 j hj).1 hn
    unfold Bk at y
    omega
  have ndS : ∀ k N, k < 500 → hR h1 (S + 2) k = some N → hT h N = 4 ∧ hT h (N + 1) = 49 := fun k N hk eN => by
    rw [e2] at eN
    obtain ⟨c1, c2, c3, -⟩ := hSJ.2.2.2.2 k hk N eN
    exact ⟨c1, c3⟩
  have nS' : ¬ SA S (O + 32) 0 0 h1 S' := fun y => by
    rcases y with e | e | ⟨j, _, j2, j3⟩ | ⟨k, N, _, k2, k3, e | e⟩
    · omega
    · rw [e, tS2] at tS'; cases tS'
    · exact fit S' j j2 (by rw [tS']; decide) j3
    · have := (ndS k N k2 k3).1; rw [← e, tS'] at this; cases this
    · have := (ndS k N k2 k3).2; rw [← e, tS'] at this; cases this
  have nS2' : ¬ SA S (O + 32) 0 0 h1 (S' + 2) := fun y => by
    rcases y with e | e | ⟨j, _, j2, j3⟩ | ⟨k, N, _, k2, k3, e | e⟩
    · rw [e, tS] at tS2'; cases tS2'
    · omega
    · exact fit (S' + 2) j j2 (by rw [tS2']; decide) j3
    · have := (ndS k N k2 k3).1; rw [← e, tS2'] at this; cases this
    · have := (ndS k N k2 k3).2; rw [← e, tS2'] at this; cases this
  have m1 := sm S' (wf _ (by rw [tS']; decide)) nS'
  have m2 := sm (S' + 2) (wf _ (by rw [tS2']; decide)) nS2'
  have nds : ∀ k N, k < 500 → hR h (S' + 2) k = some N → ¬ SA S (O + 32) 0 0 h1 N ∧ ¬ SA S (O + 32) 0 0 h1 (N + 1) := fun k N hk eN => by
    obtain ⟨c1, c2, c3, -⟩ := hSJ'.2.2.2.2 k hk N eN
    have key : ∀ k' M, k' < 500 → hR h1 (S + 2) k' = some M → M ≠ N := fun k' M hk' eM e => by
      rw [e2] at eM
      exact hds k' k N hk' hk (e ▸ eM) eN
    constructor
    · intro y
      rcases y with e | e | ⟨j, _, j2, j3⟩ | ⟨k', M, _, k2, k3, e | e⟩
      · rw [e, tS] at c1; cases c1
      · rw [e, tS2] at c1; cases c1
      · exact fit N j j2 (by rw [c1]; decide) j3
      · exact key k' M k2 k3 e.symm
      · have := (ndS k' M k2 k3).2; rw [← e, c1] at this; cases this
    · intro y
      rcases y with e | e | ⟨j, _, j2, j3⟩ | ⟨k', M, _, k2, k3, e | e⟩
      · rw [e, tS] at c3; cases c3
      · rw [e, tS2] at c3; cases c3
      · exact fit (N + 1) j j2 (by rw [c3]; decide) j3
      · have := (ndS k' M k2 k3).1; rw [← e, c3] at this; cases this
      · exact key k' M k2 k3 (by omega)
  have J : SJn Γ S (O + 31) (O + 32) h' := SJn_of I'
  have J' : SJn Γ S' (O + 31) (O + 32) h' := by
    have lS : S' + 2 < hN h := wf _ (by rw [tS2']; decide)
    have t1 := fx.2.2 S' (by omega)
    have t2 := fx.2.2 (S' + 2) lS
    refine ⟨J.1, ⟨t1.1.trans tS', by rw [m1.2.2]; exact hSJ'.2.1.2.1, by rw [m1.2.2]; exact hSJ'.2.1.2.2.1, t2.1.trans tS2', t2.2.1.trans hSJ'.2.1.2.2.2.2⟩, J.2.2.1, J.2.2.2.1, fun k hk N eN => ?_⟩
    rw [m2.2.2] at eN
    obtain ⟨c1, c2, c3, c4, c5⟩ := hSJ'.2.2.2.2 k hk N eN
    have lN1 : N + 1 < hN h := wf _ (by rw [c3]; decide)
    obtain ⟨n1, n2⟩ := nds k N hk eN
    have u1 := fx.2.2 N (by omega)
    have u2 := fx.2.2 (N + 1) lN1
    have v1 := u1.2.2 n1
    exact ⟨u1.1.trans c1, by rw [v1.2.2]; exact c2, u2.1.trans c3, u2.2.1.trans c4, by rw [v1.1]; exact c5⟩
  have D' : Dsj h' S S' := fun k k' N hk hk' eN eN' => by
    rw [m2.2.2] at eN'
    obtain ⟨c1, -⟩ := hSJ'.2.2.2.2 k' hk' N eN'
    have lN := wf N (by rw [c1]; decide)
    cases ho : hR h1 (S + 2) k with
    | none =>
      have := r.2.2.2.1 k N ho eN
      omega
    | some M =>
      have e3 := r.2.2.1 k M ho
      rw [e3] at eN
      cases eN
      rw [e2] at ho
      exact hds k k' N hk hk' ho eN'
  have fg : FtG Γ h' (O + 24) := FtG_x f1 wf fx (fun c hc y => by
    have ts := Ft_site f1.1 hc
    rcases y with e | e | ⟨j, _, j2, j3⟩ | ⟨k', M, _, k2, k3, e | e⟩
    · rw [e, tS] at ts; exact absurd ts (by decide)
    · rw [e, tS2] at ts; exact absurd ts (by decide)
    · unfold Bk at j3; omega
    · rw [e, (ndS k' M k2 k3).1] at ts; exact absurd ts (by decide)
    · rw [e, (ndS k' M k2 k3).2] at ts; exact absurd ts (by decide))
  refine ⟨fx, gk, TlO_x q1 wf fx (fun k _ => by rw [sO.2.2]) (by rw [s2.2.2]) (by rw [s2.2.2]), ?_, ?_, smS, m1, m2.2.2, nds⟩
  · rcases hS with ⟨a, b⟩ | ⟨a, b⟩ <;> subst a <;> subst b
    · exact ⟨fg, J, J', D'⟩
    · exact ⟨fg, J', J, fun k k' N hk hk' x y => D' k' k N hk' hk y x⟩
  · have a2 := r.2.2.2.2.1
    have a3 := r.2.2.2.2.2
    have nlS' : nl S' h' = nl S' h := by unfold nl; rw [m2.2.2]
    unfold Rm
    rcases hS with ⟨a, b⟩ | ⟨a, b⟩ <;> subst a <;> subst b <;> omega
theorem rsA_ne {r : Res (List Nd)} : ¬ rsA r = -4 := by
  match r with
  | none => decide
  | some (none, s) => show ¬ nI 0 = -4; decide
  | some (some b, s) => show ¬ nI 1 = -4; decide
/-- the state with what it has at hand -/
def CIx (Γ : Nat → List Nat × Alts) (O : Nat) (st : Stt) (h : AH) (S U X : Nat) (nm : List Nat) : Prop := TlO h O ∧ TpC h O st.1 ∧ (NwC Γ h O S U X nm st.2.1 st.2.2.1 st.2.2.2.1 ∧ CaC Γ h O S U X nm st.2.1 st.2.2.1 st.2.2.2.1) ∧ (hI h O 8 = nI st.2.2.2.2.1.length ∧ st.2.2.2.2.1.length ≤ 10 ∧ PsC Γ h (O + 22) st.2.2.2.2.1) ∧ ShsC Γ h (O + 23) st.2.2.2.2.2 ∧ FsC Γ h O
theorem CIx_ci {Γ : Nat → List Nat × Alts} {O : Nat} {st : Stt} {h : AH} {S U X : Nat} {nm : List Nat} (q : CIx Γ O st h S U X nm) : CI Γ O st h := ⟨q.1, q.2.1, ⟨S, U, X, nm, q.2.2.1⟩, q.2.2.2⟩
theorem CI_cix {Γ : Nat → List Nat × Alts} {O : Nat} {st : Stt} {h : AH} (q : CI Γ O st h) : ∃ S U X nm, CIx Γ O st h S U X nm := by
  obtain ⟨q1, q2, ⟨S, U, X, nm, a⟩, b⟩ := q
  exact ⟨S, U, X, nm, q1, q2, a, b⟩
/-- an answer is kept -/
theorem CIx_o {Γ : Nat → List Nat × Alts} {O : Nat} {tp : List Nat} {gr : GrT} {nt : List Nat} {tx : List (List Nat)} {past : List GrT} {sh : Nat → Option Kpt} {h : AH} {S U X : Nat} {nm : List Nat} (q1 : TlO h O) (q2 : TpC h O tp) (q3 : NwC Γ h O S U X nm gr nt tx) (q4 : hI h O 8 = nI past.length ∧ past.length ≤ 10 ∧ PsC Γ h (O + 22) past) (q5 : ShsC Γ h (O + 23) sh) (q6 : FsC Γ h O) {k : Nat} {v : Int32} (hk : k = 13 ∨ k = 14 ∨ k = 15) (hc : CaC Γ (sI h O k v) O S U X nm gr nt tx) : CIx Γ O (tp, gr, nt, tx, past, sh) (sI h O k v) S U X nm := by
  have z : Fz (fun a => a = O) h (sI h O k v) := Fz_sI rfl
  have wf := q6.2.1.1
  have tO := q1.1
  have gk : Gk h (sI h O k v) := Gk_Fx wf z.fx (fun a ha m => by rw [ha, tO] at m; exact absurd m (by decide))
  have i1 : ∀ j, j ≠ k → hI (sI h O k v) O j = hI h O j := fun j hj => by rw [hI_sI, u2_n (Or.inr hj)]
  refine ⟨TlO_x q1 wf z.fx (fun _ _ => rfl) rfl rfl, ⟨by rw [i1 1 (by omega)]; exact q2.1, q2.2.1, fun i hi => by rw [hI_sI, u2_o (by omega)]; exact q2.2.2 i hi⟩, ⟨NwC_k q3 gk rfl rfl rfl, hc⟩, ⟨by rw [i1 8 (by omega)]; exact q4.1, q4.2.1, PsC_k q4.2.2 gk rfl⟩, ShsC_k q5 gk rfl, FsC_x q6 wf z.fx (fun a ha => by rw [ha, tO]; decide)⟩
theorem CaD_o {Γ : Nat → List Nat × Alts} {O S U X : Nat} {nm : List Nat} {gr : GrT} {nt : List Nat} {tx : List (List Nat)} {h : AH} {k : Nat} {v : Int32} (q : CaD Γ h O S U X nm gr nt tx) (tO : hT h O = 12) (hk : k ≠ 13) (fs : SJn Γ (O + 116) (O + 31) (O + 32) h) : CaD Γ (sI h O k v) O S U X nm gr nt tx := by
  have z : Fz (fun a => a = O) h (sI h O k v) := Fz_sI rfl
  have gk : Gk h (sI h O k v) := Gk_Fx fs.1 z.fx (fun a ha m => by rw [ha, tO] at m; exact absurd m (by decide))
  refine CaD_x q z.fx gk (SJn_x fs fs.1 z.fx (fun a ha => by rw [ha, tO]; decide)) (by rw [hI_sI, u2_n (Or.inr (Ne.symm hk))]) (z.2.2.2.2 _ (fun e => by have e : O + 116 = O := e; omega)) rfl (fun j N hj eN => ?_)
  obtain ⟨c1, c2, c3, -⟩ := fs.2.2.2.2 j hj N eN
  exact ⟨fun e => (by have e : N = O := e; rw [e, tO] at c1; cases c1), fun e => (by have e : N + 1 = O := e; rw [e, tO] at c3; cases c3)⟩
theorem c_derX {Γ : Nat → List Nat × Alts} {O : Nat} {tp : List Nat} {gr : GrT} {nt : List Nat} {tx : List (List Nat)} {past : List GrT} {sh : Nat → Option Kpt} {h : AH} (q : CI Γ O (tp, gr, nt, tx, past, sh) h) : ∃ h' S U X nm, d_TL_derives [.ref O] h = some (rsA (srN gr nt tx), h') ∧ CIx Γ O (tp, gr, nt, tx, past, sh) h' S U X nm ∧ CaD Γ h' O S U X nm gr nt tx ∧ Rm O 0 0 h h' := by
  obtain ⟨S, U, X, nm, qx⟩ := CI_cix q
  obtain ⟨q1, q2, ⟨nw, ca⟩, q4, q5, q6⟩ := id qx
  obtain ⟨⟨r3, grc⟩, ⟨j4, nok⟩, r5, txa, tok⟩ := id nw
  dsimp only at r3 grc j4 nok r5 txa tok
  have tO := q1.1
  have tS := grc.1.1
  by_cases un : hI h O 13 = -4
  · have d12 := grc.1.2.2.2.2.2.2.2.2.2.1.2
    obtain ⟨h1, e1, I', r', rp⟩ := q_run (d := gr.2.2.1) q6.2.1 grc.1 grc.2 txa tok nok d12 (Nat.le_refl tx.length)
    have I1 := (SI_rn (d := gr.2.2.1) q6.2.1 grc.1 grc.2 txa d12).1
    obtain ⟨fx, gk, tl, fs, rm, smS, m1, m2, nds⟩ := CI_run (Or.inl ⟨rfl, rfl⟩) q q6.2.1 q6.2.2.1 q6.2.2.2 I1 I' r'
    have sm1 : ∀ a, hT h a ∈ [12, 20, 23, 24] → Sm h h1 a := fun a ha => smS a (fun e => by rw [e] at ha; exact absurd ha (by decide)) (fun e => by
      have dd : ∀ t ∈ [12, 20, 23, 24], t ∉ SSi := by decide
      exact dd _ ha e)
    have sO := sm1 O (by rw [tO]; decide)
    have s1 := sm1 (O + 1) (by rw [q1.2.1.2.1]; decide)
    have sP := sm1 (O + 22) (by rw [q1.2.2.2.2.1.2.1]; decide)
    have sQ := sm1 (O + 23) (by rw [q1.2.2.2.2.2.1.2.1]; decide)
    have nw1 := NwC_k nw gk (by rw [sO.2.2]) (by rw [sO.2.1]) (by rw [sO.2.2])
    have tO1 : hT h1 O = 12 := tl.1
    have cad : CaD Γ (sI h1 O 13 (rsA (srN gr nt tx))) O S U X nm gr nt tx := by
      have z : Fz (fun a => a = O) h1 (sI h1 O 13 (rsA (srN gr nt tx))) := Fz_sI rfl
      have gk1 : Gk h1 (sI h1 O 13 (rsA (srN gr nt tx))) := Gk_Fx fs.2.1.1 z.fx (fun a ha m => by rw [ha, tO1] at m; exact absurd m (by decide))
      have c0 : CaD Γ (sI h1 O 13 (rsA (srN gr nt tx))) O S U X nm gr nt tx ↔ SI Γ (O + 116) (O + 31) (O + 32) S U X nm gr tx gr.2.2.1 (sI h1 O 13 (rsA (srN gr nt tx))) ∧ RnP (O + 116) S (gH (gG gr tx)) (sI h1 O 13 (rsA (srN gr nt tx))) (srN gr nt tx) := ⟨fun x => x.2, fun x => ⟨by rw [hI_sI, u2_s], x⟩⟩
      rw [c0]
      have sj : SJn Γ (O + 116) (O + 31) (O + 32) (sI h1 O 13 (rsA (srN gr nt tx))) := SJn_x (A := fun a => a = O) fs.2.1 fs.2.1.1 z.fx (fun a ha => by rw [ha, tO1]; decide)
      have n116 : hI (sI h1 O 13 (rsA (srN gr nt tx))) (O + 116) = hI h1 (O + 116) := by rw [hI_sI, u2_o (by omega)]
      refine ⟨SI_mk sj I'.2.2.2.2.2.1.1 ⟨StA_k I'.2.2.2.2.2.1.2.1 gk1, grc.2⟩ I'.2.2.2.2.2.2.1.1 (TxA_k I'.2.2.2.2.2.2.1.2 gk1) (by rw [n116]; exact I'.2.2.2.2.2.2.2.1) d12, RnP_x rp fs.2.1.2.2.2.2 fs.2.1.1 z.fx gk1 I'.2.2.2.2.2.1.2.1.1 (fun ns s e => sr_len e) n116 rfl (fun j N hj eN => ?_)⟩
      obtain ⟨c1, c2, c3, -⟩ := fs.2.1.2.2.2.2 j hj N eN
      exact ⟨fun e => (by have e : N = O := e; rw [e, tO1] at c1; cases c1), fun e => (by have e : N + 1 = O := e; rw [e, tO1] at c3; cases c3)⟩
    have i1 : ∀ j, j ≠ 13 → hI (sI h1 O 13 (rsA (srN gr nt tx))) O j = hI h O j := fun j hj => by rw [hI_sI, u2_n (Or.inr hj), sO.1]
    refine ⟨sI h1 O 13 (rsA (srN gr nt tx)), S, U, X, nm, wpm_to ?_, CIx_o tl ⟨by rw [sO.1]; exact q2.1, q2.2.1, fun i hi => by rw [s1.1]; exact q2.2.2 i hi⟩ nw1 ⟨by rw [sO.1]; exact q4.1, q4.2.1, PsC_k q4.2.2 gk sP.2.2⟩ (ShsC_k q5 gk sQ.2.2) fs (Or.inl rfl) ⟨Or.inr cad, ?_, ?_⟩, cad, ?_⟩
    · have e1' : d_Search_run [.ref (O + 116), .ref S, .int (nI gr.2.2.1), .long (lN (cd nt)), .ref X, .int (nI tx.length)] h = some (rsA (srN gr nt tx), h1) := e1
      have iX : (sA (hT h X)).isSome = true := by rw [txa.1]; rfl
      have r11 := q1.2.2.2.2.2.2.2.1
      have t8 := q6.2.1.2.1.1
      unfold d_TL_derives
      (rw [m_mth]; refine ⟨by simp only [m_mth, s_sk, s_brk, s_cnt, s_sq, s_if, s_rtn, s_rtnU, s_E, s_I1, s_R1, s_J1, s_Inc, s_h2, s_h3, s_u2, s_u3, e_C, e_h1, e_h2, e_lI, e_lJ, e_lR, e_if, e_and, e_or, e_not, a_nil, a_I, a_J, a_R, e_kS, e_kV, e_kN, e_nA, ok_some, ok_none, ok_bind, ok_guard, ok_guardN, asI_int, asJ_long, asR_ref, asR_rf, asR_null, entL, ent, sto, sto2, ok1, Value.category, va_rf, List.length_cons, List.length_nil, List.length_append, List.length_replicate, List.nil_append, List.cons_append, List.append_nil, List.replicate_succ, List.replicate_zero, List.getElem?_cons_zero, List.getElem?_cons_succ, List.set_cons_zero, List.set_cons_succ, gI, gJ, gR, pI, pJ, pR, aI, aJ, aR, aL, stI, stB, stZ, stJ, uF, uA, Option.bind_some, iaddF, isubF, imulF, iandF, iorF, ixorF, ishlF, ishrF, iushrF, inegF, i2bF, i2lF, l2iF, c_eq, c_ne, c_lt, c_le, c_gt, c_ge, z_eq, z_ne, z_lt, z_le, z_gt, z_ge, j_eq, j_ne, j_gt, n_nul, n_non, tt, zz, hN_u, hU_u, hT_u, hL_u, hI_u, hJ_u, hR_u, sI_u, decide_eq_true_eq, true_and, and_true, if_true, reduceIte, beq_self_eq_true, Bool.true_or, Bool.and_self, Nat.reduceAdd, Nat.reduceSub, Nat.reduceLT, Nat.reduceLeDiff, Nat.reduceBEq, Nat.reduceEqDiff, Bool.or_true, Bool.false_or, List.mem_cons, List.mem_singleton, true_or, or_true, mh_N, mh_U, mh_T, mh_L, mh_R, mh_J, mh_0, mh_s0, mh_I, mh_s, sa_20, sa_21, sa_22, sa_23, sa_24, sa_25, sa_26, sa_27, sa_28, sa_29, sa_30, sa_31, sa_32, sa_33, sa_34, sa_35, sa_36, sa_37, sa_38, sa_39, sa_40, sa_41, sa_42, sa_43, sa_44, sa_45, sa_46, sa_47, sa_48, sa_49, sa_50, sa_51, sa_52, sa_70, sa_71, sa_72, sa_73, sa_74, sa_75, sa_76, sa_77, sa_78, sa_79, sa_80, sa_81, sa_82, sa_83, sa_84, sa_85, sa_86, sa_87, sa_88, sa_89, sa_90, sa_91, sa_92, sa_93, sa_94, sa_95, sa_96, sa_97, sa_98, sa_99, sa_100, sa_101, decide_eq_false_iff_not, s_obj, e_cl, s_ar, e_st, stO, stA, lshrF, lshlF, lorF, landF, lsubF, a_eq, a_ne, ov_N, ov_U, ov_T, ov_L, ov_I, ov_I0, ov_J, ov_J0, ov_R, ov_R0, ov_sI, ov_sI0, ov_sJ, ov_sJ0, ov_sR, ov_sR0, sa_53, sa_54], ?_⟩; simp only [entL, ent, Value.category, List.length_cons, List.length_nil, Nat.reduceAdd, Nat.reduceSub, List.replicate_succ, List.replicate_zero, List.cons_append, List.nil_append, Nat.reduceBEq, Bool.false_eq_true, if_false, beq_self_eq_true, if_true, reduceIte])
      refine seq fun N1 k1 => s_ifT (h' := h) ?_ ?_
      · simp (disch := omega) only [m_mth, s_sk, s_brk, s_cnt, s_sq, s_if, s_rtn, s_rtnU, s_E, s_I1, s_R1, s_J1, s_Inc, s_h2, s_h3, s_u2, s_u3, e_C, e_h1, e_h2, e_lI, e_lJ, e_lR, e_if, e_and, e_or, e_not, a_nil, a_I, a_J, a_R, e_kS, e_kV, e_kN, e_nA, ok_some, ok_none, ok_bind, ok_guard, ok_guardN, asI_int, asJ_long, asR_ref, asR_rf, asR_null, entL, ent, sto, sto2, ok1, Value.category, va_rf, List.length_cons, List.length_nil, List.length_append, List.length_replicate, List.nil_append, List.cons_append, List.append_nil, List.replicate_succ, List.replicate_zero, List.getElem?_cons_zero, List.getElem?_cons_succ, List.set_cons_zero, List.set_cons_succ, gI, gJ, gR, pI, pJ, pR, aI, aJ, aR, aL, stI, stB, stZ, stJ, uF, uA, Option.bind_some, iaddF, isubF, imulF, iandF, iorF, ixorF, ishlF, ishrF, iushrF, inegF, i2bF, i2lF, l2iF, c_eq, c_ne, c_lt, c_le, c_gt, c_ge, z_eq, z_ne, z_lt, z_le, z_gt, z_ge, j_eq, j_ne, j_gt, n_nul, n_non, tt, zz, hN_u, hU_u, hT_u, hL_u, hI_u, hJ_u, hR_u, sI_u, decide_eq_true_eq, true_and, and_true, if_true, reduceIte, beq_self_eq_true, Bool.true_or, Bool.and_self, Nat.reduceAdd, Nat.reduceSub, Nat.reduceLT, Nat.reduceLeDiff, Nat.reduceBEq, Nat.reduceEqDiff, Bool.or_true, Bool.false_or, List.mem_cons, List.mem_singleton, true_or, or_true, mh_N, mh_U, mh_T, mh_L, mh_R, mh_J, mh_0, mh_s0, mh_I, mh_s, sa_20, sa_21, sa_22, sa_23, sa_24, sa_25, sa_26, sa_27, sa_28, sa_29, sa_30, sa_31, sa_32, sa_33, sa_34, sa_35, sa_36, sa_37, sa_38, sa_39, sa_40, sa_41, sa_42, sa_43, sa_44, sa_45, sa_46, sa_47, sa_48, sa_49, sa_50, sa_51, sa_52, sa_70, sa_71, sa_72, sa_73, sa_74, sa_75, sa_76, sa_77, sa_78, sa_79, sa_80, sa_81, sa_82, sa_83, sa_84, sa_85, sa_86, sa_87, sa_88, sa_89, sa_90, sa_91, sa_92, sa_93, sa_94, sa_95, sa_96, sa_97, sa_98, sa_99, sa_100, sa_101, decide_eq_false_iff_not, s_obj, e_cl, s_ar, e_st, stO, stA, lshrF, lshlF, lorF, landF, lsubF, a_eq, a_ne, ov_N, ov_U, ov_T, ov_L, ov_I, ov_I0, ov_J, ov_J0, ov_R, ov_R0, ov_sI, ov_sI0, ov_sJ, ov_sJ0, ov_sR, ov_sR0, sa_53, sa_54, tO, un, decide_true]
      simp (disch := omega) only [m_mth, s_sk, s_brk, s_cnt, s_sq, s_if, s_rtn, s_rtnU, s_E, s_I1, s_R1, s_J1, s_Inc, s_h2, s_h3, s_u2, s_u3, e_C, e_h1, e_h2, e_lI, e_lJ, e_lR, e_if, e_and, e_or, e_not, a_nil, a_I, a_J, a_R, e_kS, e_kV, e_kN, e_nA, ok_some, ok_none, ok_bind, ok_guard, ok_guardN, asI_int, asJ_long, asR_ref, asR_rf, asR_null, entL, ent, sto, sto2, ok1, Value.category, va_rf, List.length_cons, List.length_nil, List.length_append, List.length_replicate, List.nil_append, List.cons_append, List.append_nil, List.replicate_succ, List.replicate_zero, List.getElem?_cons_zero, List.getElem?_cons_succ, List.set_cons_zero, List.set_cons_succ, gI, gJ, gR, pI, pJ, pR, aI, aJ, aR, aL, stI, stB, stZ, stJ, uF, uA, Option.bind_some, iaddF, isubF, imulF, iandF, iorF, ixorF, ishlF, ishrF, iushrF, inegF, i2bF, i2lF, l2iF, c_eq, c_ne, c_lt, c_le, c_gt, c_ge, z_eq, z_ne, z_lt, z_le, z_gt, z_ge, j_eq, j_ne, j_gt, n_nul, n_non, tt, zz, hN_u, hU_u, hT_u, hL_u, hI_u, hJ_u, hR_u, sI_u, decide_eq_true_eq, true_and, and_true, if_true, reduceIte, beq_self_eq_true, Bool.true_or, Bool.and_self, Nat.reduceAdd, Nat.reduceSub, Nat.reduceLT, Nat.reduceLeDiff, Nat.reduceBEq, Nat.reduceEqDiff, Bool.or_true, Bool.false_or, List.mem_cons, List.mem_singleton, true_or, or_true, mh_N, mh_U, mh_T, mh_L, mh_R, mh_J, mh_0, mh_s0, mh_I, mh_s, sa_20, sa_21, sa_22, sa_23, sa_24, sa_25, sa_26, sa_27, sa_28, sa_29, sa_30, sa_31, sa_32, sa_33, sa_34, sa_35, sa_36, sa_37, sa_38, sa_39, sa_40, sa_41, sa_42, sa_43, sa_44, sa_45, sa_46, sa_47, sa_48, sa_49, sa_50, sa_51, sa_52, sa_70, sa_71, sa_72, sa_73, sa_74, sa_75, sa_76, sa_77, sa_78, sa_79, sa_80, sa_81, sa_82, sa_83, sa_84, sa_85, sa_86, sa_87, sa_88, sa_89, sa_90, sa_91, sa_92, sa_93, sa_94, sa_95, sa_96, sa_97, sa_98, sa_99, sa_100, sa_101, decide_eq_false_iff_not, s_obj, e_cl, s_ar, e_st, stO, stA, lshrF, lshlF, lorF, landF, lsubF, a_eq, a_ne, ov_N, ov_U, ov_T, ov_L, ov_I, ov_I0, ov_J, ov_J0, ov_R, ov_R0, ov_sI, ov_sI0, ov_sJ, ov_sJ0, ov_sR, ov_sR0, sa_53, sa_54, tO, r11, r3, tS, grc.1.2.2.1, j4, r5, iX, txa.2.1, t8, wpm_eq e1', tO1]
      refine k1 _ _ ?_
      have tO2 : hT (sI h1 O 13 (rsA (srN gr nt tx))) O = 12 := tO1
      have i13 : hI (sI h1 O 13 (rsA (srN gr nt tx))) O 13 = rsA (srN gr nt tx) := by rw [hI_sI, u2_s]
      simp (disch := omega) only [m_mth, s_sk, s_brk, s_cnt, s_sq, s_if, s_rtn, s_rtnU, s_E, s_I1, s_R1, s_J1, s_Inc, s_h2, s_h3, s_u2, s_u3, e_C, e_h1, e_h2, e_lI, e_lJ, e_lR, e_if, e_and, e_or, e_not, a_nil, a_I, a_J, a_R, e_kS, e_kV, e_kN, e_nA, ok_some, ok_none, ok_bind, ok_guard, ok_guardN, asI_int, asJ_long, asR_ref, asR_rf, asR_null, entL, ent, sto, sto2, ok1, Value.category, va_rf, List.length_cons, List.length_nil, List.length_append, List.length_replicate, List.nil_append, List.cons_append, List.append_nil, List.replicate_succ, List.replicate_zero, List.getElem?_cons_zero, List.getElem?_cons_succ, List.set_cons_zero, List.set_cons_succ, gI, gJ, gR, pI, pJ, pR, aI, aJ, aR, aL, stI, stB, stZ, stJ, uF, uA, Option.bind_some, iaddF, isubF, imulF, iandF, iorF, ixorF, ishlF, ishrF, iushrF, inegF, i2bF, i2lF, l2iF, c_eq, c_ne, c_lt, c_le, c_gt, c_ge, z_eq, z_ne, z_lt, z_le, z_gt, z_ge, j_eq, j_ne, j_gt, n_nul, n_non, tt, zz, hN_u, hU_u, hT_u, hL_u, hI_u, hJ_u, hR_u, sI_u, decide_eq_true_eq, true_and, and_true, if_true, reduceIte, beq_self_eq_true, Bool.true_or, Bool.and_self, Nat.reduceAdd, Nat.reduceSub, Nat.reduceLT, Nat.reduceLeDiff, Nat.reduceBEq, Nat.reduceEqDiff, Bool.or_true, Bool.false_or, List.mem_cons, List.mem_singleton, true_or, or_true, mh_N, mh_U, mh_T, mh_L, mh_R, mh_J, mh_0, mh_s0, mh_I, mh_s, sa_20, sa_21, sa_22, sa_23, sa_24, sa_25, sa_26, sa_27, sa_28, sa_29, sa_30, sa_31, sa_32, sa_33, sa_34, sa_35, sa_36, sa_37, sa_38, sa_39, sa_40, sa_41, sa_42, sa_43, sa_44, sa_45, sa_46, sa_47, sa_48, sa_49, sa_50, sa_51, sa_52, sa_70, sa_71, sa_72, sa_73, sa_74, sa_75, sa_76, sa_77, sa_78, sa_79, sa_80, sa_81, sa_82, sa_83, sa_84, sa_85, sa_86, sa_87, sa_88, sa_89, sa_90, sa_91, sa_92, sa_93, sa_94, sa_95, sa_96, sa_97, sa_98, sa_99, sa_100, sa_101, decide_eq_false_iff_not, s_obj, e_cl, s_ar, e_st, stO, stA, lshrF, lshlF, lorF, landF, lsubF, a_eq, a_ne, ov_N, ov_U, ov_T, ov_L, ov_I, ov_I0, ov_J, ov_J0, ov_R, ov_R0, ov_sI, ov_sI0, ov_sJ, ov_sJ0, ov_sR, ov_sR0, sa_53, sa_54, tO2, i13]
    · rw [i1 14 (by decide)]; exact ca.2.1
    · rw [i1 15 (by decide)]; exact ca.2.2
    · exact rm
  · have cad := ca.1.resolve_left un
    have nn : ¬ rsA (srN gr nt tx) = -4 := rsA_ne
    refine ⟨h, S, U, X, nm, wpm_to ?_, qx, cad, Rm.rf⟩
    have i13 := cad.1
    dsimp only at i13
    unfold d_TL_derives
    (rw [m_mth]; refine ⟨by simp only [m_mth, s_sk, s_brk, s_cnt, s_sq, s_if, s_rtn, s_rtnU, s_E, s_I1, s_R1, s_J1, s_Inc, s_h2, s_h3, s_u2, s_u3, e_C, e_h1, e_h2, e_lI, e_lJ, e_lR, e_if, e_and, e_or, e_not, a_nil, a_I, a_J, a_R, e_kS, e_kV, e_kN, e_nA, ok_some, ok_none, ok_bind, ok_guard, ok_guardN, asI_int, asJ_long, asR_ref, asR_rf, asR_null, entL, ent, sto, sto2, ok1, Value.category, va_rf, List.length_cons, List.length_nil, List.length_append, List.length_replicate, List.nil_append, List.cons_append, List.append_nil, List.replicate_succ, List.replicate_zero, List.getElem?_cons_zero, List.getElem?_cons_succ, List.set_cons_zero, List.set_cons_succ, gI, gJ, gR, pI, pJ, pR, aI, aJ, aR, aL, stI, stB, stZ, stJ, uF, uA, Option.bind_some, iaddF, isubF, imulF, iandF, iorF, ixorF, ishlF, ishrF, iushrF, inegF, i2bF, i2lF, l2iF, c_eq, c_ne, c_lt, c_le, c_gt, c_ge, z_eq, z_ne, z_lt, z_le, z_gt, z_ge, j_eq, j_ne, j_gt, n_nul, n_non, tt, zz, hN_u, hU_u, hT_u, hL_u, hI_u, hJ_u, hR_u, sI_u, decide_eq_true_eq, true_and, and_true, if_true, reduceIte, beq_self_eq_true, Bool.true_or, Bool.and_self, Nat.reduceAdd, Nat.reduceSub, Nat.reduceLT, Nat.reduceLeDiff, Nat.reduceBEq, Nat.reduceEqDiff, Bool.or_true, Bool.false_or, List.mem_cons, List.mem_singleton, true_or, or_true, mh_N, mh_U, mh_T, mh_L, mh_R, mh_J, mh_0, mh_s0, mh_I, mh_s, sa_20, sa_21, sa_22, sa_23, sa_24, sa_25, sa_26, sa_27, sa_28, sa_29, sa_30, sa_31, sa_32, sa_33, sa_34, sa_35, sa_36, sa_37, sa_38, sa_39, sa_40, sa_41, sa_42, sa_43, sa_44, sa_45, sa_46, sa_47, sa_48, sa_49, sa_50, sa_51, sa_52, sa_70, sa_71, sa_72, sa_73, sa_74, sa_75, sa_76, sa_77, sa_78, sa_79, sa_80, sa_81, sa_82, sa_83, sa_84, sa_85, sa_86, sa_87, sa_88, sa_89, sa_90, sa_91, sa_92, sa_93, sa_94, sa_95, sa_96, sa_97, sa_98, sa_99, sa_100, sa_101, decide_eq_false_iff_not, s_obj, e_cl, s_ar, e_st, stO, stA, lshrF, lshlF, lorF, landF, lsubF, a_eq, a_ne, ov_N, ov_U, ov_T, ov_L, ov_I, ov_I0, ov_J, ov_J0, ov_R, ov_R0, ov_sI, ov_sI0, ov_sJ, ov_sJ0, ov_sR, ov_sR0, sa_53, sa_54], ?_⟩; simp only [entL, ent, Value.category, List.length_cons, List.length_nil, Nat.reduceAdd, Nat.reduceSub, List.replicate_succ, List.replicate_zero, List.cons_append, List.nil_append, Nat.reduceBEq, Bool.false_eq_true, if_false, beq_self_eq_true, if_true, reduceIte])
    refine seq fun N1 k1 => s_ifF (h' := h) ?_ (s_sk.mpr (k1 _ _ ?_))
    · simp (disch := omega) only [m_mth, s_sk, s_brk, s_cnt, s_sq, s_if, s_rtn, s_rtnU, s_E, s_I1, s_R1, s_J1, s_Inc, s_h2, s_h3, s_u2, s_u3, e_C, e_h1, e_h2, e_lI, e_lJ, e_lR, e_if, e_and, e_or, e_not, a_nil, a_I, a_J, a_R, e_kS, e_kV, e_kN, e_nA, ok_some, ok_none, ok_bind, ok_guard, ok_guardN, asI_int, asJ_long, asR_ref, asR_rf, asR_null, entL, ent, sto, sto2, ok1, Value.category, va_rf, List.length_cons, List.length_nil, List.length_append, List.length_replicate, List.nil_append, List.cons_append, List.append_nil, List.replicate_succ, List.replicate_zero, List.getElem?_cons_zero, List.getElem?_cons_succ, List.set_cons_zero, List.set_cons_succ, gI, gJ, gR, pI, pJ, pR, aI, aJ, aR, aL, stI, stB, stZ, stJ, uF, uA, Option.bind_some, iaddF, isubF, imulF, iandF, iorF, ixorF, ishlF, ishrF, iushrF, inegF, i2bF, i2lF, l2iF, c_eq, c_ne, c_lt, c_le, c_gt, c_ge, z_eq, z_ne, z_lt, z_le, z_gt, z_ge, j_eq, j_ne, j_gt, n_nul, n_non, tt, zz, hN_u, hU_u, hT_u, hL_u, hI_u, hJ_u, hR_u, sI_u, decide_eq_true_eq, true_and, and_true, if_true, reduceIte, beq_self_eq_true, Bool.true_or, Bool.and_self, Nat.reduceAdd, Nat.reduceSub, Nat.reduceLT, Nat.reduceLeDiff, Nat.reduceBEq, Nat.reduceEqDiff, Bool.or_true, Bool.false_or, List.mem_cons, List.mem_singleton, true_or, or_true, mh_N, mh_U, mh_T, mh_L, mh_R, mh_J, mh_0, mh_s0, mh_I, mh_s, sa_20, sa_21, sa_22, sa_23, sa_24, sa_25, sa_26, sa_27, sa_28, sa_29, sa_30, sa_31, sa_32, sa_33, sa_34, sa_35, sa_36, sa_37, sa_38, sa_39, sa_40, sa_41, sa_42, sa_43, sa_44, sa_45, sa_46, sa_47, sa_48, sa_49, sa_50, sa_51, sa_52, sa_70, sa_71, sa_72, sa_73, sa_74, sa_75, sa_76, sa_77, sa_78, sa_79, sa_80, sa_81, sa_82, sa_83, sa_84, sa_85, sa_86, sa_87, sa_88, sa_89, sa_90, sa_91, sa_92, sa_93, sa_94, sa_95, sa_96, sa_97, sa_98, sa_99, sa_100, sa_101, decide_eq_false_iff_not, s_obj, e_cl, s_ar, e_st, stO, stA, lshrF, lshlF, lorF, landF, lsubF, a_eq, a_ne, ov_N, ov_U, ov_T, ov_L, ov_I, ov_I0, ov_J, ov_J0, ov_R, ov_R0, ov_sI, ov_sI0, ov_sJ, ov_sJ0, ov_sR, ov_sR0, sa_53, sa_54, tO, i13, nn, decide_false, not_false_eq_true]
    simp (disch := omega) only [m_mth, s_sk, s_brk, s_cnt, s_sq, s_if, s_rtn, s_rtnU, s_E, s_I1, s_R1, s_J1, s_Inc, s_h2, s_h3, s_u2, s_u3, e_C, e_h1, e_h2, e_lI, e_lJ, e_lR, e_if, e_and, e_or, e_not, a_nil, a_I, a_J, a_R, e_kS, e_kV, e_kN, e_nA, ok_some, ok_none, ok_bind, ok_guard, ok_guardN, asI_int, asJ_long, asR_ref, asR_rf, asR_null, entL, ent, sto, sto2, ok1, Value.category, va_rf, List.length_cons, List.length_nil, List.length_append, List.length_replicate, List.nil_append, List.cons_append, List.append_nil, List.replicate_succ, List.replicate_zero, List.getElem?_cons_zero, List.getElem?_cons_succ, List.set_cons_zero, List.set_cons_succ, gI, gJ, gR, pI, pJ, pR, aI, aJ, aR, aL, stI, stB, stZ, stJ, uF, uA, Option.bind_some, iaddF, isubF, imulF, iandF, iorF, ixorF, ishlF, ishrF, iushrF, inegF, i2bF, i2lF, l2iF, c_eq, c_ne, c_lt, c_le, c_gt, c_ge, z_eq, z_ne, z_lt, z_le, z_gt, z_ge, j_eq, j_ne, j_gt, n_nul, n_non, tt, zz, hN_u, hU_u, hT_u, hL_u, hI_u, hJ_u, hR_u, sI_u, decide_eq_true_eq, true_and, and_true, if_true, reduceIte, beq_self_eq_true, Bool.true_or, Bool.and_self, Nat.reduceAdd, Nat.reduceSub, Nat.reduceLT, Nat.reduceLeDiff, Nat.reduceBEq, Nat.reduceEqDiff, Bool.or_true, Bool.false_or, List.mem_cons, List.mem_singleton, true_or, or_true, mh_N, mh_U, mh_T, mh_L, mh_R, mh_J, mh_0, mh_s0, mh_I, mh_s, sa_20, sa_21, sa_22, sa_23, sa_24, sa_25, sa_26, sa_27, sa_28, sa_29, sa_30, sa_31, sa_32, sa_33, sa_34, sa_35, sa_36, sa_37, sa_38, sa_39, sa_40, sa_41, sa_42, sa_43, sa_44, sa_45, sa_46, sa_47, sa_48, sa_49, sa_50, sa_51, sa_52, sa_70, sa_71, sa_72, sa_73, sa_74, sa_75, sa_76, sa_77, sa_78, sa_79, sa_80, sa_81, sa_82, sa_83, sa_84, sa_85, sa_86, sa_87, sa_88, sa_89, sa_90, sa_91, sa_92, sa_93, sa_94, sa_95, sa_96, sa_97, sa_98, sa_99, sa_100, sa_101, decide_eq_false_iff_not, s_obj, e_cl, s_ar, e_st, stO, stA, lshrF, lshlF, lorF, landF, lsubF, a_eq, a_ne, ov_N, ov_U, ov_T, ov_L, ov_I, ov_I0, ov_J, ov_J0, ov_R, ov_R0, ov_sI, ov_sI0, ov_sJ, ov_sJ0, ov_sR, ov_sR0, sa_53, sa_54, tO, i13]
