/-! ===== the class: names of another Upper; the reader's own cells ===== -/
theorem FtG_G {Γ Γ' : Nat → List Nat × Alts} {h : AH} {F : Nat} (e : ∀ x, x < hN h → Γ' x = Γ x) (wf : WF h) (q : FtG Γ h F) : FtG Γ' h F := by
  obtain ⟨q1, q2, ⟨U, w, q3, q4⟩, q5⟩ := q
  have lU : U < hN h := wf U (by rw [q4]; decide)
  refine ⟨q1, q2, ⟨U, w, ?_, q4⟩, q5⟩
  unfold FtL at *
  rw [e U lU]; exact q3
theorem GrC_G {Γ Γ' : Nat → List Nat × Alts} {h : AH} {S U : Nat} {nm : List Nat} {gr : GrT} (e : ∀ x, x < hN h → Γ' x = Γ x) (wf : WF h) (q : GrC Γ h S U nm gr) : GrC Γ' h S U nm gr := by
  have tU : hT h U = 11 := q.1.2.2.2.2.2.1.1.1.1
  have lU : U < hN h := wf U (by rw [tU]; decide)
  exact ⟨q.1, by rw [e U lU]; exact q.2⟩
theorem SJn_G {Γ Γ' : Nat → List Nat × Alts} {h : AH} {S FA FB : Nat} (e : ∀ x, x < hN h → Γ' x = Γ x) (q : SJn Γ S FA FB h) : SJn Γ' S FA FB h := ⟨q.1, q.2.1, q.2.2.1, fun i hi => FtG_G e q.1 (q.2.2.2.1 i hi), q.2.2.2.2⟩
theorem SI_G {Γ Γ' : Nat → List Nat × Alts} {h : AH} {S FA FB T U X : Nat} {nm : List Nat} {gr : GrT} {tx : List (List Nat)} {d : Nat} (e : ∀ x, x < hN h → Γ' x = Γ x) (q : SI Γ S FA FB T U X nm gr tx d h) : SI Γ' S FA FB T U X nm gr tx d h := by
  obtain ⟨q1, q2, q3, q4, q5, ⟨q6, q7, q8⟩, q9⟩ := q
  have := GrC_G e q1 (⟨q7, q8⟩ : GrC Γ h T U nm gr)
  exact ⟨q1, q2, q3, fun i hi => FtG_G e q1 (q4 i hi), q5, ⟨q6, this.1, this.2⟩, q9⟩
theorem CI_G {Γ Γ' : Nat → List Nat × Alts} {h : AH} {O : Nat} {st : Stt} (e : ∀ x, x < hN h → Γ' x = Γ x) (q : CI Γ O st h) : CI Γ' O st h := by
  have wf := CI_wf q
  obtain ⟨q1, q2, ⟨S, U, X, nm, nw, ca⟩, q4, q5, q6⟩ := q
  refine ⟨q1, q2, ⟨S, U, X, nm, ⟨⟨nw.1.1, GrC_G e wf nw.1.2⟩, nw.2⟩, ca.1.imp id (fun c => ⟨c.1, SI_G e c.2.1, c.2.2⟩), ca.2⟩, ⟨q4.1, q4.2.1, fun j hj => ?_⟩, fun j hj => ?_, FtG_G e wf q6.1, SJn_G e q6.2.1, SJn_G e q6.2.2.1, q6.2.2.2⟩
  · obtain ⟨S, U, nm, a1, a2⟩ := q4.2.2 j hj
    exact ⟨S, U, nm, a1, GrC_G e wf a2⟩
  · have := q5 j hj
    generalize st.2.2.2.2.2 j = o at this
    match o, this with
    | none, y => exact y
    | some kp, ⟨K, a1, a2, ⟨S, U, nm, a3, a4⟩, a5⟩ => exact ⟨K, a1, a2, ⟨S, U, nm, a3, GrC_G e wf a4⟩, a5⟩
theorem CI_acy {Γ : Nat → List Nat × Alts} {A : Nat → Prop} {n u O : Nat} {st : Stt} {h h' : AH} (q : CI Γ O st h) (wf' : WF h') (z : Fx A n u h h') (hA : ∀ a, A a → hT h a ∉ FSs ∧ hT h a ∉ GS) (rd : RdO h' (O + 2)) (hO : ∀ k, k = 0 ∨ k = 2 ∨ k = 6 ∨ k = 7 ∨ k = 9 ∨ k = 10 ∨ k = 11 ∨ k = 12 → hR h' O k = hR h O k) : TlO h' O ∧ Gk h h' ∧ FsC Γ h' O ∧ Rm O n u h h' := by
  have wf := CI_wf q
  obtain ⟨q1, q2, q3, q4, q5, q6⟩ := q
  have t1 := q6.2.1.2.1.2.2.2.1
  have t2 := q6.2.2.1.2.1.2.2.2.1
  refine ⟨TlO_x q1 wf z hO (by rw [rd.2.1.1, q1.2.2.1.2.2.1.1]) (by rw [rd.2.2.1, q1.2.2.1.2.2.2.1]), Gk_Fx wf z (fun a ha => (hA a ha).2), FsC_x q6 wf' z (fun a ha => (hA a ha).1), Rm_x z ?_ ?_⟩
  · exact ((z.2.2 (O + 116 + 2) (wf _ (by rw [t1]; decide))).2.2 (fun y => (hA _ y).1 (by rw [t1]; decide))).2.2
  · exact ((z.2.2 (O + 119 + 2) (wf _ (by rw [t2]; decide))).2.2 (fun y => (hA _ y).1 (by rw [t2]; decide))).2.2
theorem CI_fy {Γ : Nat → List Nat × Alts} {A : Nat → Prop} {n u O : Nat} {st : Stt} {h h' : AH} (q : CI Γ O st h) (wf' : WF h') (z : Fx A n u h h') (hA : ∀ a, A a → hT h a ∉ FSs ∧ hT h a ∉ GS ∧ hT h a ∉ [12, 20, 23, 24]) (rd : RdO h' (O + 2)) : CI Γ O st h' ∧ Rm O n u h h' ∧ Gk h h' ∧ TlO h' O := by
  have wf := CI_wf q
  have sm : ∀ a, hT h a ≠ 0 → hT h a ∈ [12, 20, 23, 24] → Sm h h' a := fun a h0 hs => (z.2.2 a (wf a h0)).2.2 (fun y => (hA a y).2.2 hs)
  obtain ⟨t1, t2, t3, t4⟩ := CI_acy q wf' z (fun a ha => ⟨(hA a ha).1, (hA a ha).2.1⟩) rd (fun k _ => by
    have := sm O (by rw [q.1.1]; decide) (by rw [q.1.1]; decide)
    rw [this.2.2])
  obtain ⟨q1, q2, ⟨S, U, X, nm, nw, ca⟩, q4, q5, q6⟩ := q
  have sO := sm O (by rw [q1.1]; decide) (by rw [q1.1]; decide)
  have s1 := sm (O + 1) (by rw [q1.2.1.2.1]; decide) (by rw [q1.2.1.2.1]; decide)
  have sP := sm (O + 22) (by rw [q1.2.2.2.2.1.2.1]; decide) (by rw [q1.2.2.2.2.1.2.1]; decide)
  have sQ := sm (O + 23) (by rw [q1.2.2.2.2.2.1.2.1]; decide) (by rw [q1.2.2.2.2.2.1.2.1]; decide)
  have fs : ∀ a, hT h a ∈ FSs → Sm h h' a := fun a hs => (z.2.2 a (wf a (fun e => by rw [e] at hs; exact absurd hs (by decide)))).2.2 (fun y => (hA a y).1 hs)
  refine ⟨⟨t1, ⟨by rw [sO.1]; exact q2.1, q2.2.1, fun i hi => by rw [s1.1]; exact q2.2.2 i hi⟩, ⟨S, U, X, nm, NwC_k nw t2 (by rw [sO.2.2]) (by rw [sO.2.1]) (by rw [sO.2.2]), ⟨ca.1.imp (fun e => by rw [sO.1]; exact e) (fun e => CaD_x e z t2 t3.2.1 (by rw [sO.1]) (fs _ (by rw [q6.2.1.2.1.1]; decide)) (fs (O + 116 + 2) (by rw [q6.2.1.2.1.2.2.2.1]; decide)).2.2 (fun k N hk eN => ?_)), by rw [sO.1]; exact ca.2.1, by rw [sO.1]; exact ca.2.2⟩⟩, ⟨by rw [sO.1]; exact q4.1, q4.2.1, PsC_k q4.2.2 t2 sP.2.2⟩, ShsC_k q5 t2 sQ.2.2, t3⟩, t4, t2, t1⟩
  obtain ⟨c1, c2, c3, -⟩ := q6.2.1.2.2.2.2 k hk N eN
  exact ⟨fun y => (hA _ y).1 (by rw [c1]; decide), fun y => (hA _ y).1 (by rw [c3]; decide)⟩
theorem rdTell_ok {tp : List Nat} {s : Told} (he : rdTell tp = .inr s) : TdIn tp s ∧ stry tp (nmL s.1) tp.length = none := by
  unfold rdTell at he
  generalize hA : rdA tp = r at he
  match r, hA, he with
  | .inl F, hA, he => cases he
  | .inr (s', a'), hA, he =>
    simp only [rdTk] at he
    split at he
    · cases he
    · split at he
      · cases he
      · rename_i hs
        cases he
        exact ⟨rdA_ok hA, hs⟩
