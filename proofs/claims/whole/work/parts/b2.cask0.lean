/-! ===== the class: Search.ask, what goes along ===== -/
def els {β : Type} (x : Res β) (k : Ctr → Res β) : Res β := match x with
  | none => none
  | some (some b, s') => some (some b, s')
  | some (none, s') => k s'
theorem els_cons {α β : Type} {f : α → Ctr → Res β} {x : α} {xs : List α} {s : Ctr} {k : Ctr → Res β} : els (fstM f (x :: xs) s) k = els (f x s) (fun s' => els (fstM f xs s') k) := by
  rw [fstM]
  match f x s with
  | none => rfl
  | some (some b, s') => rfl
  | some (none, s') => rfl
noncomputable def blK (G : Gs) (row : List Nat) (s : Ctr) : Res (List Nd) := some (none, bl1 (isBl G row) s)
theorem ask_els {G : Gs} {r lvl : Nat} {row : List Nat} {f m i : Nat} {ab : Option Nat} {s : Ctr} (h : s.1 ≠ 500) : ask G (r + 1) lvl row f m i ab s = els (fstM (fun rr s => tryR G (fun row f n i' s => ask G r (lvl + 1) row f n i' (some i) s) row lvl f m i ab rr s) (gRs G).zipIdx (s.1 + 1, s.2.1, s.2.2.1, max s.2.2.2 lvl)) (blK G row) := by
  rw [ask, if_neg h]
  generalize fstM (fun rr s => tryR G (fun row f n i' s => ask G r (lvl + 1) row f n i' (some i) s) row lvl f m i ab rr s) (gRs G).zipIdx (s.1 + 1, s.2.1, s.2.2.1, max s.2.2.2 lvl) = x
  match x with
  | none => rfl
  | some (some b, s') => rfl
  | some (none, s') => rfl
theorem FIt_cg {A : Alts} {w nm hd : List Nat} {fi fi' : Nat → Nat → Int32} {L : List EnvA} (q : FIt A w nm hd fi L) (hf : ∀ c, c < 5 → fi' c = fi c) : FIt A w nm hd fi' L := by
  unfold FIt SpAtF Mem at *
  rw [hf 0 (by decide), hf 2 (by decide), hf 3 (by decide), hf 4 (by decide)]
  exact q
/-- a NODE that is asked for -/
def AsS (Γ : Nat → List Nat × Alts) (S FB U N i lvl f m : Nat) (ab : Option Nat) (w : List Nat) (h : AH) : Prop := hR h (S + 2) i = some N ∧ hI h N 2 = nI lvl ∧ hI h N 4 = nI f ∧ hI h N 5 = nI m ∧ hI h N 3 = oI ab ∧ hJ h N 1 = lN (cd w) ∧ FtL Γ (fun c => hI h (FB + 7 * lvl + c)) (fun c => hJ h (FB + 7 * lvl + c)) (fun c => hR h (FB + 7 * lvl + c)) U w
theorem AsS_f {Γ : Nat → List Nat × Alts} {S FB U N i lvl f m : Nat} {ab : Option Nat} {w : List Nat} {h : AH} (q : AsS Γ S FB U N i lvl f m ab w h) (hF : FtT h (FB + 7 * lvl)) (tN : hT h N = 4) (tS : hT h (S + 2) = 51) {fi : Nat → Nat → Int32} {fj : Nat → Nat → Int64} {fr : Nat → Nat → Option Nat} (hL' : FtL Γ fi fj fr U w) : AsS Γ S FB U N i lvl f m ab w (ov h (FB + 7 * lvl) 7 fi fj fr) := by
  obtain ⟨q1, q2, q3, q4, q5, q6, q7⟩ := q
  have oN := Ft_out hF (a := N) (by rw [tN]; decide)
  have oS := Ft_out hF (a := S + 2) (by rw [tS]; decide)
  refine ⟨by rw [ov_Ro oS]; exact q1, by rw [ov_Io oN]; exact q2, by rw [ov_Io oN]; exact q3, by rw [ov_Io oN]; exact q4, by rw [ov_Io oN]; exact q5, by rw [ov_Jo oN]; exact q6, ?_⟩
  exact FtL_cg hL' (ov_I (c := 0) (by decide)) (ov_I (c := 1) (by decide)) (ov_I (c := 2) (by decide)) (ov_J (c := 0) (by decide)) (ov_R (c := 0) (by decide))
theorem AsS_c {Γ : Nat → List Nat × Alts} {S FB U N i lvl f m : Nat} {ab : Option Nat} {w nm hd : List Nat} {h h' : AH} (q : AsS Γ S FB U N i lvl f m ab w h) (hent : hR h' (S + 2) i = some N) (F : CoF FB N lvl nm hd h h') : AsS Γ S FB U N i lvl f m ab w h' := by
  obtain ⟨q1, q2, q3, q4, q5, q6, q7⟩ := q
  obtain ⟨F1, F2, F3, F4, F5⟩ := F
  exact ⟨hent, by rw [F1 2 (by decide)]; exact q2, by rw [F1 4 (by decide)]; exact q3, by rw [F1 5 (by decide)]; exact q4, by rw [F1 3 (by decide)]; exact q5, by rw [F2]; exact q6, FtL_cg q7 (F4 0 (by decide)).1 (F4 1 (by decide)).1 (F4 2 (by decide)).1 (F4 0 (by decide)).2.1 (F4 0 (by decide)).2.2⟩
/-- a field of the NODE that is not asked for changes -/
theorem AsS_n {Γ : Nat → List Nat × Alts} {S FA FB T U X : Nat} {nm : List Nat} {gr : GrT} {tx : List (List Nat)} {d : Nat} {N i lvl f m k : Nat} {ab : Option Nat} {w : List Nat} {h : AH} {v : Int32} (I : SI Γ S FA FB T U X nm gr tx d h) (q : AsS Γ S FB U N i lvl f m ab w h) (hi : i < 500) (hl : lvl < 12) (hk : k = 6 ∨ k = 7) : SI Γ S FA FB T U X nm gr tx d (sI h N k v) ∧ SR S FB lvl i h (sI h N k v) ∧ AsS Γ S FB U N i lvl f m ab w (sI h N k v) ∧ hI (sI h N k v) S = hI h S ∧ (∀ c, c < 7 → Sm h (sI h N k v) (FB + 7 * lvl + c)) := by
  have nd := I.2.2.2.2.1 i hi N q.1
  have z : Fz (fun a => a = N) h (sI h N k v) := Fz_sI rfl
  have oN := Ft_out (I.2.2.2.1 lvl hl).1 (a := N) (by rw [nd.1]; decide)
  have nS : S ≠ N := fun x => by
    have := nd.1
    rw [← x, I.2.1.1] at this; cases this
  have s7 : ∀ c, c < 7 → Sm h (sI h N k v) (FB + 7 * lvl + c) := fun c hc => z.2.2.2.2 _ (fun x => by
    have x : FB + 7 * lvl + c = N := x
    omega)
  have i2 : ∀ j, j ≠ 6 → j ≠ 7 → hI (sI h N k v) N j = hI h N j := fun j j6 j7 => by rw [hI_sI, u2_n (Or.inr (by omega))]
  obtain ⟨q1, q2, q3, q4, q5, q6, q7⟩ := q
  refine ⟨SI_n I z (fun a ha => Or.inl (by rw [ha]; exact nd.1)) (fun k' N' _ _ => ⟨?_, rfl⟩), SR_n I z (fun a ha => Or.inl ha) (Nat.le_refl _) hi q1, ⟨q1, by rw [i2 2 (by decide) (by decide)]; exact q2, by rw [i2 4 (by decide) (by decide)]; exact q3, by rw [i2 5 (by decide) (by decide)]; exact q4, by rw [i2 3 (by decide) (by decide)]; exact q5, q6, FtL_cg q7 (s7 0 (by decide)).1 (s7 1 (by decide)).1 (s7 2 (by decide)).1 (s7 0 (by decide)).2.1 (s7 0 (by decide)).2.2⟩, (z.2.2.2.2 S nS).1, s7⟩
  rw [hI_sI, u2_n (Or.inr (by omega))]
