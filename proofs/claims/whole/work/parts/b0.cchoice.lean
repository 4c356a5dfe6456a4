/-! ===== the class: Search.triesChoices ===== -/
theorem dr_zip {α : Type} {l : List α} (d : α) {j : Nat} (h : j < l.length) : l.zipIdx.drop j = (l.getD j d, j) :: l.zipIdx.drop (j + 1) := by
  rw [List.drop_eq_getElem_cons (by rw [List.length_zipIdx]; exact h), List.getElem_zipIdx, List.getD_eq_getElem?_getD, List.getElem?_eq_getElem h, Nat.zero_add]; rfl
theorem fst_mp {α β γ : Type} {g : α → Ctr → Res β} {φ : β → γ} : ∀ (l : List α) (s : Ctr), fstM (fun x s => thn (g x s) (fun b s => some (some (φ b), s))) l s = thn (fstM g l s) (fun b s => some (some (φ b), s))
  | [], s => rfl
  | x :: xs, s => by
    rw [fstM, fstM]
    match g x s with
    | none => rfl
    | some (some b, s') => rfl
    | some (none, s') => exact fst_mp xs s'
theorem tryC_F {gr : GrT} {tx : List (List Nat)} {r lvl ix f m rr kk j : Nat} {ab : Option Nat} {w : List Nat} {e : EnvA} {rt : RuleT} {ch : ChoT} {s : Ctr} : tryC (gG gr tx) (akF gr tx r lvl ix) w lvl f m ix ab rr kk e rt (ch, j) s = thn (tF (gH (gG gr tx)) (frK gr tx r lvl ix f m w e ch) (frs rt.1 ch) [] s) (fun p s' => some (some ((rr, j, kk, f, m, ab, w, lvl, p.1) :: p.2), s')) := by
  unfold tryC tF
  rw [← fst_mp]
  refine fst_cg _ _ (fun t _ s => ?_)
  unfold tryF frK
  rw [List.nil_append]
  show thn (memF (akF gr tx r lvl ix) tx (spl w e (fwd (gH (gG gr tx)) t)) ch f (f + m) (ix + 1) s) _ = thn (thn (memF (akF gr tx r lvl ix) tx (spl w e (fwd (gH (gG gr tx)) t)) ch f (f + m) (ix + 1) s) _) _
  match memF (akF gr tx r lvl ix) tx (spl w e (fwd (gH (gG gr tx)) t)) ch f (f + m) (ix + 1) s with
  | none => rfl
  | some (none, s') => rfl
  | some (some b, s') => rfl
theorem tryC_no {gr : GrT} {tx : List (List Nat)} {r lvl ix f m rr kk j : Nat} {ab : Option Nat} {w : List Nat} {e : EnvA} {rt : RuleT} {ch : ChoT} {s : Ctr} (h : (if aheadN ch = ch.length then decide (m = ch.length) else decide (aheadN ch ≤ m)) = false) : tryC (gG gr tx) (akF gr tx r lvl ix) w lvl f m ix ab rr kk e rt (ch, j) s = some (none, s) := by
  unfold tryC
  refine fst_none _ (fun fr _ => ?_)
  unfold tryF
  rw [show ((ch, j) : ChoT × Nat).1 = ch from rfl, mem_suit h]
  rfl
theorem HW_mem {A : Alts} {k c : Nat} {v : List Nat} (h : v ∈ HW A k c) : LW A c k v := by
  unfold HW at h
  by_cases z : ∃ X, Top (LW A c k) X
  · rw [dif_pos z] at h
    exact (Classical.choose_spec z).2.2.1 v h
  · rw [dif_neg z] at h; cases h
theorem asg_dom {sp : Nat → Nat → Nat → Bool} {w : List Nat} : ∀ (r : List Nat) (p : Nat) (e : EnvA), ∀ e' ∈ asg sp w r p e, ∀ c, c ∉ r → e' c = e c
  | [], p, e, e', h, c, _ => by
    rw [asg] at h
    split at h
    · rw [List.mem_singleton.mp h]
    · cases h
  | x :: r, p, e, e', h, c, hc => by
    rw [asg] at h
    have hx : c ≠ x := fun z => hc (by rw [z]; exact List.mem_cons_self ..)
    have hr : c ∉ r := fun z => hc (List.mem_cons_of_mem _ z)
    split at h
    · split at h
      · split at h
        · exact asg_dom r _ e e' h c hr
        · cases h
      · obtain ⟨n, _, n2⟩ := List.mem_flatMap.mp h
        split at n2
        · rw [asg_dom r _ _ e' n2 c hr]
          unfold up1
          rw [if_neg hx]
        · cases n2
    · split at h
      · exact asg_dom r _ e e' h c hr
      · cases h
/-- a NODE whose alternatives are tried -/
def CoS (S FB T N R ix lvl f m rr kk : Nat) (ab : Option Nat) (nm w : List Nat) (rt : RuleT) (e : EnvA) (H : Nat → List (List Nat)) (h : AH) : Prop := hR h (S + 2) ix = some N ∧ hI h N 2 = nI lvl ∧ hI h N 4 = nI f ∧ hI h N 5 = nI m ∧ hI h N 6 = nI rr ∧ hI h N 7 = nI kk ∧ hI h N 3 = oI ab ∧ hJ h N 1 = lN (cd w) ∧ (∃ rl, hR h T 1 = some rl ∧ hR h rl rr = some R ∧ hT h rl = 28) ∧ RuA h R nm rt ∧ ∀ c ∈ rt.1, cap c = true → VAt (fun c => hI h (FB + 7 * lvl + c)) (fun c => hJ h (FB + 7 * lvl + c)) (nm.idxOf c) (splE w e (fwd H []) c) ∧ WL (splE w e (fwd H []) c) ∧ (splE w e (fwd H []) c).length ≤ 10 ∧ (e c).isSome = true
def CoF (FB N lvl : Nat) (nm hd : List Nat) (h h' : AH) : Prop := (∀ k, k ≠ 8 → hI h' N k = hI h N k) ∧ hJ h' N = hJ h N ∧ (∀ k, k ≠ 9 → hR h' N k = hR h N k) ∧ (∀ c, c < 5 → Sm h h' (FB + 7 * lvl + c)) ∧ ∀ c ∈ hd, cap c = true → hJ h' (FB + 7 * lvl + 5) (nm.idxOf c) = hJ h (FB + 7 * lvl + 5) (nm.idxOf c) ∧ hI h' (FB + 7 * lvl + 6) (nm.idxOf c) = hI h (FB + 7 * lvl + 6) (nm.idxOf c)
theorem CoF.rf {FB N lvl : Nat} {nm hd : List Nat} {h : AH} : CoF FB N lvl nm hd h h := ⟨fun _ _ => rfl, rfl, fun _ _ => rfl, fun _ _ => ⟨rfl, rfl, rfl⟩, fun _ _ _ => ⟨rfl, rfl⟩⟩
theorem CoF.tr {FB N lvl : Nat} {nm hd : List Nat} {h h1 h2 : AH} (a : CoF FB N lvl nm hd h h1) (b : CoF FB N lvl nm hd h1 h2) : CoF FB N lvl nm hd h h2 := by
  obtain ⟨a1, a2, a3, a4, a5⟩ := a
  obtain ⟨b1, b2, b3, b4, b5⟩ := b
  exact ⟨fun k hk => (b1 k hk).trans (a1 k hk), b2.trans a2, fun k hk => (b3 k hk).trans (a3 k hk), fun c hc => ⟨(b4 c hc).1.trans (a4 c hc).1, (b4 c hc).2.1.trans (a4 c hc).2.1, (b4 c hc).2.2.trans (a4 c hc).2.2⟩, fun c x y => ⟨(b5 c x y).1.trans (a5 c x y).1, (b5 c x y).2.trans (a5 c x y).2⟩⟩
theorem CoS_F {S FB T N R ix lvl f m rr kk : Nat} {ab : Option Nat} {nm w : List Nat} {rt : RuleT} {e : EnvA} {H : Nat → List (List Nat)} {h h' : AH} (q : CoS S FB T N R ix lvl f m rr kk ab nm w rt e H h) (k : Gk h h') (hT' : hT h T = 10) (hent : hR h' (S + 2) ix = some N) (F : CoF FB N lvl nm rt.1 h h') : CoS S FB T N R ix lvl f m rr kk ab nm w rt e H h' := by
  obtain ⟨q1, q2, q3, q4, q5, q6, q7, q8, ⟨rl, r1, r2, r3⟩, q9, q10⟩ := q
  obtain ⟨F1, F2, F3, F4, F5⟩ := F
  have kT := k T (by rw [hT']; decide)
  have kr := k rl (by rw [r3]; decide)
  refine ⟨hent, by rw [F1 2 (by decide)]; exact q2, by rw [F1 4 (by decide)]; exact q3, by rw [F1 5 (by decide)]; exact q4, by rw [F1 6 (by decide)]; exact q5, by rw [F1 7 (by decide)]; exact q6, by rw [F1 3 (by decide)]; exact q7, by rw [F2]; exact q8, ⟨rl, by rw [kT.2.2.2.2]; exact r1, by rw [kr.2.2.2.2]; exact r2, kr.1.trans r3⟩, RuA_k q9 k, fun c hc hcap => ?_⟩
  obtain ⟨⟨a1, a2⟩, a3⟩ := q10 c hc hcap
  obtain ⟨b1, b2⟩ := F5 c hc hcap
  exact ⟨⟨b1.trans a1, b2.trans a2⟩, a3⟩
