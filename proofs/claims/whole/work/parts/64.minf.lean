/-! ===== loops that count; the reference's cells as one function; sets of places as bits ===== -/
def Fl (_ : List Value) (_ : AH) : Prop := False
theorem s_for {ρ : Type} {c : EX Bool} {b st : ST ρ} {σ : List Value} {h : AH} {N B C : List Value → AH → Prop} {R : ρ → AH → Prop} (I : Nat → List Value → AH → Prop) (i n : Nat) (hin : i ≤ n) (hn : n < 100000000) (h0 : I i σ h)
    (hs : ∀ i σ h, i < n → I i σ h → wpe c σ h (fun t h1 => t = true ∧ wps b σ h1 (fun σ2 h2 => wps st σ2 h2 (I (i + 1)) Fl Fl (fun _ _ => False)) N (fun σ2 h2 => wps st σ2 h2 (I (i + 1)) Fl Fl (fun _ _ => False)) R))
    (he : ∀ σ h, I n σ h → wpe c σ h (fun t h1 => t = false ∧ N σ h1)) : wps (loop c b st) σ h N B C R := by
  refine s_loop (fun m σ h => ∃ j, m = n - j ∧ j ≤ n ∧ I j σ h) (n - i) (by omega) ⟨i, rfl, hin, h0⟩ ?_
  rintro m σ h ⟨j, rfl, hj, hi⟩
  have key : ∀ σ2 h2, wps st σ2 h2 (I (j + 1)) Fl Fl (fun _ _ => False) → j < n → wps st σ2 h2 (fun σ3 h3 => ∃ m, m < n - j ∧ ∃ j', m = n - j' ∧ j' ≤ n ∧ I j' σ3 h3) (fun _ _ => False) (fun _ _ => False) (fun _ _ => False) := by
    intro σ2 h2 w hjn
    refine ok_mono w ?_
    rintro ⟨o, σ3, h3⟩ q
    match o, q with
    | .inl r, q => exact q.elim
    | .inr 0, q => exact ⟨n - (j + 1), by omega, j + 1, rfl, by omega, q⟩
    | .inr 1, q => exact q.elim
    | .inr (_ + 2), q => exact q.elim
  rcases Nat.lt_or_ge j n with q | q
  · refine ok_mono (hs j σ h q hi) ?_
    rintro ⟨t, h1⟩ ⟨e, w⟩
    simp only at e w ⊢
    rw [if_pos e]
    refine ok_mono w ?_
    rintro ⟨o, σ2, h2⟩ z
    match o, z with
    | .inl r, z => exact z
    | .inr 0, z => exact key σ2 h2 z q
    | .inr 1, z => exact z
    | .inr (_ + 2), z => exact key σ2 h2 z q
  · have e : j = n := by omega
    subst e
    refine ok_mono (he σ h hi) ?_
    rintro ⟨t, h1⟩ ⟨e, w⟩
    simp only at e w ⊢
    rw [if_neg (by rw [e]; decide)]
    exact w
/-- a loop with a test that may end it early -/
theorem s_whl {ρ : Type} {c : EX Bool} {b st : ST ρ} {σ : List Value} {h : AH} {N B C : List Value → AH → Prop} {R : ρ → AH → Prop} (I : Nat → List Value → AH → Prop) (n : Nat) (hn : n < 1000000000) (h0 : I n σ h)
    (hs : ∀ n σ h, I n σ h → wpe c σ h (fun t h1 => (t = true → wps b σ h1 (fun σ2 h2 => wps st σ2 h2 (fun σ3 h3 => ∃ m, m < n ∧ I m σ3 h3) Fl Fl (fun _ _ => False)) N (fun σ2 h2 => wps st σ2 h2 (fun σ3 h3 => ∃ m, m < n ∧ I m σ3 h3) Fl Fl (fun _ _ => False)) R) ∧ (t = false → N σ h1))) : wps (loop c b st) σ h N B C R := by
  refine s_loop I n hn h0 (fun n σ h hi => ?_)
  refine ok_mono (hs n σ h hi) ?_
  rintro ⟨t, h1⟩ ⟨w1, w2⟩
  cases t
  · simp only [Bool.false_eq_true, if_false]; exact w2 rfl
  · simp only [if_true]; exact w1 rfl
theorem s_mono {ρ : Type} {S : ST ρ} {σ : List Value} {h : AH} {N N' B B' C C' : List Value → AH → Prop} {R R' : ρ → AH → Prop} (w : wps S σ h N B C R) (hN : ∀ σ h, N σ h → N' σ h) (hB : ∀ σ h, B σ h → B' σ h) (hC : ∀ σ h, C σ h → C' σ h) (hR : ∀ r h, R r h → R' r h) : wps S σ h N' B' C' R' := by
  refine ok_mono w ?_
  rintro ⟨o, σ2, h2⟩ q
  match o, q with
  | .inl r, q => exact hR _ _ q
  | .inr 0, q => exact hN _ _ q
  | .inr 1, q => exact hB _ _ q
  | .inr (_ + 2), q => exact hC _ _ q
theorem wpe_mono {α : Type} {e : EX α} {σ : List Value} {h : AH} {P Q : α → AH → Prop} (w : wpe e σ h P) (hpq : ∀ x h1, P x h1 → Q x h1) : wpe e σ h Q := ok_mono w (fun x hx => hpq x.1 x.2 hx)
/-! the reference's ints: f k j the j-th of its k-th cell -/
def mF (h : AH) (M : Nat) (f : Nat → Nat → Int32) : Nat → Nat → Int32 := fun a => if M ≤ a ∧ a ≤ M + 32 then f (a - M) else hI h a
def mh (h : AH) (M : Nat) (f : Nat → Nat → Int32) : AH := upI h (mF h M f)
section MH
variable {h : AH} {M : Nat} {f : Nat → Nat → Int32}
theorem mh_N : hN (mh h M f) = hN h := rfl
theorem mh_U : hU (mh h M f) = hU h := rfl
theorem mh_T : hT (mh h M f) = hT h := rfl
theorem mh_L : hL (mh h M f) = hL h := rfl
theorem mh_J : hJ (mh h M f) = hJ h := rfl
theorem mh_R : hR (mh h M f) = hR h := rfl
theorem mh_I {k : Nat} (hk : k ≤ 32) : hI (mh h M f) (M + k) = f k := by
  show mF h M f (M + k) = f k
  unfold mF
  rw [if_pos (by omega), Nat.add_sub_cancel_left]
theorem mh_0 : hI (mh h M f) M = f 0 := mh_I (k := 0) (by omega)
theorem mh_out {a : Nat} (ha : a < M ∨ M + 32 < a) : hI (mh h M f) a = hI h a := by
  show mF h M f a = hI h a
  unfold mF
  rw [if_neg (by omega)]
theorem mh_s {k j : Nat} {v : Int32} (hk : k ≤ 32) : sI (mh h M f) (M + k) j v = mh h M (up2 f k j v) := by
  unfold mh
  rw [sI_u]
  congr 1
  funext a b
  unfold up2 mF
  by_cases q : M ≤ a ∧ a ≤ M + 32
  · simp only [q, and_self, if_true]
    by_cases z : a = M + k
    · subst z; simp
    · rw [if_neg (fun y => z y.1), if_neg (fun y => z (by omega))]
  · rw [if_neg q, if_neg (fun y => q (by omega)), if_neg q]
theorem mh_s0 {j : Nat} {v : Int32} : sI (mh h M f) M j v = mh h M (up2 f 0 j v) := mh_s (k := 0) (by omega)
theorem mh_self {f : Nat → Nat → Int32} (hf : ∀ k, k ≤ 32 → f k = hI h (M + k)) : mh h M f = h := by
  have : mF h M f = hI h := by
    funext a
    unfold mF
    split
    · rename_i q
      rw [hf _ (by omega)]
      congr 1
      omega
    · rfl
  unfold mh
  rw [this]
  exact upI_self
theorem mh_ok (H : MOK h M) : MOK (mh h M f) M := H
end MH
theorem up2_eq {α : Type} {f : Nat → Nat → α} {a k : Nat} {v : α} : up2 f a k v a k = v := by simp [up2]
theorem up2_k {α : Type} {f : Nat → Nat → α} {a k b j : Nat} {v : α} (hj : j ≠ k) : up2 f a k v b j = f b j := by simp [up2, hj]
theorem up2_na {α : Type} {f : Nat → Nat → α} {a k b j : Nat} {v : α} (hj : b ≠ a) : up2 f a k v b j = f b j := by simp [up2, hj]
theorem up2_at {α : Type} {f : Nat → Nat → α} {a k j : Nat} {v : α} : up2 f a k v a j = if j = k then v else f a j := by simp [up2]
theorem up2_nf {α : Type} {f : Nat → Nat → α} {a k b : Nat} {v : α} (hj : b ≠ a) : up2 f a k v b = f b := by funext j; simp [up2, hj]
/-! sets as bits -/
def Bt (s n : Nat) (P : Nat → Prop) : Prop := s < 2 ^ n ∧ ∀ q, s.testBit q = true ↔ P q
theorem Bt_0 {n : Nat} : Bt 0 n (fun _ => False) := ⟨Nat.two_pow_pos n, fun q => by simp⟩
theorem Bt_1 {n k : Nat} (hk : k < n) : Bt (2 ^ k) n (fun q => q = k) := ⟨Nat.pow_lt_pow_right (by decide) hk, fun q => by rw [Nat.testBit_two_pow]; simp [eq_comm]⟩
theorem Bt_or {s t n : Nat} {P Q : Nat → Prop} (h1 : Bt s n P) (h2 : Bt t n Q) : Bt (s ||| t) n (fun q => P q ∨ Q q) := ⟨Nat.or_lt_two_pow h1.1 h2.1, fun q => by rw [Nat.testBit_or, Bool.or_eq_true, h1.2, h2.2]⟩
theorem Bt_to {s n : Nat} {P Q : Nat → Prop} (h : Bt s n P) (hpq : ∀ q, P q ↔ Q q) : Bt s n Q := ⟨h.1, fun q => (h.2 q).trans (hpq q)⟩
theorem Bt_eq {s t n m : Nat} {P : Nat → Prop} (h1 : Bt s n P) (h2 : Bt t m P) : s = t := Nat.eq_of_testBit_eq (fun q => by
  have e := (h1.2 q).trans (h2.2 q).symm
  cases h : s.testBit q <;> cases h' : t.testBit q <;> simp [h, h'] at e ⊢)
theorem Bt_z {s n : Nat} {P : Nat → Prop} (h : Bt s n P) : s = 0 ↔ ∀ q, ¬ P q := by
  constructor
  · rintro rfl q hq
    have := (h.2 q).mpr hq
    simp at this
  · intro q
    refine Nat.eq_of_testBit_eq (fun j => ?_)
    have := mt (h.2 j).mp (q j)
    simpa using this
theorem Bt_lt {s n : Nat} {P : Nat → Prop} (h : Bt s n P) {q : Nat} (hq : P q) : q < n := by
  rcases Nat.lt_or_ge q n with z | z
  · exact z
  · have := (h.2 q).mpr hq
    rw [Nat.testBit_lt_two_pow (Nat.lt_of_lt_of_le h.1 (Nat.pow_le_pow_right (by decide) z))] at this
    cases this
theorem y_shl2 : ∀ j, j < 30 → nI 2 <<< (nI j &&& 31) = nI (2 ^ (j + 1)) := by decide +kernel
/-! steps of a walk, the rest out of sight -/
theorem wpe_to {α : Type} {e : EX α} {σ : List Value} {h : AH} {Q : α → AH → Prop} (v : α) (h' : AH) (w : wpe e σ h (fun x h1 => x = v ∧ h1 = h')) (k : Q v h') : wpe e σ h Q := by
  refine wpe_mono w ?_
  rintro x h1 ⟨rfl, rfl⟩
  exact k
theorem seq {ρ : Type} {a b : ST ρ} {σ : List Value} {h : AH} {N B C : List Value → AH → Prop} {R : ρ → AH → Prop} (k : ∀ N' : List Value → AH → Prop, (∀ σ1 h1, wps b σ1 h1 N B C R → N' σ1 h1) → wps a σ h N' B C R) : wps (sq a b) σ h N B C R := s_sq.mpr (k _ (fun _ _ w => w))
theorem hid {ρ : Type} {S : ST ρ} {σ : List Value} {h : AH} {N B C : List Value → AH → Prop} {R : ρ → AH → Prop} (k : ∀ (N' B' C' : List Value → AH → Prop) (R' : ρ → AH → Prop), (∀ σ h, N σ h → N' σ h) → (∀ σ h, B σ h → B' σ h) → (∀ σ h, C σ h → C' σ h) → (∀ r h, R r h → R' r h) → wps S σ h N' B' C' R') : wps S σ h N B C R := k N B C R (fun _ _ w => w) (fun _ _ w => w) (fun _ _ w => w) (fun _ _ w => w)
theorem wpm_ex {ρ : Type} {d : MD ρ} {av : List Value} {h : AH} {P : ρ → AH → Prop} (w : wpm d av h P) : ∃ r h', d av h = some (r, h') ∧ P r h' := wpm_intro w
theorem getD_mem {l : List Nat} {i : Nat} (h : i < l.length) : l.getD i 0 ∈ l := by
  rw [List.getD_eq_getElem?_getD, List.getElem?_eq_getElem h]; exact List.getElem_mem _
theorem getD_some {l : List Nat} {i : Nat} (h : i < l.length) : l[i]? = some (l.getD i 0) := by
  rw [List.getD_eq_getElem?_getD, List.getElem?_eq_getElem h]; rfl
theorem take_snoc {α : Type} {l : List α} {i : Nat} {x : α} (h : l[i]? = some x) : l.take (i + 1) = l.take i ++ [x] := by
  rw [List.take_add_one, h]; rfl
