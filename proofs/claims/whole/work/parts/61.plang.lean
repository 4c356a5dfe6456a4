/-! ===== the words of a METANOTION ===== -/
abbrev Alts : Type := Nat → List (List Nat)
def cap (c : Nat) : Bool := decide (65 ≤ c ∧ c ≤ 90)
def stp (L : Nat → List Nat → Prop) (c : Nat) (v : List Nat) : Prop := if cap c = true then L c v else v = [c]
def rowW (L : Nat → List Nat → Prop) : List Nat → List Nat → Prop
  | [], v => v = []
  | c :: r, v => ∃ v1 v2, v = v1 ++ v2 ∧ stp L c v1 ∧ rowW L r v2
def lng (A : Alts) : Nat → Nat → List Nat → Prop
  | 0, _, _ => False
  | n + 1, c, v => ∃ row, row ∈ A c ∧ rowW (lng A n) row v
def Lang (A : Alts) (c : Nat) (v : List Nat) : Prop := ∃ n, lng A n c v
theorem stp_mono {L L' : Nat → List Nat → Prop} (h : ∀ c v, L c v → L' c v) {c : Nat} {v : List Nat} (hs : stp L c v) : stp L' c v := by
  unfold stp at *
  split at hs
  · rename_i q; rw [if_pos q]; exact h _ _ hs
  · rename_i q; rw [if_neg q]; exact hs
theorem rowW_mono {L L' : Nat → List Nat → Prop} (h : ∀ c v, L c v → L' c v) : ∀ (r v : List Nat), rowW L r v → rowW L' r v
  | [], _, e => e
  | _ :: r, _, ⟨v1, v2, e, h1, h2⟩ => ⟨v1, v2, e, stp_mono h h1, rowW_mono h r v2 h2⟩
theorem lng_succ {A : Alts} : ∀ (n c : Nat) (v : List Nat), lng A n c v → lng A (n + 1) c v
  | 0, _, _, h => h.elim
  | n + 1, _, _, ⟨row, hr, h⟩ => ⟨row, hr, rowW_mono (lng_succ n) row _ h⟩
theorem lng_le {A : Alts} {n m : Nat} (h : n ≤ m) : ∀ (c : Nat) (v : List Nat), lng A n c v → lng A m c v := by
  induction h with
  | refl => exact fun _ _ h => h
  | step _ ih => exact fun c v h => lng_succ _ c v (ih c v h)
theorem stp_lang {A : Alts} {c : Nat} {v : List Nat} (h : stp (Lang A) c v) : ∃ n, stp (lng A n) c v := by
  unfold stp at *
  by_cases q : cap c = true
  · rw [if_pos q] at h
    obtain ⟨n, h⟩ := h
    exact ⟨n, by rw [if_pos q]; exact h⟩
  · rw [if_neg q] at h
    exact ⟨0, by rw [if_neg q]; exact h⟩
theorem rowW_lang {A : Alts} : ∀ (r v : List Nat), rowW (Lang A) r v → ∃ n, rowW (lng A n) r v
  | [], _, e => ⟨0, e⟩
  | _ :: r, _, ⟨v1, v2, e, h1, h2⟩ => by
    obtain ⟨n1, g1⟩ := stp_lang h1
    obtain ⟨n2, g2⟩ := rowW_lang r v2 h2
    exact ⟨n1 + n2, v1, v2, e, stp_mono (lng_le (by omega)) g1, rowW_mono (lng_le (by omega)) r v2 g2⟩
theorem Lang_in {A : Alts} {c : Nat} {v row : List Nat} (hr : row ∈ A c) (h : rowW (Lang A) row v) : Lang A c v := by
  obtain ⟨n, h⟩ := rowW_lang row v h
  exact ⟨n + 1, row, hr, h⟩
theorem Lang_out {A : Alts} {c : Nat} {v : List Nat} (h : Lang A c v) : ∃ row, row ∈ A c ∧ rowW (Lang A) row v := by
  obtain ⟨n, h⟩ := h
  cases n with
  | zero => exact h.elim
  | succ n =>
    obtain ⟨row, hr, h⟩ := h
    exact ⟨row, hr, rowW_mono (fun c v h => ⟨n, h⟩) row v h⟩
/-- what is closed holds of all words -/
theorem Lang_ind {A : Alts} {P : Nat → List Nat → Prop} (h : ∀ c row v, row ∈ A c → rowW P row v → P c v) {c : Nat} {v : List Nat} (hl : Lang A c v) : P c v := by
  obtain ⟨n, hl⟩ := hl
  induction n generalizing c v with
  | zero => exact hl.elim
  | succ n ih =>
    obtain ⟨row, hr, hl⟩ := hl
    exact h c row v hr (rowW_mono (fun c v h => ih h) row v hl)
/-- the signs of a grammar -/
def SG (c : Nat) : Prop := (97 ≤ c ∧ c ≤ 122) ∨ (65 ≤ c ∧ c ≤ 90)
def AOK (A : Alts) : Prop := ∀ c, ∀ row ∈ A c, ∀ s ∈ row, SG s
theorem cap_iff {c : Nat} : cap c = true ↔ 65 ≤ c ∧ c ≤ 90 := by simp [cap]
theorem rowW_WL {L : Nat → List Nat → Prop} (h : ∀ c v, L c v → WL v) : ∀ (r v : List Nat), (∀ s ∈ r, SG s) → rowW L r v → WL v
  | [], v, _, e => by rw [show v = [] from e]; exact WL_nil
  | c :: r, v, hs, ⟨v1, v2, e, h1, h2⟩ => by
    rw [e, WL_app]
    refine ⟨?_, rowW_WL h r v2 (fun s q => hs s (List.mem_cons_of_mem _ q)) h2⟩
    unfold stp at h1
    split at h1
    · exact h _ _ h1
    · rename_i q
      rw [cap_iff] at q
      rcases hs c (List.mem_cons_self ..) with z | z
      · rw [h1, WL_cons]; exact ⟨z, WL_nil⟩
      · exact absurd z q
theorem Lang_WL {A : Alts} (hA : AOK A) {c : Nat} {v : List Nat} (h : Lang A c v) : WL v := by
  obtain ⟨n, h⟩ := h
  induction n generalizing c v with
  | zero => exact h.elim
  | succ n ih =>
    obtain ⟨row, hr, h⟩ := h
    exact rowW_WL (fun c v h => ih h) row v (hA c row hr) h
/-! ===== places along a word ===== -/
def stS (P : Nat → Nat → Nat → Prop) (w : List Nat) (c p q : Nat) : Prop := if cap c = true then P c p q else w[p]? = some c ∧ q = p + 1
def rowS (P : Nat → Nat → Nat → Prop) (w : List Nat) : List Nat → Nat → Nat → Prop
  | [], p, q => p = q
  | c :: r, p, q => ∃ m, stS P w c p m ∧ rowS P w r m q
theorem rowS_snoc {P : Nat → Nat → Nat → Prop} {w : List Nat} {c : Nat} : ∀ (r : List Nat) (p q : Nat), rowS P w (r ++ [c]) p q ↔ ∃ m, rowS P w r p m ∧ stS P w c m q
  | [], p, q => ⟨fun ⟨m, h1, h2⟩ => ⟨p, rfl, by rw [← show m = q from h2]; exact h1⟩, fun ⟨m, h1, h2⟩ => ⟨q, by rw [show p = m from h1]; exact h2, rfl⟩⟩
  | a :: r, p, q => by
    constructor
    · rintro ⟨m, h1, h2⟩
      obtain ⟨k, h3, h4⟩ := (rowS_snoc r m q).mp h2
      exact ⟨k, ⟨m, h1, h3⟩, h4⟩
    · rintro ⟨k, ⟨m, h1, h3⟩, h4⟩
      exact ⟨m, h1, (rowS_snoc r m q).mpr ⟨k, h3, h4⟩⟩
theorem stS_mono {P P' : Nat → Nat → Nat → Prop} {w : List Nat} {c p q : Nat} (h : ∀ q, P c p q → P' c p q) (hs : stS P w c p q) : stS P' w c p q := by
  unfold stS at *
  split at hs
  · rename_i z; rw [if_pos z]; exact h _ hs
  · rename_i z; rw [if_neg z]; exact hs
/-- pieces that are words -/
def Spn (A : Alts) (w : List Nat) (c p q : Nat) : Prop := p ≤ q ∧ q ≤ w.length ∧ Lang A c (pc w p q)
theorem get_lt {w : List Nat} {p c : Nat} (h : w[p]? = some c) : p < w.length := by
  rcases Nat.lt_or_ge p w.length with q | q
  · exact q
  · rw [List.getElem?_eq_none q] at h; cases h
theorem rowS_sound {A : Alts} {P : Nat → Nat → Nat → Prop} {w : List Nat} (h : ∀ c p q, p ≤ w.length → P c p q → Spn A w c p q) : ∀ (r : List Nat) (p q : Nat), p ≤ w.length → rowS P w r p q → p ≤ q ∧ q ≤ w.length ∧ rowW (Lang A) r (pc w p q)
  | [], p, q, hp, e => by
    have e : p = q := e
    subst e
    exact ⟨Nat.le_refl _, hp, pc_nil⟩
  | c :: r, p, q, hp, ⟨m, h1, h2⟩ => by
    have key : p ≤ m ∧ m ≤ w.length ∧ stp (Lang A) c (pc w p m) := by
      unfold stS at h1
      unfold stp
      split at h1
      · rename_i z
        rw [if_pos z]
        exact h c p m hp h1
      · rename_i z
        rw [if_neg z]
        have := get_lt h1.1
        rw [h1.2]
        exact ⟨by omega, by omega, pc_one h1.1⟩
    obtain ⟨k1, k2, k3⟩ := rowS_sound h r m q key.2.1 h2
    exact ⟨by omega, k2, pc w p m, pc w m q, (pc_app key.1 k1 k2).symm, key.2.2, k3⟩
theorem Spn_row {A : Alts} {w : List Nat} {c p q : Nat} {row : List Nat} (hr : row ∈ A c) (hp : p ≤ w.length) (h : rowS (Spn A w) w row p q) : Spn A w c p q := by
  obtain ⟨h1, h2, h3⟩ := rowS_sound (fun c p q _ z => z) row p q hp h
  exact ⟨h1, h2, Lang_in hr h3⟩
theorem pc_split {w : List Nat} {p q : Nat} {v1 v2 : List Nat} (hp : p ≤ q) (hq : q ≤ w.length) (e : pc w p q = v1 ++ v2) : p + v1.length ≤ q ∧ v1 = pc w p (p + v1.length) ∧ v2 = pc w (p + v1.length) q := by
  have hl := congrArg List.length e
  rw [pc_len hq, List.length_append] at hl
  have h1 : p + v1.length ≤ q := by omega
  have e2 := pc_app (w := w) (show p ≤ p + v1.length by omega) h1 hq
  rw [e] at e2
  have e3 := List.append_inj e2 (by rw [pc_len (by omega)]; omega)
  exact ⟨h1, e3.1.symm, e3.2.symm⟩
theorem rowS_full {A : Alts} {P : Nat → Nat → Nat → Prop} {w : List Nat} {L : Nat → List Nat → Prop} (h : ∀ c p q, p ≤ q → q ≤ w.length → L c (pc w p q) → P c p q) : ∀ (r : List Nat) (p q : Nat), p ≤ q → q ≤ w.length → rowW L r (pc w p q) → rowS P w r p q
  | [], p, q, hp, hq, e => by
    have := congrArg List.length (show pc w p q = [] from e)
    rw [pc_len hq] at this
    show p = q
    simp at this
    omega
  | c :: r, p, q, hp, hq, ⟨v1, v2, e, h1, h2⟩ => by
    obtain ⟨k1, k2, k3⟩ := pc_split hp hq e
    refine ⟨p + v1.length, ?_, rowS_full (A := A) h r _ q k1 hq (by rw [← k3]; exact h2)⟩
    unfold stp at h1
    unfold stS
    split at h1
    · rename_i z
      rw [if_pos z]
      exact h c p _ (by omega) (by omega) (by rw [← k2]; exact h1)
    · rename_i z
      rw [if_neg z]
      have hl : v1.length = 1 := by rw [h1]; rfl
      rw [hl]
      refine ⟨?_, rfl⟩
      have g : (pc w p q)[0]? = some c := by rw [e, h1]; rfl
      rw [pc_get (by omega)] at g
      exact g
/-- what is closed has all pieces that are words -/
theorem Spn_full {A : Alts} {P : Nat → Nat → Nat → Prop} {w : List Nat} (h : ∀ c row p q, row ∈ A c → p ≤ w.length → rowS P w row p q → P c p q) {c p q : Nat} (hs : Spn A w c p q) : P c p q := by
  obtain ⟨h1, h2, n, h3⟩ := hs
  induction n generalizing c p q with
  | zero => exact h3.elim
  | succ n ih =>
    obtain ⟨row, hr, h3⟩ := h3
    exact h c row p q hr (by omega) (rowS_full (A := A) (L := lng A n) (fun c p q a b z => @ih c p q a b z) row p q h1 h2 h3)
theorem Spn_all {A : Alts} {w : List Nat} {c : Nat} : Spn A w c 0 w.length ↔ Lang A c w := by
  unfold Spn
  rw [pc_all]
  exact ⟨fun h => h.2.2, fun h => ⟨Nat.zero_le _, Nat.le_refl _, h⟩⟩
