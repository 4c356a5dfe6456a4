/-! ===== words of small letters, and their numbers ===== -/
def WL (w : List Nat) : Prop := ∀ c ∈ w, 97 ≤ c ∧ c ≤ 122
theorem WL_nil : WL [] := fun c h => by cases h
theorem WL_cons {c : Nat} {w : List Nat} : WL (c :: w) ↔ (97 ≤ c ∧ c ≤ 122) ∧ WL w := by simp [WL]
theorem WL_app {u v : List Nat} : WL (u ++ v) ↔ WL u ∧ WL v := by
  simp only [WL, List.mem_append]
  exact ⟨fun h => ⟨fun c hc => h c (Or.inl hc), fun c hc => h c (Or.inr hc)⟩, fun h c hc => hc.elim (h.1 c) (h.2 c)⟩
theorem WL_sub {u v : List Nat} (h : ∀ c ∈ u, c ∈ v) (hv : WL v) : WL u := fun c hc => hv c (h c hc)
theorem WL_take {w : List Nat} (n : Nat) (h : WL w) : WL (w.take n) := WL_sub (fun _ hc => List.mem_of_mem_take hc) h
theorem WL_drop {w : List Nat} (n : Nat) (h : WL w) : WL (w.drop n) := WL_sub (fun _ hc => List.mem_of_mem_drop hc) h
def cd (w : List Nat) : Nat := w.foldl (fun r c => r * 32 + (c - 96)) 0
theorem cd_fold (v : List Nat) : ∀ a, v.foldl (fun r c => r * 32 + (c - 96)) a = a * 32 ^ v.length + cd v := by
  induction v with
  | nil => intro a; simp [cd]
  | cons c v ih =>
    intro a
    have e1 := ih (a * 32 + (c - 96))
    have e2 := ih (0 * 32 + (c - 96))
    simp only [cd, List.foldl_cons, List.length_cons] at *
    rw [e1, e2]
    rw [Nat.add_mul, Nat.pow_succ, Nat.mul_assoc, Nat.mul_comm 32, Nat.zero_mul, Nat.zero_add, Nat.add_assoc]
theorem cd_nil : cd [] = 0 := rfl
theorem cd_app (u v : List Nat) : cd (u ++ v) = cd u * 32 ^ v.length + cd v := by
  rw [show cd (u ++ v) = v.foldl (fun r c => r * 32 + (c - 96)) (cd u) from List.foldl_append, cd_fold]
theorem cd_one (c : Nat) : cd [c] = c - 96 := by simp [cd]
theorem cd_snoc (u : List Nat) (c : Nat) : cd (u ++ [c]) = cd u * 32 + (c - 96) := by
  rw [cd_app, cd_one]; rfl
theorem cd_cons (c : Nat) (w : List Nat) : cd (c :: w) = (c - 96) * 32 ^ w.length + cd w := by
  rw [show c :: w = [c] ++ w from rfl, cd_app, cd_one]
theorem p32 (n : Nat) : 0 < 32 ^ n := Nat.pow_pos (by decide)
theorem cd_lt {w : List Nat} (h : WL w) : cd w < 32 ^ w.length := by
  induction w with
  | nil => simp [cd]
  | cons c w ih =>
    rw [WL_cons] at h
    have h1 := ih h.2
    rw [cd_cons, List.length_cons, Nat.pow_succ]
    have h2 : (c - 96) * 32 ^ w.length ≤ 26 * 32 ^ w.length := Nat.mul_le_mul_right _ (by omega)
    omega
theorem cd_ge {w : List Nat} (h : WL w) (hn : 0 < w.length) : 32 ^ (w.length - 1) ≤ cd w := by
  cases w with
  | nil => simp at hn
  | cons c w =>
    rw [WL_cons] at h
    rw [cd_cons, List.length_cons, Nat.add_sub_cancel]
    have h2 : 1 * 32 ^ w.length ≤ (c - 96) * 32 ^ w.length := Nat.mul_le_mul_right _ (by omega)
    omega
theorem p32_le {a b : Nat} (h : a ≤ b) : 32 ^ a ≤ 32 ^ b := Nat.pow_le_pow_right (by decide) h
theorem cd_lt_len {u v : List Nat} (hu : WL u) (hv : WL v) (h : u.length < v.length) : cd u < cd v := by
  have h1 := cd_lt hu
  have h2 := cd_ge hv (by omega)
  have h3 := p32_le (show u.length ≤ v.length - 1 by omega)
  omega
theorem cd_len {u v : List Nat} (hu : WL u) (hv : WL v) (h : cd u ≤ cd v) : u.length ≤ v.length := by
  rcases Nat.lt_or_ge v.length u.length with q | q
  · have := cd_lt_len hv hu q
    omega
  · exact q
theorem cd_div {u v : List Nat} (hv : WL v) : cd (u ++ v) / 32 ^ v.length = cd u := by
  rw [cd_app, Nat.mul_comm, Nat.mul_add_div (p32 _), Nat.div_eq_of_lt (cd_lt hv), Nat.add_zero]
theorem cd_mod {u v : List Nat} (hv : WL v) : cd (u ++ v) % 32 ^ v.length = cd v := by
  rw [cd_app, Nat.mul_comm, Nat.mul_add_mod, Nat.mod_eq_of_lt (cd_lt hv)]
theorem cd_inj {u : List Nat} : ∀ {v : List Nat}, WL u → WL v → cd u = cd v → u = v := by
  induction u with
  | nil =>
    intro v hu hv h
    cases v with
    | nil => rfl
    | cons c v =>
      have := cd_len hv hu (by omega)
      simp at this
  | cons a u ih =>
    intro v hu hv h
    cases v with
    | nil =>
      have := cd_len hu hv (by omega)
      simp at this
    | cons c v =>
      have l1 := cd_len hu hv (by omega)
      have l2 := cd_len hv hu (by omega)
      simp only [List.length_cons] at l1 l2
      have hl : u.length = v.length := by omega
      have hu' := hu
      have hv' := hv
      rw [WL_cons] at hu hv
      have d1 : cd (a :: u) / 32 ^ u.length = cd [a] := cd_div (u := [a]) hu.2
      have d2 : cd (c :: v) / 32 ^ v.length = cd [c] := cd_div (u := [c]) hv.2
      have m1 : cd (a :: u) % 32 ^ u.length = cd u := cd_mod (u := [a]) hu.2
      have m2 : cd (c :: v) % 32 ^ v.length = cd v := cd_mod (u := [c]) hv.2
      rw [h, hl, d2, cd_one, cd_one] at d1
      rw [h, hl, m2] at m1
      have : a = c := by omega
      rw [this, ih hu.2 hv.2 m1.symm]
theorem cd_0 {w : List Nat} (h : WL w) : cd w = 0 ↔ w = [] := ⟨fun e => cd_inj h WL_nil e, fun e => by rw [e]; rfl⟩
/-- words before others stay so with the same word behind them, or ahead -/
theorem cd_monoL {a b v : List Nat} (h : cd a < cd b) : cd (a ++ v) < cd (b ++ v) := by
  rw [cd_app, cd_app]
  have := (Nat.mul_lt_mul_right (a := 32 ^ v.length) (p32 _)).mpr h
  omega
theorem cd_monoR {u a b : List Nat} (ha : WL a) (hb : WL b) (h : cd a < cd b) : cd (u ++ a) < cd (u ++ b) := by
  rw [cd_app, cd_app]
  have h1 := p32_le (cd_len ha hb (Nat.le_of_lt h))
  have := Nat.mul_le_mul_left (cd u) h1
  omega
/-- a piece of a word -/
def pc (w : List Nat) (p q : Nat) : List Nat := (w.take q).drop p
theorem pc_len {w : List Nat} {p q : Nat} (hq : q ≤ w.length) : (pc w p q).length = q - p := by simp [pc, Nat.min_eq_left hq]
theorem pc_app {w : List Nat} {p q r : Nat} (h1 : p ≤ q) (h2 : q ≤ r) (h3 : r ≤ w.length) : pc w p q ++ pc w q r = pc w p r := by
  apply List.ext_getElem?
  intro i
  simp only [pc, List.getElem?_append, List.getElem?_drop, List.getElem?_take, List.length_drop, List.length_take, Nat.min_eq_left (show q ≤ w.length by omega)]
  by_cases hi : i < q - p
  · rw [if_pos hi, if_pos (show p + i < q by omega), if_pos (show p + i < r by omega)]
  · rw [if_neg hi, show q + (i - (q - p)) = p + i by omega]
theorem pc_WL {w : List Nat} {p q : Nat} (h : WL w) : WL (pc w p q) := WL_drop p (WL_take q h)
theorem pc_all (w : List Nat) : pc w 0 w.length = w := by simp [pc]
theorem pc_nil {w : List Nat} {p : Nat} : pc w p p = [] := by
  apply List.eq_nil_of_length_eq_zero
  simp [pc]
theorem pc_get {w : List Nat} {p q i : Nat} (h : p + i < q) : (pc w p q)[i]? = w[p + i]? := by
  simp [pc, h]
theorem pc_one {w : List Nat} {p c : Nat} (h : w[p]? = some c) : pc w p (p + 1) = [c] := by
  have hp : p < w.length := by
    rcases Nat.lt_or_ge p w.length with q | q
    · exact q
    · rw [List.getElem?_eq_none q] at h; cases h
  apply List.ext_getElem?
  intro i
  cases i with
  | zero => rw [pc_get (by omega)]; simpa using h
  | succ i => rw [List.getElem?_eq_none (by rw [pc_len (by omega)]; omega)]; simp
/-- the number of a piece: shifted, masked -/
theorem cd_pc {w : List Nat} {p q : Nat} (h : WL w) (h1 : p ≤ q) (h2 : q ≤ w.length) : cd w / 32 ^ (w.length - q) % 32 ^ (q - p) = cd (pc w p q) := by
  have e : w = pc w 0 q ++ pc w q w.length := by rw [pc_app (by omega) h2 (by omega), pc_all]
  have e2 : cd w / 32 ^ (w.length - q) = cd (pc w 0 q) := by
    have := cd_div (u := pc w 0 q) (v := pc w q w.length) (pc_WL h)
    rw [← e, pc_len (by omega)] at this
    exact this
  rw [e2, ← pc_app (by omega : 0 ≤ p) h1 h2]
  have := cd_mod (u := pc w 0 p) (v := pc w p q) (pc_WL h)
  rw [pc_len (by omega)] at this
  exact this
theorem cd_at {w : List Nat} {i c : Nat} (h : WL w) (hc : w[i]? = some c) : cd w / 32 ^ (w.length - 1 - i) % 32 = c - 96 := by
  have hp : i < w.length := by
    rcases Nat.lt_or_ge i w.length with q | q
    · exact q
    · rw [List.getElem?_eq_none q] at hc; cases hc
  have := cd_pc (p := i) (q := i + 1) h (by omega) (by omega)
  rw [pc_one hc, cd_one, show w.length - (i + 1) = w.length - 1 - i by omega, show i + 1 - i = 1 by omega] at this
  exact this
