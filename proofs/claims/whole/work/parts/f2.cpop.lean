/-! ===== bits counted, all of them ===== -/
theorem y_ush {x k : Nat} (hx : x < 2 ^ 32) (hk : k = 1 ∨ k = 2 ∨ k = 4 ∨ k = 8 ∨ k = 16) : ((nI x).toUInt32 >>> ((nI k).toUInt32 &&& Int32.toUInt32 31)).toInt32 = nI (x / 2 ^ k) := by
  apply Int32.toBitVec_inj.mp
  have e : ∀ s : UInt32, s.toBitVec % 32 = BitVec.ofNat 32 k → ((nI x).toUInt32 >>> s).toInt32.toBitVec = (nI (x / 2 ^ k)).toBitVec := by
    intro s hs
    show ((nI x).toUInt32 >>> s).toBitVec = _
    rw [UInt32.toBitVec_shiftRight, hs]
    apply BitVec.eq_of_toNat_eq
    rw [BitVec.ushiftRight_eq', BitVec.toNat_ushiftRight, BitVec.toNat_ofNat, Nat.mod_eq_of_lt (show k < 2 ^ 32 by omega), Nat.shiftRight_eq_div_pow]
    show (BitVec.ofNat 32 x).toNat / 2 ^ k = (BitVec.ofNat 32 (x / 2 ^ k)).toNat
    rw [BitVec.toNat_ofNat, BitVec.toNat_ofNat, Nat.mod_eq_of_lt hx, Nat.mod_eq_of_lt (Nat.lt_of_le_of_lt (Nat.div_le_self ..) hx)]
  rcases hk with e1 | e1 | e1 | e1 | e1 <;> subst e1 <;> exact e _ (by decide)
theorem and_sp {b a m n : Nat} (ha : a < 256) (hn : n < 256) : (256 * b + a) &&& (256 * m + n) = 256 * (b &&& m) + (a &&& n) := by
  have han : a &&& n < 2 ^ 8 := Nat.lt_of_le_of_lt Nat.and_le_left ha
  apply Nat.eq_of_testBit_eq
  intro i
  rw [Nat.testBit_and, show (256 : Nat) = 2 ^ 8 by decide, Nat.testBit_two_pow_mul_add _ ha, Nat.testBit_two_pow_mul_add _ hn, Nat.testBit_two_pow_mul_add _ han]
  by_cases z : i < 8
  · rw [if_pos z, if_pos z, if_pos z, Nat.testBit_and]
  · rw [if_neg z, if_neg z, if_neg z, Nat.testBit_and]
def g1 (a : Nat) : Nat := a - ((a / 2) &&& 85)
def g2 (a : Nat) : Nat := (a &&& 51) + ((a / 4) &&& 51)
def p8 (a : Nat) : Nat := a % 256 / 2 ^ 0 % 2 + a % 256 / 2 ^ 1 % 2 + a % 256 / 2 ^ 2 % 2 + a % 256 / 2 ^ 3 % 2 + a % 256 / 2 ^ 4 % 2 + a % 256 / 2 ^ 5 % 2 + a % 256 / 2 ^ 6 % 2 + a % 256 / 2 ^ 7 % 2
theorem g_ok : ∀ a, a < 256 → g1 a < 256 ∧ g2 (g1 a) < 256 ∧ g2 (g1 a) % 16 ≤ 4 ∧ g2 (g1 a) / 16 ≤ 4 ∧ g2 (g1 a) % 16 + g2 (g1 a) / 16 = p8 a ∧ p8 a ≤ 8 := by decide +kernel
theorem c85 : ∀ a, a < 256 → ∀ e, e < 2 → (128 * e + a / 2) &&& 85 = (a / 2) &&& 85 := by decide +kernel
theorem c51 : ∀ a, a < 256 → ∀ e, e < 4 → (64 * e + a / 4) &&& 51 = (a / 4) &&& 51 := by decide +kernel
theorem t1 {b a m : Nat} (ha : a < 256) : (256 * b + a) - (((256 * b + a) / 2) &&& (256 * m + 85)) = 256 * (b - ((b / 2) &&& m)) + g1 a := by
  rw [show (256 * b + a) / 2 = 256 * (b / 2) + (128 * (b % 2) + a / 2) by omega, and_sp (by omega) (by decide), c85 a ha _ (by omega)]
  have h1 : (b / 2) &&& m ≤ b / 2 := Nat.and_le_left
  have h2 : (a / 2) &&& 85 ≤ a / 2 := Nat.and_le_left
  unfold g1
  omega
theorem t2 {b a m : Nat} (ha : a < 256) : ((256 * b + a) &&& (256 * m + 51)) + (((256 * b + a) / 4) &&& (256 * m + 51)) = 256 * ((b &&& m) + ((b / 4) &&& m)) + g2 a := by
  rw [show (256 * b + a) / 4 = 256 * (b / 4) + (64 * (b % 4) + a / 4) by omega, and_sp ha (by decide), and_sp (by omega) (by decide), c51 a ha _ (by omega)]
  unfold g2
  omega
theorem t3 {b a m : Nat} (h1 : a % 16 ≤ 4) (h2 : a / 16 ≤ 4) (h3 : b % 16 ≤ 4) : ((256 * b + a) + (256 * b + a) / 16) &&& (256 * m + 15) = 256 * ((b + b / 16) &&& m) + (a % 16 + a / 16) := by
  rw [show (256 * b + a) + (256 * b + a) / 16 = 256 * (b + b / 16) + (a + a / 16 + 16 * (b % 16)) by omega, and_sp (by omega) (by decide), show (15 : Nat) = 2 ^ 4 - 1 by decide, Nat.and_two_pow_sub_one_eq_mod]
  omega
