/-! ===== bits counted: the whole ===== -/
theorem o_et {t : Nat} (ht : t < 2 ^ 31) : t = 256 * (256 * (256 * (256 * 0 + t / 16777216 % 256) + t / 65536 % 256) + t / 256 % 256) + t % 256 := by omega
theorem o_lt {a b c d X : Nat} (ha : a < 256) (hb : b < 256) (hc : c < 256) (hd : d < 256) (hX : X = 256 * (256 * (256 * (256 * 0 + d) + c) + b) + a) : X < 2 ^ 32 := by omega
theorem o_q {p c : Nat} (b : Nat) (h : p % 16 ≤ c) : (256 * b + p) % 16 ≤ c := by omega
theorem o_s5 {c0 c1 c2 c3 X : Nat} (h0 : c0 ≤ 8) (h1 : c1 ≤ 8) (h2 : c2 ≤ 8) (h3 : c3 ≤ 8) (hX : X = 256 * (256 * (256 * (256 * 0 + c3) + c2) + c1) + c0) : ((X + X / 256) + (X + X / 256) / 65536) % 64 = c0 + c1 + c2 + c3 ∧ X + X / 256 < 2 ^ 32 := by
  have e1 : X / 256 = 65536 * c3 + 256 * c2 + c1 := by omega
  rw [e1]
  have e2 : X + (65536 * c3 + 256 * c2 + c1) = 16777216 * c3 + 65536 * (c3 + c2) + 256 * (c2 + c1) + (c1 + c0) := by omega
  rw [e2]
  have e3 : (16777216 * c3 + 65536 * (c3 + c2) + 256 * (c2 + c1) + (c1 + c0)) / 65536 = 256 * c3 + (c3 + c2) := by omega
  rw [e3]
  clear hX e1 e2 e3
  omega
theorem bc_pop {t : Nat} (ht : t < 2 ^ 31) : bcF (nI t) = nI (p8 t + p8 (t / 256) + p8 (t / 65536) + p8 (t / 16777216)) := by
  obtain ⟨b0, e0⟩ : ∃ b, b = t % 256 := ⟨_, rfl⟩
  obtain ⟨b1, e1⟩ : ∃ b, b = t / 256 % 256 := ⟨_, rfl⟩
  obtain ⟨b2, e2⟩ : ∃ b, b = t / 65536 % 256 := ⟨_, rfl⟩
  obtain ⟨b3, e3⟩ : ∃ b, b = t / 16777216 % 256 := ⟨_, rfl⟩
  have et : t = 256 * (256 * (256 * (256 * 0 + b3) + b2) + b1) + b0 := by rw [e0, e1, e2, e3]; exact o_et ht
  have pe : ∀ x, p8 (x % 256) = p8 x := fun x => by unfold p8; rw [Nat.mod_mod]
  have l0 : b0 < 256 := by rw [e0]; exact Nat.mod_lt _ (by decide)
  have l1 : b1 < 256 := by rw [e1]; exact Nat.mod_lt _ (by decide)
  have l2 : b2 < 256 := by rw [e2]; exact Nat.mod_lt _ (by decide)
  have l3 : b3 < 256 := by rw [e3]; exact Nat.mod_lt _ (by decide)
  obtain ⟨u0, v0, w0, x0, y0, z0⟩ := g_ok b0 l0
  obtain ⟨u1, v1, w1, x1, y1, z1⟩ := g_ok b1 l1
  obtain ⟨u2', v2, w2, x2, y2, z2⟩ := g_ok b2 l2
  obtain ⟨u3, v3, w3, x3, y3, z3⟩ := g_ok b3 l3
  rw [← pe t, ← pe (t / 256), ← pe (t / 65536), ← pe (t / 16777216), ← e0, ← e1, ← e2, ← e3]
  -- the first two steps
  have s1 : t - ((t / 2) &&& 1431655765) = 256 * (256 * (256 * (256 * 0 + g1 b3) + g1 b2) + g1 b1) + g1 b0 := by
    rw [et, show (1431655765 : Nat) = 256 * (256 * (256 * (256 * 0 + 85) + 85) + 85) + 85 by decide, t1 l0, t1 l1, t1 l2, t1 l3, show 0 - ((0 / 2) &&& 0) = 0 by decide]
  generalize hX1 : t - ((t / 2) &&& 1431655765) = X1 at *
  have s2 : (X1 &&& 858993459) + ((X1 / 4) &&& 858993459) = 256 * (256 * (256 * (256 * 0 + g2 (g1 b3)) + g2 (g1 b2)) + g2 (g1 b1)) + g2 (g1 b0) := by
    rw [s1, show (858993459 : Nat) = 256 * (256 * (256 * (256 * 0 + 51) + 51) + 51) + 51 by decide, t2 u0, t2 u1, t2 u2', t2 u3, show (0 &&& 0) + ((0 / 4) &&& 0) = 0 by decide]
  have b1' : X1 < 2 ^ 32 := o_lt u0 u1 u2' u3 s1
  generalize hX2 : (X1 &&& 858993459) + ((X1 / 4) &&& 858993459) = X2 at *
  have s3 : (X2 + X2 / 16) &&& 252645135 = 256 * (256 * (256 * (256 * 0 + p8 b3) + p8 b2) + p8 b1) + p8 b0 := by
    rw [s2, show (252645135 : Nat) = 256 * (256 * (256 * (256 * 0 + 15) + 15) + 15) + 15 by decide, t3 w0 x0 (o_q _ w1), t3 w1 x1 (o_q _ w2), t3 w2 x2 (o_q _ w3), t3 w3 x3 (by decide), y0, y1, y2, y3, show (0 + 0 / 16) &&& 0 = 0 by decide]
  have b2' : X2 < 2 ^ 32 := o_lt v0 v1 v2 v3 s2
  generalize hX3 : (X2 + X2 / 16) &&& 252645135 = X3 at *
  have b3' : X3 < 2 ^ 32 := Nat.lt_of_le_of_lt (Nat.le_add_right _ _) (o_s5 z0 z1 z2 z3 s3).2
  have b4' : X3 + X3 / 256 < 2 ^ 32 := (o_s5 z0 z1 z2 z3 s3).2
  have s5 : ((X3 + X3 / 256) + (X3 + X3 / 256) / 65536) &&& 63 = p8 b0 + p8 b1 + p8 b2 + p8 b3 := by
    rw [show (63 : Nat) = 2 ^ 6 - 1 by decide, Nat.and_two_pow_sub_one_eq_mod]
    exact (o_s5 z0 z1 z2 z3 s3).1
  have a1 : X1 = t - ((t / 2 ^ 1) &&& 1431655765) := hX1.symm
  have a2 : X2 = (X1 &&& 858993459) + ((X1 / 2 ^ 2) &&& 858993459) := hX2.symm
  have a3 : X3 = (X2 + X2 / 2 ^ 4) &&& 252645135 := hX3.symm
  clear s1 s2 s3 hX1 hX2 hX3
  have c1 : nI t - (((nI t).toUInt32 >>> ((nI 1).toUInt32 &&& Int32.toUInt32 31)).toInt32 &&& nI 1431655765) = nI X1 := by
    rw [y_ush (Nat.lt_trans ht (by decide)) (Or.inl rfl), y_and, pk_sub (Nat.le_trans Nat.and_le_left (Nat.div_le_self ..)), a1]
  have c2 : (nI X1 &&& nI 858993459) + (((nI X1).toUInt32 >>> ((nI 2).toUInt32 &&& Int32.toUInt32 31)).toInt32 &&& nI 858993459) = nI X2 := by
    rw [y_ush b1' (Or.inr (Or.inl rfl)), y_and, y_and, nI_add, a2]
  have c3 : (nI X2 + ((nI X2).toUInt32 >>> ((nI 4).toUInt32 &&& Int32.toUInt32 31)).toInt32) &&& nI 252645135 = nI X3 := by
    rw [y_ush b2' (Or.inr (Or.inr (Or.inl rfl))), nI_add, y_and, a3]
  have c4 : nI X3 + ((nI X3).toUInt32 >>> ((nI 8).toUInt32 &&& Int32.toUInt32 31)).toInt32 = nI (X3 + X3 / 256) := by
    rw [y_ush b3' (Or.inr (Or.inr (Or.inr (Or.inl rfl)))), nI_add]
  have c5 : (nI (X3 + X3 / 256) + ((nI (X3 + X3 / 256)).toUInt32 >>> ((nI 16).toUInt32 &&& Int32.toUInt32 31)).toInt32) &&& nI 63 = nI (p8 b0 + p8 b1 + p8 b2 + p8 b3) := by
    rw [y_ush b4' (Or.inr (Or.inr (Or.inr (Or.inr rfl)))), nI_add, y_and]
    exact congrArg nI s5
  unfold bcF
  simp only [c1, c2, c3, c4, c5]
