/-! ===== instructions ===== -/
theorem i_X0 : ∀ w ∈ u_ws RX0 TX0 11, w ∈ TB := List.forall_mem_cons.mpr ⟨q_441, List.forall_mem_cons.mpr ⟨q_442, List.forall_mem_cons.mpr ⟨q_443, List.forall_mem_cons.mpr ⟨q_444, List.forall_mem_cons.mpr ⟨q_445, List.forall_mem_cons.mpr ⟨q_446, List.forall_mem_cons.mpr ⟨q_447, List.forall_mem_cons.mpr ⟨q_448, List.forall_mem_cons.mpr ⟨q_449, List.forall_mem_cons.mpr ⟨q_450, List.forall_mem_cons.mpr ⟨q_451, fun _ h => absurd h List.not_mem_nil⟩⟩⟩⟩⟩⟩⟩⟩⟩⟩⟩
theorem i_X1 : ∀ w ∈ u_ws RX1 TX1 2, w ∈ TB := List.forall_mem_cons.mpr ⟨q_485, List.forall_mem_cons.mpr ⟨q_486, fun _ h => absurd h List.not_mem_nil⟩⟩
theorem i_X2 : ∀ w ∈ u_ws RX2 TX2 12, w ∈ TB := List.forall_mem_cons.mpr ⟨q_208, List.forall_mem_cons.mpr ⟨q_209, List.forall_mem_cons.mpr ⟨q_210, List.forall_mem_cons.mpr ⟨q_211, List.forall_mem_cons.mpr ⟨q_212, List.forall_mem_cons.mpr ⟨q_213, List.forall_mem_cons.mpr ⟨q_214, List.forall_mem_cons.mpr ⟨q_215, List.forall_mem_cons.mpr ⟨q_216, List.forall_mem_cons.mpr ⟨q_217, List.forall_mem_cons.mpr ⟨q_218, List.forall_mem_cons.mpr ⟨q_219, fun _ h => absurd h List.not_mem_nil⟩⟩⟩⟩⟩⟩⟩⟩⟩⟩⟩⟩
theorem i_X3 : ∀ w ∈ u_ws RX3 TX3 11, w ∈ TB := List.forall_mem_cons.mpr ⟨q_818, List.forall_mem_cons.mpr ⟨q_819, List.forall_mem_cons.mpr ⟨q_820, List.forall_mem_cons.mpr ⟨q_821, List.forall_mem_cons.mpr ⟨q_822, List.forall_mem_cons.mpr ⟨q_823, List.forall_mem_cons.mpr ⟨q_824, List.forall_mem_cons.mpr ⟨q_825, List.forall_mem_cons.mpr ⟨q_826, List.forall_mem_cons.mpr ⟨q_827, List.forall_mem_cons.mpr ⟨q_828, fun _ h => absurd h List.not_mem_nil⟩⟩⟩⟩⟩⟩⟩⟩⟩⟩⟩
theorem i_X4 : ∀ w ∈ u_ws RX4 TX4 9, w ∈ TB := List.forall_mem_cons.mpr ⟨q_156, List.forall_mem_cons.mpr ⟨q_157, List.forall_mem_cons.mpr ⟨q_158, List.forall_mem_cons.mpr ⟨q_159, List.forall_mem_cons.mpr ⟨q_160, List.forall_mem_cons.mpr ⟨q_161, List.forall_mem_cons.mpr ⟨q_162, List.forall_mem_cons.mpr ⟨q_163, List.forall_mem_cons.mpr ⟨q_164, fun _ h => absurd h List.not_mem_nil⟩⟩⟩⟩⟩⟩⟩⟩⟩
theorem i_X5 : ∀ w ∈ u_ws RX1 TX1 0, w ∈ TB := fun _ h => absurd h List.not_mem_nil
theorem i_X6 : ∀ w ∈ u_ws RX6 TX6 5, w ∈ TB := List.forall_mem_cons.mpr ⟨q_404, List.forall_mem_cons.mpr ⟨q_405, List.forall_mem_cons.mpr ⟨q_406, List.forall_mem_cons.mpr ⟨q_407, List.forall_mem_cons.mpr ⟨q_408, fun _ h => absurd h List.not_mem_nil⟩⟩⟩⟩⟩
theorem i_X7 : ∀ w ∈ u_ws RX7 TX7 11, w ∈ TB := List.forall_mem_cons.mpr ⟨q_244, List.forall_mem_cons.mpr ⟨q_245, List.forall_mem_cons.mpr ⟨q_246, List.forall_mem_cons.mpr ⟨q_247, List.forall_mem_cons.mpr ⟨q_248, List.forall_mem_cons.mpr ⟨q_249, List.forall_mem_cons.mpr ⟨q_250, List.forall_mem_cons.mpr ⟨q_251, List.forall_mem_cons.mpr ⟨q_252, List.forall_mem_cons.mpr ⟨q_253, List.forall_mem_cons.mpr ⟨q_254, fun _ h => absurd h List.not_mem_nil⟩⟩⟩⟩⟩⟩⟩⟩⟩⟩⟩
theorem i_X8 : ∀ w ∈ u_ws RX8 TX8 3, w ∈ TB := List.forall_mem_cons.mpr ⟨q_599, List.forall_mem_cons.mpr ⟨q_600, List.forall_mem_cons.mpr ⟨q_601, fun _ h => absurd h List.not_mem_nil⟩⟩⟩
theorem i_X9 : ∀ w ∈ u_ws RX9 TX9 4, w ∈ TB := List.forall_mem_cons.mpr ⟨q_184, List.forall_mem_cons.mpr ⟨q_185, List.forall_mem_cons.mpr ⟨q_186, List.forall_mem_cons.mpr ⟨q_187, fun _ h => absurd h List.not_mem_nil⟩⟩⟩⟩
theorem i_X10 : ∀ w ∈ u_ws RX10 TX10 7, w ∈ TB := List.forall_mem_cons.mpr ⟨q_138, List.forall_mem_cons.mpr ⟨q_139, List.forall_mem_cons.mpr ⟨q_140, List.forall_mem_cons.mpr ⟨q_141, List.forall_mem_cons.mpr ⟨q_142, List.forall_mem_cons.mpr ⟨q_143, List.forall_mem_cons.mpr ⟨q_144, fun _ h => absurd h List.not_mem_nil⟩⟩⟩⟩⟩⟩⟩
theorem i_X11 : ∀ w ∈ u_ws RX11 TX11 16, w ∈ TB := List.forall_mem_cons.mpr ⟨q_271, List.forall_mem_cons.mpr ⟨q_272, List.forall_mem_cons.mpr ⟨q_273, List.forall_mem_cons.mpr ⟨q_274, List.forall_mem_cons.mpr ⟨q_275, List.forall_mem_cons.mpr ⟨q_276, List.forall_mem_cons.mpr ⟨q_277, List.forall_mem_cons.mpr ⟨q_278, List.forall_mem_cons.mpr ⟨q_279, List.forall_mem_cons.mpr ⟨q_280, List.forall_mem_cons.mpr ⟨q_281, List.forall_mem_cons.mpr ⟨q_282, List.forall_mem_cons.mpr ⟨q_283, List.forall_mem_cons.mpr ⟨q_284, List.forall_mem_cons.mpr ⟨q_285, List.forall_mem_cons.mpr ⟨q_286, fun _ h => absurd h List.not_mem_nil⟩⟩⟩⟩⟩⟩⟩⟩⟩⟩⟩⟩⟩⟩⟩⟩
theorem i_X12 : ∀ w ∈ u_ws RX12 TX12 52, w ∈ TB := List.forall_mem_cons.mpr ⟨q_984, List.forall_mem_cons.mpr ⟨q_985, List.forall_mem_cons.mpr ⟨q_986, List.forall_mem_cons.mpr ⟨q_987, List.forall_mem_cons.mpr ⟨q_988, List.forall_mem_cons.mpr ⟨q_989, List.forall_mem_cons.mpr ⟨q_990, List.forall_mem_cons.mpr ⟨q_991, List.forall_mem_cons.mpr ⟨q_992, List.forall_mem_cons.mpr ⟨q_993, List.forall_mem_cons.mpr ⟨q_994, List.forall_mem_cons.mpr ⟨q_995, List.forall_mem_cons.mpr ⟨q_996, List.forall_mem_cons.mpr ⟨q_997, List.forall_mem_cons.mpr ⟨q_998, List.forall_mem_cons.mpr ⟨q_999, List.forall_mem_cons.mpr ⟨q_1000, List.forall_mem_cons.mpr ⟨q_1001, List.forall_mem_cons.mpr ⟨q_1002, List.forall_mem_cons.mpr ⟨q_1003, List.forall_mem_cons.mpr ⟨q_1004, List.forall_mem_cons.mpr ⟨q_1005, List.forall_mem_cons.mpr ⟨q_1006, List.forall_mem_cons.mpr ⟨q_1007, List.forall_mem_cons.mpr ⟨q_1008, List.forall_mem_cons.mpr ⟨q_1009, List.forall_mem_cons.mpr ⟨q_1010, List.forall_mem_cons.mpr ⟨q_1011, List.forall_mem_cons.mpr ⟨q_1012, List.forall_mem_cons.mpr ⟨q_1013, List.forall_mem_cons.mpr ⟨q_1014, List.forall_mem_cons.mpr ⟨q_1015, List.forall_mem_cons.mpr ⟨q_1016, List.forall_mem_cons.mpr ⟨q_1017, List.forall_mem_cons.mpr ⟨q_1018, List.forall_mem_cons.mpr ⟨q_1019, List.forall_mem_cons.mpr ⟨q_1020, List.forall_mem_cons.mpr ⟨q_1021, List.forall_mem_cons.mpr ⟨q_1022, List.forall_mem_cons.mpr ⟨q_1023, List.forall_mem_cons.mpr ⟨q_1024, List.forall_mem_cons.mpr ⟨q_1025, List.forall_mem_cons.mpr ⟨q_1026, List.forall_mem_cons.mpr ⟨q_1027, List.forall_mem_cons.mpr ⟨q_1028, List.forall_mem_cons.mpr ⟨q_1029, List.forall_mem_cons.mpr ⟨q_1030, List.forall_mem_cons.mpr ⟨q_1031, List.forall_mem_cons.mpr ⟨q_1032, List.forall_mem_cons.mpr ⟨q_1033, List.forall_mem_cons.mpr ⟨q_1034, List.forall_mem_cons.mpr ⟨q_1035, fun _ h => absurd h List.not_mem_nil⟩⟩⟩⟩⟩⟩⟩⟩⟩⟩⟩⟩⟩⟩⟩⟩⟩⟩⟩⟩⟩⟩⟩⟩⟩⟩⟩⟩⟩⟩⟩⟩⟩⟩⟩⟩⟩⟩⟩⟩⟩⟩⟩⟩⟩⟩⟩⟩⟩⟩⟩⟩
theorem cls_in : ∀ (c : Nat) (r : vw_C), classes[c]? = some r → ∀ w ∈ u_ws r.1 r.2.1 r.2.2, w ∈ TB := by
  intro c r h
  match c, h with
  | 0, h => cases h; exact i_X0
  | 1, h => cases h; exact i_X1
  | 2, h => cases h; exact i_X2
  | 3, h => cases h; exact i_X3
  | 4, h => cases h; exact i_X4
  | 5, h => cases h; exact i_X5
  | 6, h => cases h; exact i_X6
  | 7, h => cases h; exact i_X7
  | 8, h => cases h; exact i_X8
  | 9, h => cases h; exact i_X9
  | 10, h => cases h; exact i_X10
  | 11, h => cases h; exact i_X11
  | 12, h => cases h; exact i_X12
  | c + 13, h => simp [classes] at h
theorem cls_ty : ∀ (c : Nat) (r : vw_C), classes[c]? = some r → ∀ k, k < r.2.2 → parseFieldDescriptor (r.2.1 k).2.2.1 = some (fty c k) := by
  intro c r h
  match c, h with
  | 0, h => cases h; exact tyX0_ok
  | 1, h => cases h; exact tyX1_ok
  | 2, h => cases h; exact tyX2_ok
  | 3, h => cases h; exact tyX3_ok
  | 4, h => cases h; exact tyX4_ok
  | 5, h => cases h; exact fun k hk => absurd hk (Nat.not_lt_zero k)
  | 6, h => cases h; exact tyX6_ok
  | 7, h => cases h; exact tyX7_ok
  | 8, h => cases h; exact tyX8_ok
  | 9, h => cases h; exact tyX9_ok
  | 10, h => cases h; exact tyX10_ok
  | 11, h => cases h; exact tyX11_ok
  | 12, h => cases h; exact tyX12_ok
  | c + 13, h => simp [classes] at h
theorem cls_nm : ∀ (c : Nat) (r : vw_C), classes[c]? = some r → ∀ a, a < r.2.2 → ∀ b, b < r.2.2 → a ≠ b → (r.2.1 a).2.1 ≠ (r.2.1 b).2.1 := by
  intro c r h
  match c, h with
  | 0, h => cases h; exact nmX0
  | 1, h => cases h; exact nmX1
  | 2, h => cases h; exact nmX2
  | 3, h => cases h; exact nmX3
  | 4, h => cases h; exact nmX4
  | 5, h => cases h; exact fun a ha => absurd ha (Nat.not_lt_zero a)
  | 6, h => cases h; exact nmX6
  | 7, h => cases h; exact nmX7
  | 8, h => cases h; exact nmX8
  | 9, h => cases h; exact nmX9
  | 10, h => cases h; exact nmX10
  | 11, h => cases h; exact nmX11
  | 12, h => cases h; exact nmX12
  | c + 13, h => simp [classes] at h
section ROW
variable {K : SC} {k pc : Nat}
theorem EJ_iconst {n : Int} {v : Int32} (hd : decode (kc K) pc = .ok (.iconst n, 1)) (hv : Int32.ofInt n = v) : EJ K k eI (eC v) pc (pc + 1) := EJ_0 fun X hC σ st h g ls H locs hl hh ho => lv_iconst hC.1 hC.2.1 hd hv (g ls H locs hl hh ho)
theorem EJ_bipush {n : Int} {v : Int32} (hd : decode (kc K) pc = .ok (.bipush n, 2)) (hv : (Int8.ofInt n).toInt32 = v) : EJ K k eI (eC v) pc (pc + 2) := EJ_0 fun X hC σ st h g ls H locs hl hh ho => lv_bipush hC.1 hC.2.1 hd hv (g ls H locs hl hh ho)
theorem EJ_sipush {n : Int} {v : Int32} (hd : decode (kc K) pc = .ok (.sipush n, 3)) (hv : (Int16.ofInt n).toInt32 = v) : EJ K k eI (eC v) pc (pc + 3) := EJ_0 fun X hC σ st h g ls H locs hl hh ho => lv_sipush hC.1 hC.2.1 hd hv (g ls H locs hl hh ho)
theorem EJ_lconst {n : Fin 2} {v : Int64} (hd : decode (kc K) pc = .ok (.lconst n, 1)) (hv : Int64.ofNat (n : Nat) = v) : EJ K k eJ (eC v) pc (pc + 1) := EJ_0 fun X hC σ st h g ls H locs hl hh ho => lv_lconst hC.1 hC.2.1 hd hv (g ls H locs hl hh ho)
theorem EJ_ldc {i : Nat} {v : Int32} (hd : decode (kc K) pc = .ok (.ldc i, 2)) (hq : Cond.constant (ko K) i v ∈ TB) : EJ K k eI (eC v) pc (pc + 2) := EJ_0 fun X hC σ st h g ls H locs hl hh ho => lv_ldc hC.1 hC.2.1 hC.2.2.2.1 (hC.2.2.2.2.1 _ hq) hd (g ls H locs hl hh ho)
theorem EJ_ldcw {i : Nat} {v : Int32} (hd : decode (kc K) pc = .ok (.ldc_w i, 3)) (hq : Cond.constant (ko K) i v ∈ TB) : EJ K k eI (eC v) pc (pc + 3) := EJ_0 fun X hC σ st h g ls H locs hl hh ho => lv_ldcw hC.1 hC.2.1 hC.2.2.2.1 (hC.2.2.2.2.1 _ hq) hd (g ls H locs hl hh ho)
theorem EJ_ldc2 {i : Nat} {v : Int64} (hd : decode (kc K) pc = .ok (.ldc2_w i, 3)) (hq : Cond.constantLong (ko K) i v ∈ TB) : EJ K k eJ (eC v) pc (pc + 3) := EJ_0 fun X hC σ st h g ls H locs hl hh ho => lv_ldc2 hC.1 hC.2.1 hC.2.2.2.1 (hC.2.2.2.2.1 _ hq) hd (g ls H locs hl hh ho)
theorem EJ_null (hd : decode (kc K) pc = .ok (.aconst_null, 1)) : EJ K k eR (eC none) pc (pc + 1) := EJ_0 fun X hC σ st h g ls H locs hl hh ho => lv_null hC.1 hC.2.1 hd (g ls H locs hl hh ho)
theorem lI_key {i : Nat} {σ : List Value} {h h' : AH} {v} (e : lI i σ h = some (v, h')) : σ[i]? = some (.int v) ∧ h' = h := by
  simp only [lI, Option.bind_eq_some_iff] at e
  obtain ⟨u, e1, x, e2, e3⟩ := e
  cases e3
  exact ⟨by rw [e1, asI_eq e2], rfl⟩
theorem lJ_key {i : Nat} {σ : List Value} {h h' : AH} {v} (e : lJ i σ h = some (v, h')) : σ[i]? = some (.long v) ∧ h' = h := by
  simp only [lJ, Option.bind_eq_some_iff] at e
  obtain ⟨u, e1, x, e2, e3⟩ := e
  cases e3
  exact ⟨by rw [e1, asJ_eq e2], rfl⟩
theorem lR_key {i : Nat} {σ : List Value} {h h' : AH} {v} (e : lR i σ h = some (v, h')) : σ[i]? = some (va_rf v) ∧ h' = h := by
  simp only [lR, Option.bind_eq_some_iff] at e
  obtain ⟨u, e1, x, e2, e3⟩ := e
  cases e3
  exact ⟨by rw [e1, asR_eq e2], rfl⟩
theorem EJ_iload_n {j : Fin 4} {i : Nat} (hd : decode (kc K) pc = .ok (.iload_n j, 1)) (hi : (j : Nat) = i) : EJ K k eI (lI i) pc (pc + 1) := by
  refine ⟨fun σ h v h' e => ?_, fun X hC σ h st v h' _ _ e _ g ls H locs hl hh ho => ?_⟩
  · obtain ⟨-, rfl⟩ := lI_key e; exact Le.rf
  · obtain ⟨hs, rfl⟩ := lI_key e
    exact lv_iload_n hC.1 hC.2.1 hd hi (hl.2.2.2 i _ hs nofun) (g ls H locs hl hh ho)
theorem EJ_iload {i : Nat} (hd : decode (kc K) pc = .ok (.iload i, 2)) : EJ K k eI (lI i) pc (pc + 2) := by
  refine ⟨fun σ h v h' e => ?_, fun X hC σ h st v h' _ _ e _ g ls H locs hl hh ho => ?_⟩
  · obtain ⟨-, rfl⟩ := lI_key e; exact Le.rf
  · obtain ⟨hs, rfl⟩ := lI_key e
    exact lv_iload hC.1 hC.2.1 hd (hl.2.2.2 i _ hs nofun) (g ls H locs hl hh ho)
theorem EJ_lload_n {j : Fin 4} {i : Nat} (hd : decode (kc K) pc = .ok (.lload_n j, 1)) (hi : (j : Nat) = i) : EJ K k eJ (lJ i) pc (pc + 1) := by
  refine ⟨fun σ h v h' e => ?_, fun X hC σ h st v h' _ _ e _ g ls H locs hl hh ho => ?_⟩
  · obtain ⟨-, rfl⟩ := lJ_key e; exact Le.rf
  · obtain ⟨hs, rfl⟩ := lJ_key e
    exact lv_lload_n hC.1 hC.2.1 hd hi (hl.2.2.2 i _ hs nofun) (g ls H locs hl hh ho)
theorem EJ_lload {i : Nat} (hd : decode (kc K) pc = .ok (.lload i, 2)) : EJ K k eJ (lJ i) pc (pc + 2) := by
  refine ⟨fun σ h v h' e => ?_, fun X hC σ h st v h' _ _ e _ g ls H locs hl hh ho => ?_⟩
  · obtain ⟨-, rfl⟩ := lJ_key e; exact Le.rf
  · obtain ⟨hs, rfl⟩ := lJ_key e
    exact lv_lload hC.1 hC.2.1 hd (hl.2.2.2 i _ hs nofun) (g ls H locs hl hh ho)
theorem va_rf_jk (r : Option Nat) : va_rf r ≠ jk := by cases r <;> nofun
theorem EJ_aload_n {j : Fin 4} {i : Nat} (hd : decode (kc K) pc = .ok (.aload_n j, 1)) (hi : (j : Nat) = i) : EJ K k eR (lR i) pc (pc + 1) := by
  refine ⟨fun σ h v h' e => ?_, fun X hC σ h st v h' _ _ e _ g ls H locs hl hh ho => ?_⟩
  · obtain ⟨-, rfl⟩ := lR_key e; exact Le.rf
  · obtain ⟨hs, rfl⟩ := lR_key e
    have hz := hl.2.2.2 i _ hs (va_rf_jk v)
    cases v with
    | none => exact lv_aload_nN hC.1 hC.2.1 hd hi hz (g ls H locs hl hh ho)
    | some a => exact lv_aload_n hC.1 hC.2.1 hd hi hz (g ls H locs hl hh ho)
theorem EJ_aload {i : Nat} (hd : decode (kc K) pc = .ok (.aload i, 2)) : EJ K k eR (lR i) pc (pc + 2) := by
  refine ⟨fun σ h v h' e => ?_, fun X hC σ h st v h' _ _ e _ g ls H locs hl hh ho => ?_⟩
  · obtain ⟨-, rfl⟩ := lR_key e; exact Le.rf
  · obtain ⟨hs, rfl⟩ := lR_key e
    have hz := hl.2.2.2 i _ hs (va_rf_jk v)
    cases v with
    | none => exact lv_aloadN hC.1 hC.2.1 hd hz (g ls H locs hl hh ho)
    | some a => exact lv_aload hC.1 hC.2.1 hd hz (g ls H locs hl hh ho)
def inegF (x : Int32) (_ : AH) : Option Int32 := some (-x)
theorem EJ_ineg {a : EX Int32} {p0 p1 : Nat} (ha : EJ K k eI a p0 p1) (hd : decode (kc K) p1 = .ok (.ineg, 1)) : EJ K k eI (eh1 inegF a) p0 (p1 + 1) :=
  EJ_h1 ha fun X hC σ st h x y e g ls H locs hl hh ho => by cases e; exact lv_ineg hC.1 hC.2.1 hd (g ls H locs hl hh ho)
def i2lF (x : Int32) (_ : AH) : Option Int64 := some (x.toInt64)
theorem EJ_i2l {a : EX Int32} {p0 p1 : Nat} (ha : EJ K k eI a p0 p1) (hd : decode (kc K) p1 = .ok (.i2l, 1)) : EJ K k eJ (eh1 i2lF a) p0 (p1 + 1) :=
  EJ_h1 ha fun X hC σ st h x y e g ls H locs hl hh ho => by cases e; exact lv_i2l hC.1 hC.2.1 hd rfl (g ls H locs hl hh ho)
def l2iF (x : Int64) (_ : AH) : Option Int32 := some (x.toInt32)
theorem EJ_l2i {a : EX Int64} {p0 p1 : Nat} (ha : EJ K k eJ a p0 p1) (hd : decode (kc K) p1 = .ok (.l2i, 1)) : EJ K k eI (eh1 l2iF a) p0 (p1 + 1) :=
  EJ_h1 ha fun X hC σ st h x y e g ls H locs hl hh ho => by cases e; exact lv_l2i hC.1 hC.2.1 hd rfl (g ls H locs hl hh ho)
def i2bF (x : Int32) (_ : AH) : Option Int32 := some (x.toInt8.toInt32)
theorem EJ_i2b {a : EX Int32} {p0 p1 : Nat} (ha : EJ K k eI a p0 p1) (hd : decode (kc K) p1 = .ok (.i2b, 1)) : EJ K k eI (eh1 i2bF a) p0 (p1 + 1) :=
  EJ_h1 ha fun X hC σ st h x y e g ls H locs hl hh ho => by cases e; exact lv_i2b hC.1 hC.2.1 hd rfl (g ls H locs hl hh ho)
def iaddF (x : Int32) (y : Int32) (_ : AH) : Option Int32 := some (x + y)
theorem EJ_iadd {a : EX Int32} {b : EX Int32} {p0 p1 p2 : Nat} (ha : EJ K k eI a p0 p1) (hb : EJ K (1 + k) eI b p1 p2) (hd : decode (kc K) p2 = .ok (.iadd, 1)) : EJ K k eI (eh2 iaddF a b) p0 (p2 + 1) :=
  EJ_h2 ha hb (fun x st hs => by rw [sm_I]; omega) fun X hC σ st h x y z e g ls H locs hl hh ho => by cases e; exact lv_iadd hC.1 hC.2.1 hd (g ls H locs hl hh ho)
def isubF (x : Int32) (y : Int32) (_ : AH) : Option Int32 := some (x - y)
theorem EJ_isub {a : EX Int32} {b : EX Int32} {p0 p1 p2 : Nat} (ha : EJ K k eI a p0 p1) (hb : EJ K (1 + k) eI b p1 p2) (hd : decode (kc K) p2 = .ok (.isub, 1)) : EJ K k eI (eh2 isubF a b) p0 (p2 + 1) :=
  EJ_h2 ha hb (fun x st hs => by rw [sm_I]; omega) fun X hC σ st h x y z e g ls H locs hl hh ho => by cases e; exact lv_isub hC.1 hC.2.1 hd (g ls H locs hl hh ho)
def imulF (x : Int32) (y : Int32) (_ : AH) : Option Int32 := some (x * y)
theorem EJ_imul {a : EX Int32} {b : EX Int32} {p0 p1 p2 : Nat} (ha : EJ K k eI a p0 p1) (hb : EJ K (1 + k) eI b p1 p2) (hd : decode (kc K) p2 = .ok (.imul, 1)) : EJ K k eI (eh2 imulF a b) p0 (p2 + 1) :=
  EJ_h2 ha hb (fun x st hs => by rw [sm_I]; omega) fun X hC σ st h x y z e g ls H locs hl hh ho => by cases e; exact lv_imul hC.1 hC.2.1 hd (g ls H locs hl hh ho)
def iandF (x : Int32) (y : Int32) (_ : AH) : Option Int32 := some (x &&& y)
theorem EJ_iand {a : EX Int32} {b : EX Int32} {p0 p1 p2 : Nat} (ha : EJ K k eI a p0 p1) (hb : EJ K (1 + k) eI b p1 p2) (hd : decode (kc K) p2 = .ok (.iand, 1)) : EJ K k eI (eh2 iandF a b) p0 (p2 + 1) :=
  EJ_h2 ha hb (fun x st hs => by rw [sm_I]; omega) fun X hC σ st h x y z e g ls H locs hl hh ho => by cases e; exact lv_iand hC.1 hC.2.1 hd (g ls H locs hl hh ho)
def iorF (x : Int32) (y : Int32) (_ : AH) : Option Int32 := some (x ||| y)
theorem EJ_ior {a : EX Int32} {b : EX Int32} {p0 p1 p2 : Nat} (ha : EJ K k eI a p0 p1) (hb : EJ K (1 + k) eI b p1 p2) (hd : decode (kc K) p2 = .ok (.ior, 1)) : EJ K k eI (eh2 iorF a b) p0 (p2 + 1) :=
  EJ_h2 ha hb (fun x st hs => by rw [sm_I]; omega) fun X hC σ st h x y z e g ls H locs hl hh ho => by cases e; exact lv_ior hC.1 hC.2.1 hd (g ls H locs hl hh ho)
def ixorF (x : Int32) (y : Int32) (_ : AH) : Option Int32 := some (x ^^^ y)
theorem EJ_ixor {a : EX Int32} {b : EX Int32} {p0 p1 p2 : Nat} (ha : EJ K k eI a p0 p1) (hb : EJ K (1 + k) eI b p1 p2) (hd : decode (kc K) p2 = .ok (.ixor, 1)) : EJ K k eI (eh2 ixorF a b) p0 (p2 + 1) :=
  EJ_h2 ha hb (fun x st hs => by rw [sm_I]; omega) fun X hC σ st h x y z e g ls H locs hl hh ho => by cases e; exact lv_ixor hC.1 hC.2.1 hd (g ls H locs hl hh ho)
def ishlF (x : Int32) (y : Int32) (_ : AH) : Option Int32 := some (x <<< (y &&& 31))
theorem EJ_ishl {a : EX Int32} {b : EX Int32} {p0 p1 p2 : Nat} (ha : EJ K k eI a p0 p1) (hb : EJ K (1 + k) eI b p1 p2) (hd : decode (kc K) p2 = .ok (.ishl, 1)) : EJ K k eI (eh2 ishlF a b) p0 (p2 + 1) :=
  EJ_h2 ha hb (fun x st hs => by rw [sm_I]; omega) fun X hC σ st h x y z e g ls H locs hl hh ho => by cases e; exact lv_ishl hC.1 hC.2.1 hd (g ls H locs hl hh ho)
def ishrF (x : Int32) (y : Int32) (_ : AH) : Option Int32 := some (x >>> (y &&& 31))
theorem EJ_ishr {a : EX Int32} {b : EX Int32} {p0 p1 p2 : Nat} (ha : EJ K k eI a p0 p1) (hb : EJ K (1 + k) eI b p1 p2) (hd : decode (kc K) p2 = .ok (.ishr, 1)) : EJ K k eI (eh2 ishrF a b) p0 (p2 + 1) :=
  EJ_h2 ha hb (fun x st hs => by rw [sm_I]; omega) fun X hC σ st h x y z e g ls H locs hl hh ho => by cases e; exact lv_ishr hC.1 hC.2.1 hd (g ls H locs hl hh ho)
def iushrF (x : Int32) (y : Int32) (_ : AH) : Option Int32 := some ((x.toUInt32 >>> (y.toUInt32 &&& Int32.toUInt32 31)).toInt32)
theorem EJ_iushr {a : EX Int32} {b : EX Int32} {p0 p1 p2 : Nat} (ha : EJ K k eI a p0 p1) (hb : EJ K (1 + k) eI b p1 p2) (hd : decode (kc K) p2 = .ok (.iushr, 1)) : EJ K k eI (eh2 iushrF a b) p0 (p2 + 1) :=
  EJ_h2 ha hb (fun x st hs => by rw [sm_I]; omega) fun X hC σ st h x y z e g ls H locs hl hh ho => by cases e; exact lv_iushr hC.1 hC.2.1 hd rfl (g ls H locs hl hh ho)
def lsubF (x : Int64) (y : Int64) (_ : AH) : Option Int64 := some (x - y)
theorem EJ_lsub {a : EX Int64} {b : EX Int64} {p0 p1 p2 : Nat} (ha : EJ K k eJ a p0 p1) (hb : EJ K (2 + k) eJ b p1 p2) (hd : decode (kc K) p2 = .ok (.lsub, 1)) : EJ K k eJ (eh2 lsubF a b) p0 (p2 + 1) :=
  EJ_h2 ha hb (fun x st hs => by rw [sm_J]; omega) fun X hC σ st h x y z e g ls H locs hl hh ho => by cases e; exact lv_lsub hC.1 hC.2.1 hd (g ls H locs hl hh ho)
def landF (x : Int64) (y : Int64) (_ : AH) : Option Int64 := some (x &&& y)
theorem EJ_land {a : EX Int64} {b : EX Int64} {p0 p1 p2 : Nat} (ha : EJ K k eJ a p0 p1) (hb : EJ K (2 + k) eJ b p1 p2) (hd : decode (kc K) p2 = .ok (.land, 1)) : EJ K k eJ (eh2 landF a b) p0 (p2 + 1) :=
  EJ_h2 ha hb (fun x st hs => by rw [sm_J]; omega) fun X hC σ st h x y z e g ls H locs hl hh ho => by cases e; exact lv_land hC.1 hC.2.1 hd (g ls H locs hl hh ho)
def lorF (x : Int64) (y : Int64) (_ : AH) : Option Int64 := some (x ||| y)
theorem EJ_lor {a : EX Int64} {b : EX Int64} {p0 p1 p2 : Nat} (ha : EJ K k eJ a p0 p1) (hb : EJ K (2 + k) eJ b p1 p2) (hd : decode (kc K) p2 = .ok (.lor, 1)) : EJ K k eJ (eh2 lorF a b) p0 (p2 + 1) :=
  EJ_h2 ha hb (fun x st hs => by rw [sm_J]; omega) fun X hC σ st h x y z e g ls H locs hl hh ho => by cases e; exact lv_lor hC.1 hC.2.1 hd (g ls H locs hl hh ho)
def lshlF (x : Int64) (y : Int32) (_ : AH) : Option Int64 := some (x <<< (y.toInt64 &&& 63))
theorem EJ_lshl {a : EX Int64} {b : EX Int32} {p0 p1 p2 : Nat} (ha : EJ K k eJ a p0 p1) (hb : EJ K (2 + k) eI b p1 p2) (hd : decode (kc K) p2 = .ok (.lshl, 1)) : EJ K k eJ (eh2 lshlF a b) p0 (p2 + 1) :=
  EJ_h2 ha hb (fun x st hs => by rw [sm_J]; omega) fun X hC σ st h x y z e g ls H locs hl hh ho => by cases e; exact lv_lshl hC.1 hC.2.1 hd rfl (g ls H locs hl hh ho)
def lshrF (x : Int64) (y : Int32) (_ : AH) : Option Int64 := some (x >>> (y.toInt64 &&& 63))
theorem EJ_lshr {a : EX Int64} {b : EX Int32} {p0 p1 p2 : Nat} (ha : EJ K k eJ a p0 p1) (hb : EJ K (2 + k) eI b p1 p2) (hd : decode (kc K) p2 = .ok (.lshr, 1)) : EJ K k eJ (eh2 lshrF a b) p0 (p2 + 1) :=
  EJ_h2 ha hb (fun x st hs => by rw [sm_J]; omega) fun X hC σ st h x y z e g ls H locs hl hh ho => by cases e; exact lv_lshr hC.1 hC.2.1 hd rfl (g ls H locs hl hh ho)
def idivF (x y : Int32) (_ : AH) : Option Int32 := if y = 0 then none else some (x / y)
theorem EJ_idiv {a b : EX Int32} {p0 p1 p2 : Nat} (ha : EJ K k eI a p0 p1) (hb : EJ K (1 + k) eI b p1 p2) (hd : decode (kc K) p2 = .ok (.idiv, 1)) : EJ K k eI (eh2 idivF a b) p0 (p2 + 1) :=
  EJ_h2 ha hb (fun x st hs => by rw [sm_I]; omega) fun X hC σ st h x y z e g ls H locs hl hh ho => by
    unfold idivF at e
    split at e
    · cases e
    · rename_i hy
      cases e
      exact lv_idiv hC.1 hC.2.1 hd hy (g ls H locs hl hh ho)
def iremF (x y : Int32) (_ : AH) : Option Int32 := if y = 0 then none else some (x - x / y * y)
theorem EJ_irem {a b : EX Int32} {p0 p1 p2 : Nat} (ha : EJ K k eI a p0 p1) (hb : EJ K (1 + k) eI b p1 p2) (hd : decode (kc K) p2 = .ok (.irem, 1)) : EJ K k eI (eh2 iremF a b) p0 (p2 + 1) :=
  EJ_h2 ha hb (fun x st hs => by rw [sm_I]; omega) fun X hC σ st h x y z e g ls H locs hl hh ho => by
    unfold iremF at e
    split at e
    · cases e
    · rename_i hy
      cases e
      exact lv_irem hC.1 hC.2.1 hd hy (g ls H locs hl hh ho)
def c_eq (x y : Int32) (_ : AH) : Option Bool := some (decide (x = y))
def z_eq (x : Int32) (_ : AH) : Option Bool := some (decide (x = 0))
def j_eq (x y : Int64) (_ : AH) : Option Bool := some (decide (x = y))
def c_ne (x y : Int32) (_ : AH) : Option Bool := some (decide (¬ x = y))
def z_ne (x : Int32) (_ : AH) : Option Bool := some (decide (¬ x = 0))
def j_ne (x y : Int64) (_ : AH) : Option Bool := some (decide (¬ x = y))
def c_lt (x y : Int32) (_ : AH) : Option Bool := some (decide (x < y))
def z_lt (x : Int32) (_ : AH) : Option Bool := some (decide (x < 0))
def j_lt (x y : Int64) (_ : AH) : Option Bool := some (decide (x < y))
def c_ge (x y : Int32) (_ : AH) : Option Bool := some (decide (y ≤ x))
def z_ge (x : Int32) (_ : AH) : Option Bool := some (decide (0 ≤ x))
def j_ge (x y : Int64) (_ : AH) : Option Bool := some (decide (y ≤ x))
def c_gt (x y : Int32) (_ : AH) : Option Bool := some (decide (y < x))
def z_gt (x : Int32) (_ : AH) : Option Bool := some (decide (0 < x))
def j_gt (x y : Int64) (_ : AH) : Option Bool := some (decide (y < x))
def c_le (x y : Int32) (_ : AH) : Option Bool := some (decide (x ≤ y))
def z_le (x : Int32) (_ : AH) : Option Bool := some (decide (x ≤ 0))
def j_le (x y : Int64) (_ : AH) : Option Bool := some (decide (x ≤ y))
theorem nlt {x y : Int32} : ¬ x < y ↔ y ≤ x := Int32.not_lt
theorem nle {x y : Int32} : ¬ x ≤ y ↔ y < x := Int32.not_le
theorem CJ_lead {c : EX Bool} {p0 t f t' f' : Nat} (h : CJ K k c p0 t f) (ht : Lead K t t') (hf : Lead K f f') : CJ K k c p0 t' f' :=
  ⟨h.1, fun X hC σ h1 st v h' hs hb e hfi g => h.2 X hC σ h1 st v h' hs hb e hfi (by cases v; exact hf X hC σ st h' g; exact ht X hC σ st h' g)⟩
theorem Lead.goto {off : Int} {tgt : Nat} (hd : decode (kc K) pc = .ok (.goto off, 3)) (ht : (pc : Int) + off = (tgt : Int)) : Lead K pc tgt := fun X hC σ st h g ls H locs hl hh ho => lv_goto hC.1 hC.2.1 hd ht (g ls H locs hl hh ho)
theorem Lead.tr {p q r : Nat} (a : Lead K p q) (b : Lead K q r) : Lead K p r := fun X hC σ st h g => a X hC σ st h (b X hC σ st h g)
theorem CJ_eq {a b : EX Int32} {p0 p1 p2 tgt : Nat} {off : Int} (ha : EJ K k eI a p0 p1) (hb : EJ K (1 + k) eI b p1 p2) (hd : decode (kc K) p2 = .ok (.if_icmp .eq off, 3)) (ht : (p2 : Int) + off = (tgt : Int)) : CJ K k (eh2 c_eq a b) p0 tgt (p2 + 3) :=
  CJ_h2 ha hb (fun x st hs => by rw [sm_I]; omega) fun X hC σ st h x y z e g ls H locs hl hh ho => by
    cases e
    refine lv_icmp_eq hC.1 hC.2.1 hd ht (fun q => ?_) (fun q => ?_)
    · rw [if_pos (decide_eq_true q)] at g; exact g ls H locs hl hh ho
    · rw [if_neg (fun z => absurd (of_decide_eq_true z) (by first | exact q | exact fun u => u q))] at g; exact g ls H locs hl hh ho
theorem CJ_ne' {a b : EX Int32} {p0 p1 p2 tgt : Nat} {off : Int} (ha : EJ K k eI a p0 p1) (hb : EJ K (1 + k) eI b p1 p2) (hd : decode (kc K) p2 = .ok (.if_icmp .eq off, 3)) (ht : (p2 : Int) + off = (tgt : Int)) : CJ K k (eh2 c_ne a b) p0 (p2 + 3) tgt :=
  CJ_h2 ha hb (fun x st hs => by rw [sm_I]; omega) fun X hC σ st h x y z e g ls H locs hl hh ho => by
    cases e
    refine lv_icmp_eq hC.1 hC.2.1 hd ht (fun q => ?_) (fun q => ?_)
    · rw [if_neg (fun z => absurd (of_decide_eq_true z) (by first | exact fun u => u q | exact q | exact nlt.mpr q | exact nle.mpr q))] at g; exact g ls H locs hl hh ho
    · rw [if_pos (decide_eq_true (by first | exact q | exact Decidable.not_not.mp q | exact nlt.mp q | exact nle.mp q))] at g; exact g ls H locs hl hh ho
theorem CZ_eq {a : EX Int32} {p0 p1 tgt : Nat} {off : Int} (ha : EJ K k eI a p0 p1) (hd : decode (kc K) p1 = .ok (.ifCond .eq off, 3)) (ht : (p1 : Int) + off = (tgt : Int)) : CJ K k (eh1 z_eq a) p0 tgt (p1 + 3) :=
  CJ_h1 ha fun X hC σ st h x z e g ls H locs hl hh ho => by
    cases e
    refine lv_if_eq hC.1 hC.2.1 hd ht (fun q => ?_) (fun q => ?_)
    · rw [if_pos (decide_eq_true q)] at g; exact g ls H locs hl hh ho
    · rw [if_neg (fun z => absurd (of_decide_eq_true z) (by first | exact q | exact fun u => u q))] at g; exact g ls H locs hl hh ho
theorem CZ_ne' {a : EX Int32} {p0 p1 tgt : Nat} {off : Int} (ha : EJ K k eI a p0 p1) (hd : decode (kc K) p1 = .ok (.ifCond .eq off, 3)) (ht : (p1 : Int) + off = (tgt : Int)) : CJ K k (eh1 z_ne a) p0 (p1 + 3) tgt :=
  CJ_h1 ha fun X hC σ st h x z e g ls H locs hl hh ho => by
    cases e
    refine lv_if_eq hC.1 hC.2.1 hd ht (fun q => ?_) (fun q => ?_)
    · rw [if_neg (fun z => absurd (of_decide_eq_true z) (by first | exact fun u => u q | exact q | exact nlt.mpr q | exact nle.mpr q))] at g; exact g ls H locs hl hh ho
    · rw [if_pos (decide_eq_true (by first | exact q | exact Decidable.not_not.mp q | exact nlt.mp q | exact nle.mp q))] at g; exact g ls H locs hl hh ho
theorem CJ_ne {a b : EX Int32} {p0 p1 p2 tgt : Nat} {off : Int} (ha : EJ K k eI a p0 p1) (hb : EJ K (1 + k) eI b p1 p2) (hd : decode (kc K) p2 = .ok (.if_icmp .ne off, 3)) (ht : (p2 : Int) + off = (tgt : Int)) : CJ K k (eh2 c_ne a b) p0 tgt (p2 + 3) :=
  CJ_h2 ha hb (fun x st hs => by rw [sm_I]; omega) fun X hC σ st h x y z e g ls H locs hl hh ho => by
    cases e
    refine lv_icmp_ne hC.1 hC.2.1 hd ht (fun q => ?_) (fun q => ?_)
    · rw [if_pos (decide_eq_true q)] at g; exact g ls H locs hl hh ho
    · rw [if_neg (fun z => absurd (of_decide_eq_true z) (by first | exact q | exact fun u => u q))] at g; exact g ls H locs hl hh ho
theorem CJ_eq' {a b : EX Int32} {p0 p1 p2 tgt : Nat} {off : Int} (ha : EJ K k eI a p0 p1) (hb : EJ K (1 + k) eI b p1 p2) (hd : decode (kc K) p2 = .ok (.if_icmp .ne off, 3)) (ht : (p2 : Int) + off = (tgt : Int)) : CJ K k (eh2 c_eq a b) p0 (p2 + 3) tgt :=
  CJ_h2 ha hb (fun x st hs => by rw [sm_I]; omega) fun X hC σ st h x y z e g ls H locs hl hh ho => by
    cases e
    refine lv_icmp_ne hC.1 hC.2.1 hd ht (fun q => ?_) (fun q => ?_)
    · rw [if_neg (fun z => absurd (of_decide_eq_true z) (by first | exact fun u => u q | exact q | exact nlt.mpr q | exact nle.mpr q))] at g; exact g ls H locs hl hh ho
    · rw [if_pos (decide_eq_true (by first | exact q | exact Decidable.not_not.mp q | exact nlt.mp q | exact nle.mp q))] at g; exact g ls H locs hl hh ho
theorem CZ_ne {a : EX Int32} {p0 p1 tgt : Nat} {off : Int} (ha : EJ K k eI a p0 p1) (hd : decode (kc K) p1 = .ok (.ifCond .ne off, 3)) (ht : (p1 : Int) + off = (tgt : Int)) : CJ K k (eh1 z_ne a) p0 tgt (p1 + 3) :=
  CJ_h1 ha fun X hC σ st h x z e g ls H locs hl hh ho => by
    cases e
    refine lv_if_ne hC.1 hC.2.1 hd ht (fun q => ?_) (fun q => ?_)
    · rw [if_pos (decide_eq_true q)] at g; exact g ls H locs hl hh ho
    · rw [if_neg (fun z => absurd (of_decide_eq_true z) (by first | exact q | exact fun u => u q))] at g; exact g ls H locs hl hh ho
theorem CZ_eq' {a : EX Int32} {p0 p1 tgt : Nat} {off : Int} (ha : EJ K k eI a p0 p1) (hd : decode (kc K) p1 = .ok (.ifCond .ne off, 3)) (ht : (p1 : Int) + off = (tgt : Int)) : CJ K k (eh1 z_eq a) p0 (p1 + 3) tgt :=
  CJ_h1 ha fun X hC σ st h x z e g ls H locs hl hh ho => by
    cases e
    refine lv_if_ne hC.1 hC.2.1 hd ht (fun q => ?_) (fun q => ?_)
    · rw [if_neg (fun z => absurd (of_decide_eq_true z) (by first | exact fun u => u q | exact q | exact nlt.mpr q | exact nle.mpr q))] at g; exact g ls H locs hl hh ho
    · rw [if_pos (decide_eq_true (by first | exact q | exact Decidable.not_not.mp q | exact nlt.mp q | exact nle.mp q))] at g; exact g ls H locs hl hh ho
theorem CJ_lt {a b : EX Int32} {p0 p1 p2 tgt : Nat} {off : Int} (ha : EJ K k eI a p0 p1) (hb : EJ K (1 + k) eI b p1 p2) (hd : decode (kc K) p2 = .ok (.if_icmp .lt off, 3)) (ht : (p2 : Int) + off = (tgt : Int)) : CJ K k (eh2 c_lt a b) p0 tgt (p2 + 3) :=
  CJ_h2 ha hb (fun x st hs => by rw [sm_I]; omega) fun X hC σ st h x y z e g ls H locs hl hh ho => by
    cases e
    refine lv_icmp_lt hC.1 hC.2.1 hd ht (fun q => ?_) (fun q => ?_)
    · rw [if_pos (decide_eq_true q)] at g; exact g ls H locs hl hh ho
    · rw [if_neg (fun z => absurd (of_decide_eq_true z) (by first | exact q | exact fun u => u q))] at g; exact g ls H locs hl hh ho
theorem CJ_ge' {a b : EX Int32} {p0 p1 p2 tgt : Nat} {off : Int} (ha : EJ K k eI a p0 p1) (hb : EJ K (1 + k) eI b p1 p2) (hd : decode (kc K) p2 = .ok (.if_icmp .lt off, 3)) (ht : (p2 : Int) + off = (tgt : Int)) : CJ K k (eh2 c_ge a b) p0 (p2 + 3) tgt :=
  CJ_h2 ha hb (fun x st hs => by rw [sm_I]; omega) fun X hC σ st h x y z e g ls H locs hl hh ho => by
    cases e
    refine lv_icmp_lt hC.1 hC.2.1 hd ht (fun q => ?_) (fun q => ?_)
    · rw [if_neg (fun z => absurd (of_decide_eq_true z) (by first | exact fun u => u q | exact q | exact nlt.mpr q | exact nle.mpr q))] at g; exact g ls H locs hl hh ho
    · rw [if_pos (decide_eq_true (by first | exact q | exact Decidable.not_not.mp q | exact nlt.mp q | exact nle.mp q))] at g; exact g ls H locs hl hh ho
theorem CZ_lt {a : EX Int32} {p0 p1 tgt : Nat} {off : Int} (ha : EJ K k eI a p0 p1) (hd : decode (kc K) p1 = .ok (.ifCond .lt off, 3)) (ht : (p1 : Int) + off = (tgt : Int)) : CJ K k (eh1 z_lt a) p0 tgt (p1 + 3) :=
  CJ_h1 ha fun X hC σ st h x z e g ls H locs hl hh ho => by
    cases e
    refine lv_if_lt hC.1 hC.2.1 hd ht (fun q => ?_) (fun q => ?_)
    · rw [if_pos (decide_eq_true q)] at g; exact g ls H locs hl hh ho
    · rw [if_neg (fun z => absurd (of_decide_eq_true z) (by first | exact q | exact fun u => u q))] at g; exact g ls H locs hl hh ho
theorem CZ_ge' {a : EX Int32} {p0 p1 tgt : Nat} {off : Int} (ha : EJ K k eI a p0 p1) (hd : decode (kc K) p1 = .ok (.ifCond .lt off, 3)) (ht : (p1 : Int) + off = (tgt : Int)) : CJ K k (eh1 z_ge a) p0 (p1 + 3) tgt :=
  CJ_h1 ha fun X hC σ st h x z e g ls H locs hl hh ho => by
    cases e
    refine lv_if_lt hC.1 hC.2.1 hd ht (fun q => ?_) (fun q => ?_)
    · rw [if_neg (fun z => absurd (of_decide_eq_true z) (by first | exact fun u => u q | exact q | exact nlt.mpr q | exact nle.mpr q))] at g; exact g ls H locs hl hh ho
    · rw [if_pos (decide_eq_true (by first | exact q | exact Decidable.not_not.mp q | exact nlt.mp q | exact nle.mp q))] at g; exact g ls H locs hl hh ho
theorem CJ_ge {a b : EX Int32} {p0 p1 p2 tgt : Nat} {off : Int} (ha : EJ K k eI a p0 p1) (hb : EJ K (1 + k) eI b p1 p2) (hd : decode (kc K) p2 = .ok (.if_icmp .ge off, 3)) (ht : (p2 : Int) + off = (tgt : Int)) : CJ K k (eh2 c_ge a b) p0 tgt (p2 + 3) :=
  CJ_h2 ha hb (fun x st hs => by rw [sm_I]; omega) fun X hC σ st h x y z e g ls H locs hl hh ho => by
    cases e
    refine lv_icmp_ge hC.1 hC.2.1 hd ht (fun q => ?_) (fun q => ?_)
    · rw [if_pos (decide_eq_true q)] at g; exact g ls H locs hl hh ho
    · rw [if_neg (fun z => absurd (of_decide_eq_true z) (by first | exact q | exact fun u => u q))] at g; exact g ls H locs hl hh ho
theorem CJ_lt' {a b : EX Int32} {p0 p1 p2 tgt : Nat} {off : Int} (ha : EJ K k eI a p0 p1) (hb : EJ K (1 + k) eI b p1 p2) (hd : decode (kc K) p2 = .ok (.if_icmp .ge off, 3)) (ht : (p2 : Int) + off = (tgt : Int)) : CJ K k (eh2 c_lt a b) p0 (p2 + 3) tgt :=
  CJ_h2 ha hb (fun x st hs => by rw [sm_I]; omega) fun X hC σ st h x y z e g ls H locs hl hh ho => by
    cases e
    refine lv_icmp_ge hC.1 hC.2.1 hd ht (fun q => ?_) (fun q => ?_)
    · rw [if_neg (fun z => absurd (of_decide_eq_true z) (by first | exact fun u => u q | exact q | exact nlt.mpr q | exact nle.mpr q))] at g; exact g ls H locs hl hh ho
    · rw [if_pos (decide_eq_true (by first | exact q | exact Decidable.not_not.mp q | exact nlt.mp q | exact nle.mp q))] at g; exact g ls H locs hl hh ho
theorem CZ_ge {a : EX Int32} {p0 p1 tgt : Nat} {off : Int} (ha : EJ K k eI a p0 p1) (hd : decode (kc K) p1 = .ok (.ifCond .ge off, 3)) (ht : (p1 : Int) + off = (tgt : Int)) : CJ K k (eh1 z_ge a) p0 tgt (p1 + 3) :=
  CJ_h1 ha fun X hC σ st h x z e g ls H locs hl hh ho => by
    cases e
    refine lv_if_ge hC.1 hC.2.1 hd ht (fun q => ?_) (fun q => ?_)
    · rw [if_pos (decide_eq_true q)] at g; exact g ls H locs hl hh ho
    · rw [if_neg (fun z => absurd (of_decide_eq_true z) (by first | exact q | exact fun u => u q))] at g; exact g ls H locs hl hh ho
theorem CZ_lt' {a : EX Int32} {p0 p1 tgt : Nat} {off : Int} (ha : EJ K k eI a p0 p1) (hd : decode (kc K) p1 = .ok (.ifCond .ge off, 3)) (ht : (p1 : Int) + off = (tgt : Int)) : CJ K k (eh1 z_lt a) p0 (p1 + 3) tgt :=
  CJ_h1 ha fun X hC σ st h x z e g ls H locs hl hh ho => by
    cases e
    refine lv_if_ge hC.1 hC.2.1 hd ht (fun q => ?_) (fun q => ?_)
    · rw [if_neg (fun z => absurd (of_decide_eq_true z) (by first | exact fun u => u q | exact q | exact nlt.mpr q | exact nle.mpr q))] at g; exact g ls H locs hl hh ho
    · rw [if_pos (decide_eq_true (by first | exact q | exact Decidable.not_not.mp q | exact nlt.mp q | exact nle.mp q))] at g; exact g ls H locs hl hh ho
theorem CJ_gt {a b : EX Int32} {p0 p1 p2 tgt : Nat} {off : Int} (ha : EJ K k eI a p0 p1) (hb : EJ K (1 + k) eI b p1 p2) (hd : decode (kc K) p2 = .ok (.if_icmp .gt off, 3)) (ht : (p2 : Int) + off = (tgt : Int)) : CJ K k (eh2 c_gt a b) p0 tgt (p2 + 3) :=
  CJ_h2 ha hb (fun x st hs => by rw [sm_I]; omega) fun X hC σ st h x y z e g ls H locs hl hh ho => by
    cases e
    refine lv_icmp_gt hC.1 hC.2.1 hd ht (fun q => ?_) (fun q => ?_)
    · rw [if_pos (decide_eq_true q)] at g; exact g ls H locs hl hh ho
    · rw [if_neg (fun z => absurd (of_decide_eq_true z) (by first | exact q | exact fun u => u q))] at g; exact g ls H locs hl hh ho
theorem CJ_le' {a b : EX Int32} {p0 p1 p2 tgt : Nat} {off : Int} (ha : EJ K k eI a p0 p1) (hb : EJ K (1 + k) eI b p1 p2) (hd : decode (kc K) p2 = .ok (.if_icmp .gt off, 3)) (ht : (p2 : Int) + off = (tgt : Int)) : CJ K k (eh2 c_le a b) p0 (p2 + 3) tgt :=
  CJ_h2 ha hb (fun x st hs => by rw [sm_I]; omega) fun X hC σ st h x y z e g ls H locs hl hh ho => by
    cases e
    refine lv_icmp_gt hC.1 hC.2.1 hd ht (fun q => ?_) (fun q => ?_)
    · rw [if_neg (fun z => absurd (of_decide_eq_true z) (by first | exact fun u => u q | exact q | exact nlt.mpr q | exact nle.mpr q))] at g; exact g ls H locs hl hh ho
    · rw [if_pos (decide_eq_true (by first | exact q | exact Decidable.not_not.mp q | exact nlt.mp q | exact nle.mp q))] at g; exact g ls H locs hl hh ho
theorem CZ_gt {a : EX Int32} {p0 p1 tgt : Nat} {off : Int} (ha : EJ K k eI a p0 p1) (hd : decode (kc K) p1 = .ok (.ifCond .gt off, 3)) (ht : (p1 : Int) + off = (tgt : Int)) : CJ K k (eh1 z_gt a) p0 tgt (p1 + 3) :=
  CJ_h1 ha fun X hC σ st h x z e g ls H locs hl hh ho => by
    cases e
    refine lv_if_gt hC.1 hC.2.1 hd ht (fun q => ?_) (fun q => ?_)
    · rw [if_pos (decide_eq_true q)] at g; exact g ls H locs hl hh ho
    · rw [if_neg (fun z => absurd (of_decide_eq_true z) (by first | exact q | exact fun u => u q))] at g; exact g ls H locs hl hh ho
theorem CZ_le' {a : EX Int32} {p0 p1 tgt : Nat} {off : Int} (ha : EJ K k eI a p0 p1) (hd : decode (kc K) p1 = .ok (.ifCond .gt off, 3)) (ht : (p1 : Int) + off = (tgt : Int)) : CJ K k (eh1 z_le a) p0 (p1 + 3) tgt :=
  CJ_h1 ha fun X hC σ st h x z e g ls H locs hl hh ho => by
    cases e
    refine lv_if_gt hC.1 hC.2.1 hd ht (fun q => ?_) (fun q => ?_)
    · rw [if_neg (fun z => absurd (of_decide_eq_true z) (by first | exact fun u => u q | exact q | exact nlt.mpr q | exact nle.mpr q))] at g; exact g ls H locs hl hh ho
    · rw [if_pos (decide_eq_true (by first | exact q | exact Decidable.not_not.mp q | exact nlt.mp q | exact nle.mp q))] at g; exact g ls H locs hl hh ho
theorem CJ_le {a b : EX Int32} {p0 p1 p2 tgt : Nat} {off : Int} (ha : EJ K k eI a p0 p1) (hb : EJ K (1 + k) eI b p1 p2) (hd : decode (kc K) p2 = .ok (.if_icmp .le off, 3)) (ht : (p2 : Int) + off = (tgt : Int)) : CJ K k (eh2 c_le a b) p0 tgt (p2 + 3) :=
  CJ_h2 ha hb (fun x st hs => by rw [sm_I]; omega) fun X hC σ st h x y z e g ls H locs hl hh ho => by
    cases e
    refine lv_icmp_le hC.1 hC.2.1 hd ht (fun q => ?_) (fun q => ?_)
    · rw [if_pos (decide_eq_true q)] at g; exact g ls H locs hl hh ho
    · rw [if_neg (fun z => absurd (of_decide_eq_true z) (by first | exact q | exact fun u => u q))] at g; exact g ls H locs hl hh ho
theorem CJ_gt' {a b : EX Int32} {p0 p1 p2 tgt : Nat} {off : Int} (ha : EJ K k eI a p0 p1) (hb : EJ K (1 + k) eI b p1 p2) (hd : decode (kc K) p2 = .ok (.if_icmp .le off, 3)) (ht : (p2 : Int) + off = (tgt : Int)) : CJ K k (eh2 c_gt a b) p0 (p2 + 3) tgt :=
  CJ_h2 ha hb (fun x st hs => by rw [sm_I]; omega) fun X hC σ st h x y z e g ls H locs hl hh ho => by
    cases e
    refine lv_icmp_le hC.1 hC.2.1 hd ht (fun q => ?_) (fun q => ?_)
    · rw [if_neg (fun z => absurd (of_decide_eq_true z) (by first | exact fun u => u q | exact q | exact nlt.mpr q | exact nle.mpr q))] at g; exact g ls H locs hl hh ho
    · rw [if_pos (decide_eq_true (by first | exact q | exact Decidable.not_not.mp q | exact nlt.mp q | exact nle.mp q))] at g; exact g ls H locs hl hh ho
theorem CZ_le {a : EX Int32} {p0 p1 tgt : Nat} {off : Int} (ha : EJ K k eI a p0 p1) (hd : decode (kc K) p1 = .ok (.ifCond .le off, 3)) (ht : (p1 : Int) + off = (tgt : Int)) : CJ K k (eh1 z_le a) p0 tgt (p1 + 3) :=
  CJ_h1 ha fun X hC σ st h x z e g ls H locs hl hh ho => by
    cases e
    refine lv_if_le hC.1 hC.2.1 hd ht (fun q => ?_) (fun q => ?_)
    · rw [if_pos (decide_eq_true q)] at g; exact g ls H locs hl hh ho
    · rw [if_neg (fun z => absurd (of_decide_eq_true z) (by first | exact q | exact fun u => u q))] at g; exact g ls H locs hl hh ho
theorem CZ_gt' {a : EX Int32} {p0 p1 tgt : Nat} {off : Int} (ha : EJ K k eI a p0 p1) (hd : decode (kc K) p1 = .ok (.ifCond .le off, 3)) (ht : (p1 : Int) + off = (tgt : Int)) : CJ K k (eh1 z_gt a) p0 (p1 + 3) tgt :=
  CJ_h1 ha fun X hC σ st h x z e g ls H locs hl hh ho => by
    cases e
    refine lv_if_le hC.1 hC.2.1 hd ht (fun q => ?_) (fun q => ?_)
    · rw [if_neg (fun z => absurd (of_decide_eq_true z) (by first | exact fun u => u q | exact q | exact nlt.mpr q | exact nle.mpr q))] at g; exact g ls H locs hl hh ho
    · rw [if_pos (decide_eq_true (by first | exact q | exact Decidable.not_not.mp q | exact nlt.mp q | exact nle.mp q))] at g; exact g ls H locs hl hh ho
theorem lg_eq {x y : Int64} : lg_cmp x y = 0 ↔ x = y := by
  unfold lg_cmp
  by_cases h1 : y < x
  · simp [h1]; intro e; subst e; exact absurd h1 (Int64.lt_irrefl)
  · by_cases h2 : x = y
    · simp [h2]
    · simp [h1, h2]
theorem lg_gt {x y : Int64} : 0 < lg_cmp x y ↔ y < x := by
  unfold lg_cmp
  by_cases h1 : y < x
  · simp [h1]
  · by_cases h2 : x = y
    · simp [h2]
    · simp [h1, h2]
theorem CL_eq' {a b : EX Int64} {p0 p1 p2 tgt : Nat} {off : Int} (ha : EJ K k eJ a p0 p1) (hb : EJ K (2 + k) eJ b p1 p2) (hd0 : decode (kc K) p2 = .ok (.lcmp, 1)) (hd : decode (kc K) (p2 + 1) = .ok (.ifCond .ne off, 3)) (ht : ((p2 + 1 : Nat) : Int) + off = (tgt : Int)) : CJ K k (eh2 j_eq a b) p0 (p2 + 4) tgt :=
  CJ_h2 ha hb (fun x st hs => by rw [sm_J]; omega) fun X hC σ st h x y z e g ls H locs hl hh ho => by
    cases e
    refine W.lcmp hC.1 hC.2.1 hd0 (lv_if_ne hC.1 hC.2.1 hd ht (fun q => ?_) (fun q => ?_))
    · rw [if_neg (fun z => q (lg_eq.mpr (of_decide_eq_true z)))] at g; exact g ls H locs hl hh ho
    · rw [if_pos (decide_eq_true (lg_eq.mp q))] at g; exact g ls H locs hl hh ho
theorem CL_ne' {a b : EX Int64} {p0 p1 p2 tgt : Nat} {off : Int} (ha : EJ K k eJ a p0 p1) (hb : EJ K (2 + k) eJ b p1 p2) (hd0 : decode (kc K) p2 = .ok (.lcmp, 1)) (hd : decode (kc K) (p2 + 1) = .ok (.ifCond .eq off, 3)) (ht : ((p2 + 1 : Nat) : Int) + off = (tgt : Int)) : CJ K k (eh2 j_ne a b) p0 (p2 + 4) tgt :=
  CJ_h2 ha hb (fun x st hs => by rw [sm_J]; omega) fun X hC σ st h x y z e g ls H locs hl hh ho => by
    cases e
    refine W.lcmp hC.1 hC.2.1 hd0 (lv_if_eq hC.1 hC.2.1 hd ht (fun q => ?_) (fun q => ?_))
    · rw [if_neg (fun z => absurd (lg_eq.mp q) (of_decide_eq_true z))] at g; exact g ls H locs hl hh ho
    · rw [if_pos (decide_eq_true (show ¬ x = y from fun u => q (lg_eq.mpr u)))] at g; exact g ls H locs hl hh ho
theorem CL_eq {a b : EX Int64} {p0 p1 p2 tgt : Nat} {off : Int} (ha : EJ K k eJ a p0 p1) (hb : EJ K (2 + k) eJ b p1 p2) (hd0 : decode (kc K) p2 = .ok (.lcmp, 1)) (hd : decode (kc K) (p2 + 1) = .ok (.ifCond .eq off, 3)) (ht : ((p2 + 1 : Nat) : Int) + off = (tgt : Int)) : CJ K k (eh2 j_eq a b) p0 tgt (p2 + 4) :=
  CJ_h2 ha hb (fun x st hs => by rw [sm_J]; omega) fun X hC σ st h x y z e g ls H locs hl hh ho => by
    cases e
    refine W.lcmp hC.1 hC.2.1 hd0 (lv_if_eq hC.1 hC.2.1 hd ht (fun q => ?_) (fun q => ?_))
    · rw [if_pos (decide_eq_true (lg_eq.mp q))] at g; exact g ls H locs hl hh ho
    · rw [if_neg (fun z => q (lg_eq.mpr (of_decide_eq_true z)))] at g; exact g ls H locs hl hh ho
theorem CL_ne {a b : EX Int64} {p0 p1 p2 tgt : Nat} {off : Int} (ha : EJ K k eJ a p0 p1) (hb : EJ K (2 + k) eJ b p1 p2) (hd0 : decode (kc K) p2 = .ok (.lcmp, 1)) (hd : decode (kc K) (p2 + 1) = .ok (.ifCond .ne off, 3)) (ht : ((p2 + 1 : Nat) : Int) + off = (tgt : Int)) : CJ K k (eh2 j_ne a b) p0 tgt (p2 + 4) :=
  CJ_h2 ha hb (fun x st hs => by rw [sm_J]; omega) fun X hC σ st h x y z e g ls H locs hl hh ho => by
    cases e
    refine W.lcmp hC.1 hC.2.1 hd0 (lv_if_ne hC.1 hC.2.1 hd ht (fun q => ?_) (fun q => ?_))
    · rw [if_pos (decide_eq_true (show ¬ x = y from fun u => q (lg_eq.mpr u)))] at g; exact g ls H locs hl hh ho
    · rw [if_neg (fun z => absurd (lg_eq.mp q) (of_decide_eq_true z))] at g; exact g ls H locs hl hh ho
theorem CL_gt' {a b : EX Int64} {p0 p1 p2 tgt : Nat} {off : Int} (ha : EJ K k eJ a p0 p1) (hb : EJ K (2 + k) eJ b p1 p2) (hd0 : decode (kc K) p2 = .ok (.lcmp, 1)) (hd : decode (kc K) (p2 + 1) = .ok (.ifCond .le off, 3)) (ht : ((p2 + 1 : Nat) : Int) + off = (tgt : Int)) : CJ K k (eh2 j_gt a b) p0 (p2 + 4) tgt :=
  CJ_h2 ha hb (fun x st hs => by rw [sm_J]; omega) fun X hC σ st h x y z e g ls H locs hl hh ho => by
    cases e
    refine W.lcmp hC.1 hC.2.1 hd0 (lv_if_le hC.1 hC.2.1 hd ht (fun q => ?_) (fun q => ?_))
    · rw [if_neg (fun z => nle.mpr (lg_gt.mpr (of_decide_eq_true z)) q)] at g; exact g ls H locs hl hh ho
    · rw [if_pos (decide_eq_true (lg_gt.mp (nle.mp q)))] at g; exact g ls H locs hl hh ho
def n_nul (x : Option Nat) (_ : AH) : Option Bool := some x.isNone
def n_non (x : Option Nat) (_ : AH) : Option Bool := some x.isSome
def a_eq (x y : Option Nat) (_ : AH) : Option Bool := some (decide (x = y))
def a_ne (x y : Option Nat) (_ : AH) : Option Bool := some (decide (¬ x = y))
theorem CN_nul {a : EX (Option Nat)} {p0 p1 tgt : Nat} {off : Int} (ha : EJ K k eR a p0 p1) (hd : decode (kc K) p1 = .ok (.ifnull off, 3)) (ht : (p1 : Int) + off = (tgt : Int)) : CJ K k (eh1 n_nul a) p0 tgt (p1 + 3) :=
  CJ_h1 ha fun X hC σ st h x z e g ls H locs hl hh ho => by
    cases e
    cases x with
    | none => exact lv_ifnullN hC.1 hC.2.1 hd ht (g ls H locs hl hh ho)
    | some a => exact lv_ifnull hC.1 hC.2.1 hd (g ls H locs hl hh ho)
theorem CN_non {a : EX (Option Nat)} {p0 p1 tgt : Nat} {off : Int} (ha : EJ K k eR a p0 p1) (hd : decode (kc K) p1 = .ok (.ifnonnull off, 3)) (ht : (p1 : Int) + off = (tgt : Int)) : CJ K k (eh1 n_non a) p0 tgt (p1 + 3) :=
  CJ_h1 ha fun X hC σ st h x z e g ls H locs hl hh ho => by
    cases e
    cases x with
    | none => exact lv_ifnonnullN hC.1 hC.2.1 hd (g ls H locs hl hh ho)
    | some a => exact lv_ifnonnull hC.1 hC.2.1 hd ht (g ls H locs hl hh ho)
theorem CN_non' {a : EX (Option Nat)} {p0 p1 tgt : Nat} {off : Int} (ha : EJ K k eR a p0 p1) (hd : decode (kc K) p1 = .ok (.ifnull off, 3)) (ht : (p1 : Int) + off = (tgt : Int)) : CJ K k (eh1 n_non a) p0 (p1 + 3) tgt :=
  CJ_h1 ha fun X hC σ st h x z e g ls H locs hl hh ho => by
    cases e
    cases x with
    | none => exact lv_ifnullN hC.1 hC.2.1 hd ht (g ls H locs hl hh ho)
    | some a => exact lv_ifnull hC.1 hC.2.1 hd (g ls H locs hl hh ho)
theorem CN_nul' {a : EX (Option Nat)} {p0 p1 tgt : Nat} {off : Int} (ha : EJ K k eR a p0 p1) (hd : decode (kc K) p1 = .ok (.ifnonnull off, 3)) (ht : (p1 : Int) + off = (tgt : Int)) : CJ K k (eh1 n_nul a) p0 (p1 + 3) tgt :=
  CJ_h1 ha fun X hC σ st h x z e g ls H locs hl hh ho => by
    cases e
    cases x with
    | none => exact lv_ifnonnullN hC.1 hC.2.1 hd (g ls H locs hl hh ho)
    | some a => exact lv_ifnonnull hC.1 hC.2.1 hd ht (g ls H locs hl hh ho)
theorem CA_ne {a b : EX (Option Nat)} {p0 p1 p2 tgt : Nat} {off : Int} (ha : EJ K k eR a p0 p1) (hb : EJ K (1 + k) eR b p1 p2) (hd : decode (kc K) p2 = .ok (.if_acmp .ne off, 3)) (ht : (p2 : Int) + off = (tgt : Int)) : CJ K k (eh2 a_ne a b) p0 tgt (p2 + 3) :=
  CJ_h2 ha hb (fun x st hs => by rw [sm_R]; omega) fun X hC σ st h x y z e g ls H locs hl hh ho => by
    cases e
    refine lv_acmp_ne (rx := x) (ry := y) hC.1 hC.2.1 hd ht (fun q => ?_) (fun q => ?_)
    · rw [if_pos (decide_eq_true q)] at g; exact g ls H locs hl hh ho
    · rw [if_neg (fun z => absurd q (of_decide_eq_true z))] at g; exact g ls H locs hl hh ho
theorem CA_eq' {a b : EX (Option Nat)} {p0 p1 p2 tgt : Nat} {off : Int} (ha : EJ K k eR a p0 p1) (hb : EJ K (1 + k) eR b p1 p2) (hd : decode (kc K) p2 = .ok (.if_acmp .ne off, 3)) (ht : (p2 : Int) + off = (tgt : Int)) : CJ K k (eh2 a_eq a b) p0 (p2 + 3) tgt :=
  CJ_h2 ha hb (fun x st hs => by rw [sm_R]; omega) fun X hC σ st h x y z e g ls H locs hl hh ho => by
    cases e
    refine lv_acmp_ne (rx := x) (ry := y) hC.1 hC.2.1 hd ht (fun q => ?_) (fun q => ?_)
    · rw [if_neg (fun z => q (of_decide_eq_true z))] at g; exact g ls H locs hl hh ho
    · rw [if_pos (decide_eq_true q)] at g; exact g ls H locs hl hh ho
end ROW
