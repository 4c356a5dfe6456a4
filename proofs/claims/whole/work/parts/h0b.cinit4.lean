/-! ===== the first state of the class ===== -/
theorem f_y {O : Nat} {h0 h3 h7 h10 h11 h12 h13 : AH} (b3 : B3 O h0 h3) (b7 : B7 O h3 h7) (b10 : B10 O h7 h10) (z11 : Fx (fun x => x = O + 31) 84 1620 h10 h11) (b12 : B12 O 116 11 h11 h12) (b13 : B12 O 119 12 h12 h13) : Fx (fun x => x = O ∨ x = O + 31) 6 1022 h11 h13 ∧ Fx (fun x => x = O ∨ x = O + 31) 90 2642 h10 h13 ∧ Fx (fun x => x = O ∨ x = O + 31) 98 2789 h7 h13 ∧ Fx (fun x => x = O ∨ x = O + 31) 102 2809 h3 h13 ∧ Fx (fun x => x = O ∨ x = O + 31) 121 3516 h0 h13 := by
  obtain ⟨-, -, -, -, -, -, -, -, -, z3⟩ := b3
  obtain ⟨-, -, -, -, -, -, -, -, -, -, z7⟩ := b7
  obtain ⟨-, -, -, -, -, -, -, -, -, z10⟩ := b10
  obtain ⟨-, -, -, -, -, -, -, -, z12⟩ := b12
  obtain ⟨-, -, -, -, -, -, -, -, z13⟩ := b13
  have y11 : Fx (fun x => x = O ∨ x = O + 31) 6 1022 h11 h13 := (z12.tr z13).w (fun x _ y => Or.inl y) (by omega) (by omega)
  have y10 : Fx (fun x => x = O ∨ x = O + 31) 90 2642 h10 h13 := ((z11.w (fun x _ y => Or.inr y) (Nat.le_refl _) (Nat.le_refl _)).tr y11).w (fun _ _ y => y) (by omega) (by omega)
  have y7 : Fx (fun x => x = O ∨ x = O + 31) 98 2789 h7 h13 := ((z10.w (fun x _ y => Or.inl y) (Nat.le_refl _) (Nat.le_refl _)).tr y10).w (fun _ _ y => y) (by omega) (by omega)
  have y3 : Fx (fun x => x = O ∨ x = O + 31) 102 2809 h3 h13 := ((z7.w (fun x _ y => Or.inl y) (Nat.le_refl _) (Nat.le_refl _)).tr y7).w (fun _ _ y => y) (by omega) (by omega)
  have y0 : Fx (fun x => x = O ∨ x = O + 31) 121 3516 h0 h13 := ((z3.w (fun x _ y => Or.inl y) (Nat.le_refl _) (Nat.le_refl _)).tr y3).w (fun _ _ y => y) (by omega) (by omega)
  exact ⟨y11, y10, y7, y3, y0⟩
theorem f_O {O : Nat} {h0 h3 h7 h10 h11 h12 h13 : AH} (b3 : B3 O h0 h3) (b7 : B7 O h3 h7) (b10 : B10 O h7 h10) (z11 : Fx (fun x => x = O + 31) 84 1620 h10 h11) (b12 : B12 O 116 11 h11 h12) (b13 : B12 O 119 12 h12 h13) (R0' : ∀ j, hR h0 O j = none) (I0 : ∀ j, hI h0 O j = nI 0) (J0 : ∀ j, hJ h0 O j = lN 0) : (∀ j, hR h13 O j = if j = 12 then some (O + 119) else if j = 11 then some (O + 116) else if j = 10 then some (O + 24) else if j = 9 then some (O + 23) else if j = 7 then some (O + 22) else if j = 6 then some (O + 21) else if j = 5 then some (O + 20) else if j = 3 then some (O + 12) else if j = 2 then some (O + 2) else if j = 0 then some (O + 1) else none) ∧ (∀ j, j ≠ 13 → j ≠ 14 → j ≠ 15 → hI h13 O j = nI 0) ∧ (∀ j, hJ h13 O j = lN 0) ∧ hI h13 O 13 = -4 ∧ hI h13 O 14 = -4 ∧ hI h13 O 15 = -4 := by
  obtain ⟨-, -, -, r3, i3, j3, -⟩ := b3
  obtain ⟨-, -, -, r7, i7, j7, -⟩ := b7
  obtain ⟨n10, -, -, r10, i10, c10, j10, -⟩ := b10
  obtain ⟨-, -, -, r12, i12, j12, -⟩ := b12
  obtain ⟨-, -, -, r13, i13, j13, -⟩ := b13
  have s11 := (z11.2.2 O (by omega)).2.2 (fun e => by have e : O = O + 31 := e; omega)
  refine ⟨fun j => by rw [r13, r12, s11.2.2, r10, r7, r3, R0'], fun j a b c => by rw [i13, i12, s11.1, i10 j a b c, i7, i3]; exact I0 j, fun j => by rw [j13, j12, s11.2.1, j10, j7, j3]; exact J0 j, ?_⟩
  rw [i13, i12, s11.1]
  exact c10
theorem f_TlO {O : Nat} {h0 h3 h7 h10 h11 h12 h13 : AH} (b3 : B3 O h0 h3) (b7 : B7 O h3 h7) (b10 : B10 O h7 h10) (z11 : Fx (fun x => x = O + 31) 84 1620 h10 h11) (b12 : B12 O 116 11 h11 h12) (b13 : B12 O 119 12 h12 h13) (R0' : ∀ j, hR h0 O j = none) (I0 : ∀ j, hI h0 O j = nI 0) (J0 : ∀ j, hJ h0 O j = lN 0) : TlO h13 O := by
  have RO := (f_O b3 b7 b10 z11 b12 b13 R0' I0 J0).1
  obtain ⟨y11, y10, y7, y3, y0⟩ := f_y b3 b7 b10 z11 b12 b13
  obtain ⟨n3, w3, -, -, -, -, ⟨t1, l1⟩, rd, -⟩ := b3
  obtain ⟨n7, -, -, -, -, -, -, ⟨t5, l5⟩, ⟨t6, l6⟩, ⟨t7, l7, -⟩, -⟩ := b7
  have tO13 := b13.2.2.1
  have c1 := y3.2.2 (O + 1) (by omega)
  have c5 := y7.2.2 (O + 21) (by omega)
  have c6 := y7.2.2 (O + 22) (by omega)
  have c7 := y7.2.2 (O + 23) (by omega)
  have s2 := (y3.2.2 (O + 2) (by omega)).2.2 (fun e => by have e : O + 2 = O ∨ O + 2 = O + 31 := e; omega)
  have rd13 : RdO h13 (O + 2) := RdO_x rd w3 y3 (by rw [s2.2.2]) (by rw [s2.2.2])
  exact ⟨tO13, ⟨RO 0, c1.1.trans t1, c1.2.1.trans l1⟩, ⟨RO 2, rd13⟩, ⟨RO 6, c5.1.trans t5, c5.2.1.trans l5⟩, ⟨RO 7, c6.1.trans t6, c6.2.1.trans l6⟩, ⟨RO 9, c7.1.trans t7, c7.2.1.trans l7⟩, RO 10, RO 11, RO 12⟩
theorem f_Fs {O : Nat} {h0 h3 h7 h10 h11 h12 h13 : AH} (b3 : B3 O h0 h3) (b7 : B7 O h3 h7) (b10 : B10 O h7 h10) (z11 : Fx (fun x => x = O + 31) 84 1620 h10 h11) (b12 : B12 O 116 11 h11 h12) (b13 : B12 O 119 12 h12 h13) (n11 : hN h11 = O + 116) (w11 : WF h11) (ft11 : ∀ j, j < 12 → hR h11 (O + 31) j = some (O + 32 + 7 * j) ∧ FtG Γ0 h11 (O + 32 + 7 * j)) : FsC Γ0 h13 O := by
  obtain ⟨y11, y10, y7, y3, y0⟩ := f_y b3 b7 b10 z11 b12 b13
  obtain ⟨n10, w10, -, -, -, -, -, g10, ⟨ta, la⟩, -⟩ := b10
  obtain ⟨n12, w12, -, -, -, -, o12, v12, z12⟩ := b12
  obtain ⟨n13, w13, -, -, -, -, o13, v13, z13⟩ := b13
  have z := z12.tr z13
  have ftS : FtG Γ0 h13 (O + 24) := FtG_x g10 w10 y10 (fun c hc y => by
    have y : O + 24 + c = O ∨ O + 24 + c = O + 31 := y
    omega)
  have cA := z.2.2 (O + 31) (by omega)
  have sA := cA.2.2 (fun e => by have e : O + 31 = O := e; omega)
  have cA11 := z11.2.2 (O + 31) (by omega)
  have fa : FaO h13 (O + 31) (O + 32) := ⟨cA.1.trans (cA11.1.trans ta), cA.2.1.trans (cA11.2.1.trans la), fun i hi => by rw [sA.2.2]; exact (ft11 i hi).1⟩
  have fts : ∀ i, i < 12 → FtG Γ0 h13 (O + 32 + 7 * i) := fun i hi => FtG_x (ft11 i hi).2 w11 z (fun c hc y => by have y : O + 32 + 7 * i + c = O := y; omega)
  have cS := z13.2.2 (O + 116) (by omega)
  have sS := cS.2.2 (fun e => by have e : O + 116 = O := e; omega)
  have cN := z13.2.2 (O + 116 + 2) (by omega)
  have sN := cN.2.2 (fun e => by have e : O + 116 + 2 = O := e; omega)
  have o16 : SrO h13 (O + 116) (O + 31) := ⟨cS.1.trans o12.1, by rw [sS.2.2]; exact o12.2.1, by rw [sS.2.2]; exact o12.2.2.1, cN.1.trans o12.2.2.2.1, cN.2.1.trans o12.2.2.2.2⟩
  have v16 : ∀ k, hR h13 (O + 116 + 2) k = none := fun k => by rw [sN.2.2]; exact v12 k
  exact ⟨ftS, ⟨w13, o16, fa, fts, fun k hk N e => (by rw [v16 k] at e; cases e)⟩, ⟨w13, o13, fa, fts, fun k hk N e => (by rw [v13 k] at e; cases e)⟩, fun a b N _ _ e => (by rw [v16 a] at e; cases e)⟩
theorem CI_first {O : Nat} {h0 h3 h7 h10 h11 h12 h13 : AH} (b3 : B3 O h0 h3) (b7 : B7 O h3 h7) (b10 : B10 O h7 h10) (z11 : Fx (fun x => x = O + 31) 84 1620 h10 h11) (b12 : B12 O 116 11 h11 h12) (b13 : B12 O 119 12 h12 h13) (n11 : hN h11 = O + 116) (w11 : WF h11) (ft11 : ∀ j, j < 12 → hR h11 (O + 31) j = some (O + 32 + 7 * j) ∧ FtG Γ0 h11 (O + 32 + 7 * j)) (R0' : ∀ j, hR h0 O j = none) (I0 : ∀ j, hI h0 O j = nI 0) (J0 : ∀ j, hJ h0 O j = lN 0) : CI Γ0 O st0 h13 := by
  obtain ⟨RO, IO, JO, C13⟩ := f_O b3 b7 b10 z11 b12 b13 R0' I0 J0
  have tl := f_TlO b3 b7 b10 z11 b12 b13 R0' I0 J0
  have fs := f_Fs b3 b7 b10 z11 b12 b13 n11 w11 ft11
  obtain ⟨y11, y10, y7, y3, y0⟩ := f_y b3 b7 b10 z11 b12 b13
  obtain ⟨n3, w3, tO3, -, -, -, -, -, g3, -⟩ := b3
  obtain ⟨n7, w7, tO7, -, -, -, ⟨t4, l4⟩, -, -, ⟨-, -, v7⟩, -⟩ := b7
  have u3 : hT h3 (O + 31) = 0 := by
    by_cases y : hT h3 (O + 31) = 0
    · exact y
    · have := w3 _ y
      omega
  have gr13 : GrC Γ0 h13 (O + 12) (O + 13) [] ([], [], 6, 2) := GrC_k g3 (Gk_Fx w3 y3 (fun a e => by
    rcases e with e | e
    · rw [e, tO3]; decide
    · rw [e, u3]; decide))
  have c4 := y7.2.2 (O + 20) (by omega)
  have c7 := (y7.2.2 (O + 23) (by omega)).2.2 (fun e => by have e : O + 23 = O ∨ O + 23 = O + 31 := e; omega)
  have q2 : TpC h13 O [] := ⟨IO 1 (by decide) (by decide) (by decide), Nat.zero_le _, fun i hi => (by cases hi)⟩
  have q3 : NwC Γ0 h13 O (O + 12) (O + 13) (O + 20) [] ([], [], 6, 2) [] [] := ⟨⟨RO 3, gr13⟩, ⟨JO 4, WL_nil, Nat.zero_le _⟩, RO 5, ⟨c4.1.trans t4, c4.2.1.trans l4, fun i hi => (by cases hi)⟩, Nat.zero_le _, fun w hw => (by cases hw)⟩
  exact CI_end tl q2 q3 C13 ⟨IO 8 (by decide) (by decide) (by decide), Nat.zero_le _, fun j hj => (by cases hj)⟩ (fun j _ => by
    show hR h13 (O + 23) j = none
    rw [c7.2.2]
    exact v7 j) fs
theorem e_nwT {σ : List Value} {h : AH} {Q : Option Nat → AH → Prop} (wf : WF h) (k : ∀ h', CI Γ0 (hN h) st0 h' → Fx (fun _ => False) 122 3600 h h' → hN h' = hN h + 122 → Q (some (hN h)) h') : wpe (kN 12 16 d_TL_init []) σ h Q := by
  rw [e_kN, a_nil]
  have t0 : hT (nw h 12 0 16) (hN h) = 12 := by simp (disch := omega) only [hN_sI, hU_sI, hT_sI, hL_sI, hI_sI, hJ_sI, hR_sI, hN_sJ, hU_sJ, hT_sJ, hL_sJ, hI_sJ, hJ_sJ, hR_sJ, hN_sR, hU_sR, hT_sR, hL_sR, hI_sR, hJ_sR, hR_sR, hN_nw, hU_nw, hT_nw, hL_nw, hI_nw, hJ_nw, hR_nw, vu_s]
  have n0 : hN (nw h 12 0 16) = hN h + 1 := by simp (disch := omega) only [hN_sI, hU_sI, hT_sI, hL_sI, hI_sI, hJ_sI, hR_sI, hN_sJ, hU_sJ, hT_sJ, hL_sJ, hI_sJ, hJ_sJ, hR_sJ, hN_sR, hU_sR, hT_sR, hL_sR, hI_sR, hJ_sR, hR_sR, hN_nw, hU_nw, hT_nw, hL_nw, hI_nw, hJ_nw, hR_nw]
  have I0 : ∀ j, hI (nw h 12 0 16) (hN h) j = nI 0 := fun j => by
    simp (disch := omega) only [hN_sI, hU_sI, hT_sI, hL_sI, hI_sI, hJ_sI, hR_sI, hN_sJ, hU_sJ, hT_sJ, hL_sJ, hI_sJ, hJ_sJ, hR_sJ, hN_sR, hU_sR, hT_sR, hL_sR, hI_sR, hJ_sR, hR_sR, hN_nw, hU_nw, hT_nw, hL_nw, hI_nw, hJ_nw, hR_nw, vu_s]
    rfl
  have J0 : ∀ j, hJ (nw h 12 0 16) (hN h) j = lN 0 := fun j => by
    simp (disch := omega) only [hN_sI, hU_sI, hT_sI, hL_sI, hI_sI, hJ_sI, hR_sI, hN_sJ, hU_sJ, hT_sJ, hL_sJ, hI_sJ, hJ_sJ, hR_sJ, hN_sR, hU_sR, hT_sR, hL_sR, hI_sR, hJ_sR, hR_sR, hN_nw, hU_nw, hT_nw, hL_nw, hI_nw, hJ_nw, hR_nw, vu_s]
    rfl
  have R0' : ∀ j, hR (nw h 12 0 16) (hN h) j = none := fun j => by
    simp (disch := omega) only [hN_sI, hU_sI, hT_sI, hL_sI, hI_sI, hJ_sI, hR_sI, hN_sJ, hU_sJ, hT_sJ, hL_sJ, hI_sJ, hJ_sJ, hR_sJ, hN_sR, hU_sR, hT_sR, hL_sR, hI_sR, hJ_sR, hR_sR, hN_nw, hU_nw, hT_nw, hL_nw, hI_nw, hJ_nw, hR_nw, vu_s]
  have w0 : WF (nw h 12 0 16) := WF_nw wf
  have f0 := fx_nw (h := h) (t := 12) (n := 0) (u := 16)
  generalize nw h 12 0 16 = h0 at *
  generalize hO : hN h = O at *
  unfold d_TL_init
  (rw [m_mth]; refine ⟨by simp only [m_mth, s_sk, s_brk, s_cnt, s_sq, s_if, s_rtn, s_rtnU, s_E, s_I1, s_R1, s_J1, s_Inc, s_h2, s_h3, s_u2, s_u3, e_C, e_h1, e_h2, e_lI, e_lJ, e_lR, e_if, e_and, e_or, e_not, a_nil, a_I, a_J, a_R, e_kS, e_kV, e_kN, e_nA, ok_some, ok_none, ok_bind, ok_guard, ok_guardN, asI_int, asJ_long, asR_ref, asR_rf, asR_null, entL, ent, sto, sto2, ok1, Value.category, va_rf, List.length_cons, List.length_nil, List.length_append, List.length_replicate, List.nil_append, List.cons_append, List.append_nil, List.replicate_succ, List.replicate_zero, List.getElem?_cons_zero, List.getElem?_cons_succ, List.set_cons_zero, List.set_cons_succ, gI, gJ, gR, pI, pJ, pR, aI, aJ, aR, aL, stI, stB, stZ, stJ, uF, uA, Option.bind_some, iaddF, isubF, imulF, iandF, iorF, ixorF, ishlF, ishrF, iushrF, inegF, i2bF, i2lF, l2iF, c_eq, c_ne, c_lt, c_le, c_gt, c_ge, z_eq, z_ne, z_lt, z_le, z_gt, z_ge, j_eq, j_ne, j_gt, n_nul, n_non, tt, zz, hN_u, hU_u, hT_u, hL_u, hI_u, hJ_u, hR_u, sI_u, decide_eq_true_eq, true_and, and_true, if_true, reduceIte, beq_self_eq_true, Bool.true_or, Bool.and_self, Nat.reduceAdd, Nat.reduceSub, Nat.reduceLT, Nat.reduceLeDiff, Nat.reduceBEq, Nat.reduceEqDiff, Bool.or_true, Bool.false_or, List.mem_cons, List.mem_singleton, true_or, or_true, mh_N, mh_U, mh_T, mh_L, mh_R, mh_J, mh_0, mh_s0, mh_I, mh_s, sa_20, sa_21, sa_22, sa_23, sa_24, sa_25, sa_26, sa_27, sa_28, sa_29, sa_30, sa_31, sa_32, sa_33, sa_34, sa_35, sa_36, sa_37, sa_38, sa_39, sa_40, sa_41, sa_42, sa_43, sa_44, sa_45, sa_46, sa_47, sa_48, sa_49, sa_50, sa_51, sa_52, sa_70, sa_71, sa_72, sa_73, sa_74, sa_75, sa_76, sa_77, sa_78, sa_79, sa_80, sa_81, sa_82, sa_83, sa_84, sa_85, sa_86, sa_87, sa_88, sa_89, sa_90, sa_91, sa_92, sa_93, sa_94, sa_95, sa_96, sa_97, sa_98, sa_99, sa_100, sa_101, decide_eq_false_iff_not, s_obj, e_cl, s_ar, e_st, stO, stA, lshrF, lshlF, lorF, landF, lsubF, a_eq, a_ne, ov_N, ov_U, ov_T, ov_L, ov_I, ov_I0, ov_J, ov_J0, ov_R, ov_R0, ov_sI, ov_sI0, ov_sJ, ov_sJ0, ov_sR, ov_sR0, sa_53, sa_54], ?_⟩; simp only [entL, ent, Value.category, List.length_cons, List.length_nil, Nat.reduceAdd, Nat.reduceSub, List.replicate_succ, List.replicate_zero, List.cons_append, List.nil_append, Nat.reduceBEq, Bool.false_eq_true, if_false, beq_self_eq_true, if_true, reduceIte])
  refine seq fun N0 k0 => ?_
  simp only [m_mth, s_sk, s_brk, s_cnt, s_sq, s_if, s_rtn, s_rtnU, s_E, s_I1, s_R1, s_J1, s_Inc, s_h2, s_h3, s_u2, s_u3, e_C, e_h1, e_h2, e_lI, e_lJ, e_lR, e_if, e_and, e_or, e_not, a_nil, a_I, a_J, a_R, e_kS, e_kV, e_kN, e_nA, ok_some, ok_none, ok_bind, ok_guard, ok_guardN, asI_int, asJ_long, asR_ref, asR_rf, asR_null, entL, ent, sto, sto2, ok1, Value.category, va_rf, List.length_cons, List.length_nil, List.length_append, List.length_replicate, List.nil_append, List.cons_append, List.append_nil, List.replicate_succ, List.replicate_zero, List.getElem?_cons_zero, List.getElem?_cons_succ, List.set_cons_zero, List.set_cons_succ, gI, gJ, gR, pI, pJ, pR, aI, aJ, aR, aL, stI, stB, stZ, stJ, uF, uA, Option.bind_some, iaddF, isubF, imulF, iandF, iorF, ixorF, ishlF, ishrF, iushrF, inegF, i2bF, i2lF, l2iF, c_eq, c_ne, c_lt, c_le, c_gt, c_ge, z_eq, z_ne, z_lt, z_le, z_gt, z_ge, j_eq, j_ne, j_gt, n_nul, n_non, tt, zz, hN_u, hU_u, hT_u, hL_u, hI_u, hJ_u, hR_u, sI_u, decide_eq_true_eq, true_and, and_true, if_true, reduceIte, beq_self_eq_true, Bool.true_or, Bool.and_self, Nat.reduceAdd, Nat.reduceSub, Nat.reduceLT, Nat.reduceLeDiff, Nat.reduceBEq, Nat.reduceEqDiff, Bool.or_true, Bool.false_or, List.mem_cons, List.mem_singleton, true_or, or_true, mh_N, mh_U, mh_T, mh_L, mh_R, mh_J, mh_0, mh_s0, mh_I, mh_s, sa_20, sa_21, sa_22, sa_23, sa_24, sa_25, sa_26, sa_27, sa_28, sa_29, sa_30, sa_31, sa_32, sa_33, sa_34, sa_35, sa_36, sa_37, sa_38, sa_39, sa_40, sa_41, sa_42, sa_43, sa_44, sa_45, sa_46, sa_47, sa_48, sa_49, sa_50, sa_51, sa_52, sa_70, sa_71, sa_72, sa_73, sa_74, sa_75, sa_76, sa_77, sa_78, sa_79, sa_80, sa_81, sa_82, sa_83, sa_84, sa_85, sa_86, sa_87, sa_88, sa_89, sa_90, sa_91, sa_92, sa_93, sa_94, sa_95, sa_96, sa_97, sa_98, sa_99, sa_100, sa_101, decide_eq_false_iff_not, s_obj, e_cl, s_ar, e_st, stO, stA, lshrF, lshlF, lorF, landF, lsubF, a_eq, a_ne, ov_N, ov_U, ov_T, ov_L, ov_I, ov_I0, ov_J, ov_J0, ov_R, ov_R0, ov_sI, ov_sI0, ov_sJ, ov_sJ0, ov_sR, ov_sR0, sa_53, sa_54]
  refine k0 _ _ (i_A n0 w0 t0 (fun h3 b3 => i_B b3.1 b3.2.1 b3.2.2.1 (fun h7 b7 => ?_)))
  have w3 := b3.2.1
  have tO3 := b3.2.2.1
  have g7 : GrC Γ0 h7 (O + 12) (O + 13) [] ([], [], 6, 2) := GrC_k b3.2.2.2.2.2.2.2.2.1 (Gk_Fx w3 b7.2.2.2.2.2.2.2.2.2.2 (fun a e => by have e : a = O := e; rw [e, tO3]; decide))
  have r37 : hR h7 O 3 = some (O + 12) := by rw [b7.2.2.2.1, b3.2.2.2.1]; rfl
  refine i_C b7.1 b7.2.1 b7.2.2.1 r37 g7.1.1 g7.1.2.1 g7.1.2.2.2.2.2.1.1.1.1 (fun h10 b10 => seq fun N13 k13 => seq fun N14 k14 => ?_)
  have tO7 := b7.2.2.1
  have g10 : GrC Γ0 h10 (O + 12) (O + 13) [] ([], [], 6, 2) := GrC_k g7 (Gk_Fx b7.2.1 b10.2.2.2.2.2.2.2.2.2 (fun a e => by have e : a = O := e; rw [e, tO7]; decide))
  have r310 : hR h10 O 3 = some (O + 12) := by rw [b10.2.2.2.1, if_neg (by decide)]; exact r37
  have n10 := b10.1
  simp only [m_mth, s_sk, s_brk, s_cnt, s_sq, s_if, s_rtn, s_rtnU, s_E, s_I1, s_R1, s_J1, s_Inc, s_h2, s_h3, s_u2, s_u3, e_C, e_h1, e_h2, e_lI, e_lJ, e_lR, e_if, e_and, e_or, e_not, a_nil, a_I, a_J, a_R, e_kS, e_kV, e_kN, e_nA, ok_some, ok_none, ok_bind, ok_guard, ok_guardN, asI_int, asJ_long, asR_ref, asR_rf, asR_null, entL, ent, sto, sto2, ok1, Value.category, va_rf, List.length_cons, List.length_nil, List.length_append, List.length_replicate, List.nil_append, List.cons_append, List.append_nil, List.replicate_succ, List.replicate_zero, List.getElem?_cons_zero, List.getElem?_cons_succ, List.set_cons_zero, List.set_cons_succ, gI, gJ, gR, pI, pJ, pR, aI, aJ, aR, aL, stI, stB, stZ, stJ, uF, uA, Option.bind_some, iaddF, isubF, imulF, iandF, iorF, ixorF, ishlF, ishrF, iushrF, inegF, i2bF, i2lF, l2iF, c_eq, c_ne, c_lt, c_le, c_gt, c_ge, z_eq, z_ne, z_lt, z_le, z_gt, z_ge, j_eq, j_ne, j_gt, n_nul, n_non, tt, zz, hN_u, hU_u, hT_u, hL_u, hI_u, hJ_u, hR_u, sI_u, decide_eq_true_eq, true_and, and_true, if_true, reduceIte, beq_self_eq_true, Bool.true_or, Bool.and_self, Nat.reduceAdd, Nat.reduceSub, Nat.reduceLT, Nat.reduceLeDiff, Nat.reduceBEq, Nat.reduceEqDiff, Bool.or_true, Bool.false_or, List.mem_cons, List.mem_singleton, true_or, or_true, mh_N, mh_U, mh_T, mh_L, mh_R, mh_J, mh_0, mh_s0, mh_I, mh_s, sa_20, sa_21, sa_22, sa_23, sa_24, sa_25, sa_26, sa_27, sa_28, sa_29, sa_30, sa_31, sa_32, sa_33, sa_34, sa_35, sa_36, sa_37, sa_38, sa_39, sa_40, sa_41, sa_42, sa_43, sa_44, sa_45, sa_46, sa_47, sa_48, sa_49, sa_50, sa_51, sa_52, sa_70, sa_71, sa_72, sa_73, sa_74, sa_75, sa_76, sa_77, sa_78, sa_79, sa_80, sa_81, sa_82, sa_83, sa_84, sa_85, sa_86, sa_87, sa_88, sa_89, sa_90, sa_91, sa_92, sa_93, sa_94, sa_95, sa_96, sa_97, sa_98, sa_99, sa_100, sa_101, decide_eq_false_iff_not, s_obj, e_cl, s_ar, e_st, stO, stA, lshrF, lshlF, lorF, landF, lsubF, a_eq, a_ne, ov_N, ov_U, ov_T, ov_L, ov_I, ov_I0, ov_J, ov_J0, ov_R, ov_R0, ov_sI, ov_sI0, ov_sJ, ov_sJ0, ov_sR, ov_sR0, sa_53, sa_54]
  refine k14 _ _ (q_fits n10 b10.2.1 b10.2.2.1 r310 g10.1.1 g10.1.2.1 g10.1.2.2.2.2.2.1.1.1.1 b10.2.2.2.2.2.2.2.2.1.1 b10.2.2.2.2.2.2.2.2.1.2 (fun h11 n11 z11 w11 ft11 => k13 _ _ ?_))
  have cO11 := z11.2.2 O (by omega)
  have sO11 := cO11.2.2 (fun e => by have e : O = O + 31 := e; omega)
  have r311 : hR h11 O 3 = some (O + 12) := by rw [sO11.2.2]; exact r310
  refine i_D (c := 116) (by decide) n11 w11 (cO11.1.trans b10.2.2.1) r311 (fun h12 b12 => i_D (c := 119) (by decide) b12.1 b12.2.1 b12.2.2.1 (by rw [b12.2.2.2.1, if_neg (by decide)]; exact r311) (fun h13 b13 => ?_))
  simp only [m_mth, s_sk, s_brk, s_cnt, s_sq, s_if, s_rtn, s_rtnU, s_E, s_I1, s_R1, s_J1, s_Inc, s_h2, s_h3, s_u2, s_u3, e_C, e_h1, e_h2, e_lI, e_lJ, e_lR, e_if, e_and, e_or, e_not, a_nil, a_I, a_J, a_R, e_kS, e_kV, e_kN, e_nA, ok_some, ok_none, ok_bind, ok_guard, ok_guardN, asI_int, asJ_long, asR_ref, asR_rf, asR_null, entL, ent, sto, sto2, ok1, Value.category, va_rf, List.length_cons, List.length_nil, List.length_append, List.length_replicate, List.nil_append, List.cons_append, List.append_nil, List.replicate_succ, List.replicate_zero, List.getElem?_cons_zero, List.getElem?_cons_succ, List.set_cons_zero, List.set_cons_succ, gI, gJ, gR, pI, pJ, pR, aI, aJ, aR, aL, stI, stB, stZ, stJ, uF, uA, Option.bind_some, iaddF, isubF, imulF, iandF, iorF, ixorF, ishlF, ishrF, iushrF, inegF, i2bF, i2lF, l2iF, c_eq, c_ne, c_lt, c_le, c_gt, c_ge, z_eq, z_ne, z_lt, z_le, z_gt, z_ge, j_eq, j_ne, j_gt, n_nul, n_non, tt, zz, hN_u, hU_u, hT_u, hL_u, hI_u, hJ_u, hR_u, sI_u, decide_eq_true_eq, true_and, and_true, if_true, reduceIte, beq_self_eq_true, Bool.true_or, Bool.and_self, Nat.reduceAdd, Nat.reduceSub, Nat.reduceLT, Nat.reduceLeDiff, Nat.reduceBEq, Nat.reduceEqDiff, Bool.or_true, Bool.false_or, List.mem_cons, List.mem_singleton, true_or, or_true, mh_N, mh_U, mh_T, mh_L, mh_R, mh_J, mh_0, mh_s0, mh_I, mh_s, sa_20, sa_21, sa_22, sa_23, sa_24, sa_25, sa_26, sa_27, sa_28, sa_29, sa_30, sa_31, sa_32, sa_33, sa_34, sa_35, sa_36, sa_37, sa_38, sa_39, sa_40, sa_41, sa_42, sa_43, sa_44, sa_45, sa_46, sa_47, sa_48, sa_49, sa_50, sa_51, sa_52, sa_70, sa_71, sa_72, sa_73, sa_74, sa_75, sa_76, sa_77, sa_78, sa_79, sa_80, sa_81, sa_82, sa_83, sa_84, sa_85, sa_86, sa_87, sa_88, sa_89, sa_90, sa_91, sa_92, sa_93, sa_94, sa_95, sa_96, sa_97, sa_98, sa_99, sa_100, sa_101, decide_eq_false_iff_not, s_obj, e_cl, s_ar, e_st, stO, stA, lshrF, lshlF, lorF, landF, lsubF, a_eq, a_ne, ov_N, ov_U, ov_T, ov_L, ov_I, ov_I0, ov_J, ov_J0, ov_R, ov_R0, ov_sI, ov_sI0, ov_sJ, ov_sJ0, ov_sR, ov_sR0, sa_53, sa_54]
  have n13 := b13.1
  have y0 := (f_y b3 b7 b10 z11 b12 b13).2.2.2.2
  exact k h13 (CI_first b3 b7 b10 z11 b12 b13 n11 w11 ft11 R0' I0 J0) (((f0.w (A' := fun x => x = O ∨ x = O + 31) (fun _ _ y => y.elim) (Nat.le_refl _) (Nat.le_refl _)).tr y0).w (fun x hx y => by have y : x = O ∨ x = O + 31 := y; omega) (by omega) (by omega)) (by omega)
