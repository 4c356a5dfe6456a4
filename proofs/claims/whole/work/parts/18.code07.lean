/-! the program: part 7 -/
theorem D_State_rulesWith_0 : decode cX9_rulesWith 0 = .ok (.iconst (0), 1) := by decide +kernel
theorem D_State_rulesWith_1 : decode cX9_rulesWith 1 = .ok (.istore_n 2, 1) := by decide +kernel
theorem D_State_rulesWith_2 : decode cX9_rulesWith 2 = .ok (.iconst (0), 1) := by decide +kernel
theorem D_State_rulesWith_3 : decode cX9_rulesWith 3 = .ok (.istore_n 3, 1) := by decide +kernel
theorem D_State_rulesWith_4 : decode cX9_rulesWith 4 = .ok (.iload_n 3, 1) := by decide +kernel
theorem D_State_rulesWith_5 : decode cX9_rulesWith 5 = .ok (.aload_n 0, 1) := by decide +kernel
theorem D_State_rulesWith_6 : decode cX9_rulesWith 6 = .ok (.getfield 13, 3) := by decide +kernel
theorem D_State_rulesWith_9 : decode cX9_rulesWith 9 = .ok (.arraylength, 1) := by decide +kernel
theorem D_State_rulesWith_10 : decode cX9_rulesWith 10 = .ok (.if_icmp .ge (27), 3) := by decide +kernel
theorem D_State_rulesWith_13 : decode cX9_rulesWith 13 = .ok (.iload_n 2, 1) := by decide +kernel
theorem D_State_rulesWith_14 : decode cX9_rulesWith 14 = .ok (.aload_n 0, 1) := by decide +kernel
theorem D_State_rulesWith_15 : decode cX9_rulesWith 15 = .ok (.getfield 13, 3) := by decide +kernel
theorem D_State_rulesWith_18 : decode cX9_rulesWith 18 = .ok (.iload_n 3, 1) := by decide +kernel
theorem D_State_rulesWith_19 : decode cX9_rulesWith 19 = .ok (.aaload, 1) := by decide +kernel
theorem D_State_rulesWith_20 : decode cX9_rulesWith 20 = .ok (.invokevirtual 38, 3) := by decide +kernel
theorem D_State_rulesWith_23 : decode cX9_rulesWith 23 = .ok (.iload_n 1, 1) := by decide +kernel
theorem D_State_rulesWith_24 : decode cX9_rulesWith 24 = .ok (.ishr, 1) := by decide +kernel
theorem D_State_rulesWith_25 : decode cX9_rulesWith 25 = .ok (.iconst (1), 1) := by decide +kernel
theorem D_State_rulesWith_26 : decode cX9_rulesWith 26 = .ok (.iand, 1) := by decide +kernel
theorem D_State_rulesWith_27 : decode cX9_rulesWith 27 = .ok (.iload_n 3, 1) := by decide +kernel
theorem D_State_rulesWith_28 : decode cX9_rulesWith 28 = .ok (.ishl, 1) := by decide +kernel
theorem D_State_rulesWith_29 : decode cX9_rulesWith 29 = .ok (.ior, 1) := by decide +kernel
theorem D_State_rulesWith_30 : decode cX9_rulesWith 30 = .ok (.istore_n 2, 1) := by decide +kernel
theorem D_State_rulesWith_31 : decode cX9_rulesWith 31 = .ok (.iinc 3 (1), 3) := by decide +kernel
theorem D_State_rulesWith_34 : decode cX9_rulesWith 34 = .ok (.goto (-30), 3) := by decide +kernel
theorem D_State_rulesWith_37 : decode cX9_rulesWith 37 = .ok (.iload_n 2, 1) := by decide +kernel
theorem D_State_rulesWith_38 : decode cX9_rulesWith 38 = .ok (.ireturn, 1) := by decide +kernel
def K_State_rulesWith : SC := (cX9_rulesWith, "TwoLevels$State", 4, 2, false, [], NoQ)
def d_State_rulesWith : MD Int32 := mth tt 4 (sq (sI1 2 (eC (nI 0)))
 (sq (sq (sI1 3 (eC (nI 0)))
 (loop (eh2 c_lt (lI 3) (eh1 aL (eh1 (gR 10 1) (lR 0))))
 (sI1 2 (eh2 iorF (lI 2) (eh2 ishlF (eh2 iandF (eh2 ishrF (kV 7 d_Rule_allBits (eh2 (aR (.object "TwoLevels$Rule")) (eh1 (gR 10 1) (lR 0)) (lI 3)) []) (lI 1)) (eC (nI 1))) (lI 3))))
 (sInc 3 (nI 1))))
 (rtn (lI 2))))
theorem m_State_rulesWith : MJ 2 [] yX9_rulesWith (some .int) eI (d_State_rulesWith) := MJ_of (K := K_State_rulesWith) (ri := .ireturn) (n1 := 0) (n2 := 0) (n3 := 0)
 (SJ_sq (p0 := 0) (p1 := 2) (nN := 0) (nB := 0) (nC := 0) (SJ_istore_n (i := 2) (j := 2) (p0 := 0) (p1 := 1) (EJ_iconst (n := 0) (v := (nI 0)) (pc := 0) D_State_rulesWith_0 (by decide +kernel)) D_State_rulesWith_1 rfl)
 (SJ_sq (p0 := 2) (p1 := 37) (nN := 0) (nB := 0) (nC := 0) (SJ_sq (p0 := 2) (p1 := 4) (nN := 37) (nB := 0) (nC := 0) (SJ_istore_n (i := 3) (j := 3) (p0 := 2) (p1 := 3) (EJ_iconst (n := 0) (v := (nI 0)) (pc := 2) D_State_rulesWith_2 (by decide +kernel)) D_State_rulesWith_3 rfl)
 (SJ_loop (p0 := 4) (pB := 13) (pS := 31) (pE := 37) (CJ_lt' (off := 27) (tgt := 37) (p0 := 4) (p1 := 5) (p2 := 10) (EJ_iload_n (j := 3) (i := 3) (pc := 4) D_State_rulesWith_4 rfl) (EJ_alen (p0 := 5) (p1 := 9) (EJ_getR (t := 10) (c := 9) (kf := 1) (r := (RX9, TX9, 4)) (p0 := 5) (p1 := 6) (EJ_aload_n (j := 0) (i := 0) (pc := 5) D_State_rulesWith_5 rfl) D_State_rulesWith_6 ⟨rfl, rfl, by decide, q_176⟩ (fun _ _ => rfl)) D_State_rulesWith_9) D_State_rulesWith_10 rfl)
 (SJ_istore_n (i := 2) (j := 2) (p0 := 13) (p1 := 30) (EJ_ior (p0 := 13) (p1 := 14) (p2 := 29) (EJ_iload_n (j := 2) (i := 2) (pc := 13) D_State_rulesWith_13 rfl) (EJ_ishl (p0 := 14) (p1 := 27) (p2 := 28) (EJ_iand (p0 := 14) (p1 := 25) (p2 := 26) (EJ_ishr (p0 := 14) (p1 := 23) (p2 := 24) (EJ_callV (t := 7) (c := 6) (r := (RX6, TX6, 5)) (p0 := 14) (p1 := 20) (p2 := 20) (EJ_aald (p0 := 14) (p1 := 18) (p2 := 19) (EJ_getR (t := 10) (c := 9) (kf := 1) (r := (RX9, TX9, 4)) (p0 := 14) (p1 := 15) (EJ_aload_n (j := 0) (i := 0) (pc := 14) D_State_rulesWith_14 rfl) D_State_rulesWith_15 ⟨rfl, rfl, by decide, q_176⟩ (fun _ _ => rfl)) (EJ_iload_n (j := 3) (i := 3) (pc := 18) D_State_rulesWith_18 rfl) D_State_rulesWith_19 (Or.inl ⟨_, rfl⟩)) AJ_nil m_Rule_allBits E1_I D_State_rulesWith_20 rfl rfl rfl q_645 q_646 q_647 q_102 ⟨by decide +kernel, by decide +kernel, by decide +kernel⟩ (by decide) (show 1 + 1 ≤ 2 from by decide) (fun _ h => absurd h List.not_mem_nil)) (EJ_iload_n (j := 1) (i := 1) (pc := 23) D_State_rulesWith_23 rfl) D_State_rulesWith_24) (EJ_iconst (n := 1) (v := (nI 1)) (pc := 25) D_State_rulesWith_25 (by decide +kernel)) D_State_rulesWith_26) (EJ_iload_n (j := 3) (i := 3) (pc := 27) D_State_rulesWith_27 rfl) D_State_rulesWith_28) D_State_rulesWith_29) D_State_rulesWith_30 rfl)
 (SJ_post (SJ_iinc (i := 3) (n := 1) (v := (nI 1)) (pc := 31) D_State_rulesWith_31 (by decide +kernel)) (Lead.goto (K := K_State_rulesWith) (pc := 34) (tgt := 4) D_State_rulesWith_34 rfl))))
 (SJ_ret (p0 := 37) (p1 := 38) (EJ_iload_n (j := 2) (i := 2) (pc := 37) D_State_rulesWith_37 rfl) D_State_rulesWith_38)))
 RTm_int q_644 (by decide +kernel) rfl (fun h => by cases h) (show 4 ≤ 40 from by decide) (fun _ => trivial)
theorem D_TL_meta_0 : decode cX11_meta 0 = .ok (.aload_n 0, 1) := by decide +kernel
theorem D_TL_meta_1 : decode cX11_meta 1 = .ok (.getfield 30, 3) := by decide +kernel
theorem D_TL_meta_4 : decode cX11_meta 4 = .ok (.getfield 53, 3) := by decide +kernel
theorem D_TL_meta_7 : decode cX11_meta 7 = .ok (.iload_n 1, 1) := by decide +kernel
theorem D_TL_meta_8 : decode cX11_meta 8 = .ok (.invokevirtual 182, 3) := by decide +kernel
theorem D_TL_meta_11 : decode cX11_meta 11 = .ok (.istore_n 3, 1) := by decide +kernel
theorem D_TL_meta_12 : decode cX11_meta 12 = .ok (.iload_n 3, 1) := by decide +kernel
theorem D_TL_meta_13 : decode cX11_meta 13 = .ok (.iconst (-1), 1) := by decide +kernel
theorem D_TL_meta_14 : decode cX11_meta 14 = .ok (.if_icmp .ne (5), 3) := by decide +kernel
theorem D_TL_meta_17 : decode cX11_meta 17 = .ok (.iconst (-1), 1) := by decide +kernel
theorem D_TL_meta_18 : decode cX11_meta 18 = .ok (.ireturn, 1) := by decide +kernel
theorem D_TL_meta_19 : decode cX11_meta 19 = .ok (.iload_n 2, 1) := by decide +kernel
theorem D_TL_meta_20 : decode cX11_meta 20 = .ok (.tableswitch 112 0 4 #[36, 48, 67, 80, 103], 36) := by decide +kernel
theorem D_TL_meta_56 : decode cX11_meta 56 = .ok (.aload_n 0, 1) := by decide +kernel
theorem D_TL_meta_57 : decode cX11_meta 57 = .ok (.getfield 30, 3) := by decide +kernel
theorem D_TL_meta_60 : decode cX11_meta 60 = .ok (.getfield 53, 3) := by decide +kernel
theorem D_TL_meta_63 : decode cX11_meta 63 = .ok (.iload_n 3, 1) := by decide +kernel
theorem D_TL_meta_64 : decode cX11_meta 64 = .ok (.invokevirtual 186, 3) := by decide +kernel
theorem D_TL_meta_67 : decode cX11_meta 67 = .ok (.ireturn, 1) := by decide +kernel
theorem D_TL_meta_68 : decode cX11_meta 68 = .ok (.aload_n 0, 1) := by decide +kernel
theorem D_TL_meta_69 : decode cX11_meta 69 = .ok (.getfield 30, 3) := by decide +kernel
theorem D_TL_meta_72 : decode cX11_meta 72 = .ok (.getfield 53, 3) := by decide +kernel
theorem D_TL_meta_75 : decode cX11_meta 75 = .ok (.iload_n 3, 1) := by decide +kernel
theorem D_TL_meta_76 : decode cX11_meta 76 = .ok (.aload_n 0, 1) := by decide +kernel
theorem D_TL_meta_77 : decode cX11_meta 77 = .ok (.getfield 30, 3) := by decide +kernel
theorem D_TL_meta_80 : decode cX11_meta 80 = .ok (.getfield 105, 3) := by decide +kernel
theorem D_TL_meta_83 : decode cX11_meta 83 = .ok (.invokevirtual 189, 3) := by decide +kernel
theorem D_TL_meta_86 : decode cX11_meta 86 = .ok (.ireturn, 1) := by decide +kernel
theorem D_TL_meta_87 : decode cX11_meta 87 = .ok (.aload_n 0, 1) := by decide +kernel
theorem D_TL_meta_88 : decode cX11_meta 88 = .ok (.getfield 30, 3) := by decide +kernel
theorem D_TL_meta_91 : decode cX11_meta 91 = .ok (.getfield 53, 3) := by decide +kernel
theorem D_TL_meta_94 : decode cX11_meta 94 = .ok (.iload_n 3, 1) := by decide +kernel
theorem D_TL_meta_95 : decode cX11_meta 95 = .ok (.iconst (0), 1) := by decide +kernel
theorem D_TL_meta_96 : decode cX11_meta 96 = .ok (.invokevirtual 189, 3) := by decide +kernel
theorem D_TL_meta_99 : decode cX11_meta 99 = .ok (.ireturn, 1) := by decide +kernel
theorem D_TL_meta_100 : decode cX11_meta 100 = .ok (.aload_n 0, 1) := by decide +kernel
theorem D_TL_meta_101 : decode cX11_meta 101 = .ok (.getfield 30, 3) := by decide +kernel
theorem D_TL_meta_104 : decode cX11_meta 104 = .ok (.getfield 53, 3) := by decide +kernel
theorem D_TL_meta_107 : decode cX11_meta 107 = .ok (.invokevirtual 192, 3) := by decide +kernel
theorem D_TL_meta_110 : decode cX11_meta 110 = .ok (.iload_n 3, 1) := by decide +kernel
theorem D_TL_meta_111 : decode cX11_meta 111 = .ok (.ishr, 1) := by decide +kernel
theorem D_TL_meta_112 : decode cX11_meta 112 = .ok (.iconst (1), 1) := by decide +kernel
theorem D_TL_meta_113 : decode cX11_meta 113 = .ok (.iand, 1) := by decide +kernel
theorem D_TL_meta_114 : decode cX11_meta 114 = .ok (.ifCond .ne (7), 3) := by decide +kernel
theorem D_TL_meta_117 : decode cX11_meta 117 = .ok (.iconst (1), 1) := by decide +kernel
theorem D_TL_meta_118 : decode cX11_meta 118 = .ok (.goto (4), 3) := by decide +kernel
theorem D_TL_meta_121 : decode cX11_meta 121 = .ok (.iconst (0), 1) := by decide +kernel
theorem D_TL_meta_122 : decode cX11_meta 122 = .ok (.ireturn, 1) := by decide +kernel
theorem D_TL_meta_123 : decode cX11_meta 123 = .ok (.aload_n 0, 1) := by decide +kernel
theorem D_TL_meta_124 : decode cX11_meta 124 = .ok (.getfield 30, 3) := by decide +kernel
theorem D_TL_meta_127 : decode cX11_meta 127 = .ok (.iload_n 3, 1) := by decide +kernel
theorem D_TL_meta_128 : decode cX11_meta 128 = .ok (.invokevirtual 196, 3) := by decide +kernel
theorem D_TL_meta_131 : decode cX11_meta 131 = .ok (.ireturn, 1) := by decide +kernel
theorem D_TL_meta_132 : decode cX11_meta 132 = .ok (.iconst (-1), 1) := by decide +kernel
theorem D_TL_meta_133 : decode cX11_meta 133 = .ok (.ireturn, 1) := by decide +kernel
def K_TL_meta : SC := (cX11_meta, "TwoLevels", 4, 3, false, [], NoQ)
def d_TL_meta : MD Int32 := mth tt 4 (sq (sI1 3 (kV 11 d_Upper_slotOf (eh1 (gR 10 0) (eh1 (gR 12 3) (lR 0))) [vI (lI 1)]))
 (sq (sIf (eh2 c_eq (lI 3) (eC (-1))) (rtn (eC (-1))) sk)
 (sSw (lI 2) [((rtn (kV 11 d_Upper_alternatives (eh1 (gR 10 0) (eh1 (gR 12 3) (lR 0))) [vI (lI 3)])), 56),
 ((rtn (kV 11 d_Upper_hasMany (eh1 (gR 10 0) (eh1 (gR 12 3) (lR 0))) [vI (lI 3), vI (eh1 (gI 10 3) (eh1 (gR 12 3) (lR 0)))])), 68),
 ((rtn (kV 11 d_Upper_hasMany (eh1 (gR 10 0) (eh1 (gR 12 3) (lR 0))) [vI (lI 3), vI (eC (nI 0))])), 87),
 ((rtn (eIf (eh1 z_eq (eh2 iandF (eh2 ishrF (kV 11 d_Upper_barren (eh1 (gR 10 0) (eh1 (gR 12 3) (lR 0))) []) (lI 3)) (eC (nI 1)))) (eC (nI 1)) (eC (nI 0)))), 100),
 ((rtn (kV 10 d_State_rulesWith (eh1 (gR 12 3) (lR 0)) [vI (lI 3)])), 123)]
 (rtn (eC (-1))))))
theorem m_TL_meta : MJ 3 [] yX11_meta (some .int) eI (d_TL_meta) := MJ_of (K := K_TL_meta) (ri := .ireturn) (n1 := 0) (n2 := 0) (n3 := 0)
 (SJ_sq (p0 := 0) (p1 := 12) (nN := 0) (nB := 0) (nC := 0) (SJ_istore_n (i := 3) (j := 3) (p0 := 0) (p1 := 11) (EJ_callV (t := 11) (c := 10) (r := (RX10, TX10, 7)) (p0 := 0) (p1 := 7) (p2 := 8) (EJ_getR (t := 10) (c := 9) (kf := 0) (r := (RX9, TX9, 4)) (p0 := 0) (p1 := 4) (EJ_getR (t := 12) (c := 11) (kf := 3) (r := (RX11, TX11, 16)) (p0 := 0) (p1 := 1) (EJ_aload_n (j := 0) (i := 0) (pc := 0) D_TL_meta_0 rfl) D_TL_meta_1 ⟨rfl, rfl, by decide, q_258⟩ (fun _ _ => rfl)) D_TL_meta_4 ⟨rfl, rfl, by decide, q_174⟩ (fun _ _ => rfl)) (AJ_I (p0 := 7) (p1 := 8) (p2 := 8) (EJ_iload_n (j := 1) (i := 1) (pc := 7) D_TL_meta_7 rfl) AJ_nil) m_Upper_slotOf E1_I D_TL_meta_8 rfl rfl rfl q_624 q_625 q_626 q_93 ⟨by decide +kernel, by decide +kernel, by decide +kernel⟩ (by decide) (show 1 + 1 ≤ 3 from by decide) (fun _ h => absurd h List.not_mem_nil)) D_TL_meta_11 rfl)
 (SJ_sq (p0 := 12) (p1 := 19) (nN := 0) (nB := 0) (nC := 0) (SJ_if (p0 := 12) (pT := 17) (pF := 19) (nN := 19) (nB := 0) (nC := 0) (CJ_eq' (off := 5) (tgt := 19) (p0 := 12) (p1 := 13) (p2 := 14) (EJ_iload_n (j := 3) (i := 3) (pc := 12) D_TL_meta_12 rfl) (EJ_iconst (n := -1) (v := (-1)) (pc := 13) D_TL_meta_13 (by decide +kernel)) D_TL_meta_14 rfl) (SJ_ret (p0 := 17) (p1 := 18) (EJ_iconst (n := -1) (v := (-1)) (pc := 17) D_TL_meta_17 (by decide +kernel)) D_TL_meta_18) SJ_sk)
 (SJ_sw (p0 := 19) (p1 := 20) (pD := 132) (EJ_iload_n (j := 2) (i := 2) (pc := 19) D_TL_meta_19 rfl) D_TL_meta_20 (by decide) (fun j qq hq => match j, hq with | 0, hq => (by cases hq; exact ⟨⟨_, rfl, rfl⟩, (SJ_ret (p0 := 56) (p1 := 67) (EJ_callV (t := 11) (c := 10) (r := (RX10, TX10, 7)) (p0 := 56) (p1 := 63) (p2 := 64) (EJ_getR (t := 10) (c := 9) (kf := 0) (r := (RX9, TX9, 4)) (p0 := 56) (p1 := 60) (EJ_getR (t := 12) (c := 11) (kf := 3) (r := (RX11, TX11, 16)) (p0 := 56) (p1 := 57) (EJ_aload_n (j := 0) (i := 0) (pc := 56) D_TL_meta_56 rfl) D_TL_meta_57 ⟨rfl, rfl, by decide, q_258⟩ (fun _ _ => rfl)) D_TL_meta_60 ⟨rfl, rfl, by decide, q_174⟩ (fun _ _ => rfl)) (AJ_I (p0 := 63) (p1 := 64) (p2 := 64) (EJ_iload_n (j := 3) (i := 3) (pc := 63) D_TL_meta_63 rfl) AJ_nil) m_Upper_alternatives E1_I D_TL_meta_64 rfl rfl rfl q_628 q_629 q_630 q_93 ⟨by decide +kernel, by decide +kernel, by decide +kernel⟩ (by decide) (show 1 + 1 ≤ 3 from by decide) (fun _ h => absurd h List.not_mem_nil)) D_TL_meta_67)⟩) | 1, hq => (by cases hq; exact ⟨⟨_, rfl, rfl⟩, (SJ_ret (p0 := 68) (p1 := 86) (EJ_callV (t := 11) (c := 10) (r := (RX10, TX10, 7)) (p0 := 68) (p1 := 75) (p2 := 83) (EJ_getR (t := 10) (c := 9) (kf := 0) (r := (RX9, TX9, 4)) (p0 := 68) (p1 := 72) (EJ_getR (t := 12) (c := 11) (kf := 3) (r := (RX11, TX11, 16)) (p0 := 68) (p1 := 69) (EJ_aload_n (j := 0) (i := 0) (pc := 68) D_TL_meta_68 rfl) D_TL_meta_69 ⟨rfl, rfl, by decide, q_258⟩ (fun _ _ => rfl)) D_TL_meta_72 ⟨rfl, rfl, by decide, q_174⟩ (fun _ _ => rfl)) (AJ_I (p0 := 75) (p1 := 76) (p2 := 83) (EJ_iload_n (j := 3) (i := 3) (pc := 75) D_TL_meta_75 rfl) (AJ_I (p0 := 76) (p1 := 83) (p2 := 83) (EJ_getI (t := 10) (c := 9) (kf := 3) (r := (RX9, TX9, 4)) (p0 := 76) (p1 := 80) (EJ_getR (t := 12) (c := 11) (kf := 3) (r := (RX11, TX11, 16)) (p0 := 76) (p1 := 77) (EJ_aload_n (j := 0) (i := 0) (pc := 76) D_TL_meta_76 rfl) D_TL_meta_77 ⟨rfl, rfl, by decide, q_258⟩ (fun _ _ => rfl)) D_TL_meta_80 ⟨rfl, rfl, by decide, q_182⟩ (fun _ _ => rfl)) AJ_nil)) m_Upper_hasMany E1_I D_TL_meta_83 rfl rfl rfl q_632 q_633 q_634 q_93 ⟨by decide +kernel, by decide +kernel, by decide +kernel⟩ (by decide) (show 1 + 1 ≤ 3 from by decide) (fun _ h => absurd h List.not_mem_nil)) D_TL_meta_86)⟩) | 2, hq => (by cases hq; exact ⟨⟨_, rfl, rfl⟩, (SJ_ret (p0 := 87) (p1 := 99) (EJ_callV (t := 11) (c := 10) (r := (RX10, TX10, 7)) (p0 := 87) (p1 := 94) (p2 := 96) (EJ_getR (t := 10) (c := 9) (kf := 0) (r := (RX9, TX9, 4)) (p0 := 87) (p1 := 91) (EJ_getR (t := 12) (c := 11) (kf := 3) (r := (RX11, TX11, 16)) (p0 := 87) (p1 := 88) (EJ_aload_n (j := 0) (i := 0) (pc := 87) D_TL_meta_87 rfl) D_TL_meta_88 ⟨rfl, rfl, by decide, q_258⟩ (fun _ _ => rfl)) D_TL_meta_91 ⟨rfl, rfl, by decide, q_174⟩ (fun _ _ => rfl)) (AJ_I (p0 := 94) (p1 := 95) (p2 := 96) (EJ_iload_n (j := 3) (i := 3) (pc := 94) D_TL_meta_94 rfl) (AJ_I (p0 := 95) (p1 := 96) (p2 := 96) (EJ_iconst (n := 0) (v := (nI 0)) (pc := 95) D_TL_meta_95 (by decide +kernel)) AJ_nil)) m_Upper_hasMany E1_I D_TL_meta_96 rfl rfl rfl q_632 q_633 q_634 q_93 ⟨by decide +kernel, by decide +kernel, by decide +kernel⟩ (by decide) (show 1 + 1 ≤ 3 from by decide) (fun _ h => absurd h List.not_mem_nil)) D_TL_meta_99)⟩) | 3, hq => (by cases hq; exact ⟨⟨_, rfl, rfl⟩, (SJ_ret (p0 := 100) (p1 := 122) (EJ_if (p0 := 100) (pT := 117) (pF := 121) (pE := 118) (p1 := 122) (CZ_eq' (off := 7) (tgt := 121) (p0 := 100) (p1 := 114) (EJ_iand (p0 := 100) (p1 := 112) (p2 := 113) (EJ_ishr (p0 := 100) (p1 := 110) (p2 := 111) (EJ_callV (t := 11) (c := 10) (r := (RX10, TX10, 7)) (p0 := 100) (p1 := 107) (p2 := 107) (EJ_getR (t := 10) (c := 9) (kf := 0) (r := (RX9, TX9, 4)) (p0 := 100) (p1 := 104) (EJ_getR (t := 12) (c := 11) (kf := 3) (r := (RX11, TX11, 16)) (p0 := 100) (p1 := 101) (EJ_aload_n (j := 0) (i := 0) (pc := 100) D_TL_meta_100 rfl) D_TL_meta_101 ⟨rfl, rfl, by decide, q_258⟩ (fun _ _ => rfl)) D_TL_meta_104 ⟨rfl, rfl, by decide, q_174⟩ (fun _ _ => rfl)) AJ_nil m_Upper_barren E1_I D_TL_meta_107 rfl rfl rfl q_636 q_637 q_638 q_93 ⟨by decide +kernel, by decide +kernel, by decide +kernel⟩ (by decide) (show 2 + 1 ≤ 3 from by decide) (fun _ h => absurd h List.not_mem_nil)) (EJ_iload_n (j := 3) (i := 3) (pc := 110) D_TL_meta_110 rfl) D_TL_meta_111) (EJ_iconst (n := 1) (v := (nI 1)) (pc := 112) D_TL_meta_112 (by decide +kernel)) D_TL_meta_113) D_TL_meta_114 rfl) (EJ_iconst (n := 1) (v := (nI 1)) (pc := 117) D_TL_meta_117 (by decide +kernel)) (Lead.goto (K := K_TL_meta) (pc := 118) (tgt := 122) D_TL_meta_118 rfl) (EJ_iconst (n := 0) (v := (nI 0)) (pc := 121) D_TL_meta_121 (by decide +kernel))) D_TL_meta_122)⟩) | 4, hq => (by cases hq; exact ⟨⟨_, rfl, rfl⟩, (SJ_ret (p0 := 123) (p1 := 131) (EJ_callV (t := 10) (c := 9) (r := (RX9, TX9, 4)) (p0 := 123) (p1 := 127) (p2 := 128) (EJ_getR (t := 12) (c := 11) (kf := 3) (r := (RX11, TX11, 16)) (p0 := 123) (p1 := 124) (EJ_aload_n (j := 0) (i := 0) (pc := 123) D_TL_meta_123 rfl) D_TL_meta_124 ⟨rfl, rfl, by decide, q_258⟩ (fun _ _ => rfl)) (AJ_I (p0 := 127) (p1 := 128) (p2 := 128) (EJ_iload_n (j := 3) (i := 3) (pc := 127) D_TL_meta_127 rfl) AJ_nil) m_State_rulesWith E1_I D_TL_meta_128 rfl rfl rfl q_641 q_642 q_643 q_94 ⟨by decide +kernel, by decide +kernel, by decide +kernel⟩ (by decide) (show 2 + 1 ≤ 3 from by decide) (fun _ h => absurd h List.not_mem_nil)) D_TL_meta_131)⟩) | (_ + 5), hq => by simp at hq) rfl (SJ_ret (p0 := 132) (p1 := 133) (EJ_iconst (n := -1) (v := (-1)) (pc := 132) D_TL_meta_132 (by decide +kernel)) D_TL_meta_133))))
 RTm_int q_623 (by decide +kernel) rfl (fun h => by cases h) (show 4 ≤ 40 from by decide) (fun _ => trivial)
theorem D_TL_node_0 : decode cX11_node 0 = .ok (.aload_n 0, 1) := by decide +kernel
theorem D_TL_node_1 : decode cX11_node 1 = .ok (.invokevirtual 271, 3) := by decide +kernel
theorem D_TL_node_4 : decode cX11_node 4 = .ok (.iconst (1), 1) := by decide +kernel
theorem D_TL_node_5 : decode cX11_node 5 = .ok (.if_icmp .eq (5), 3) := by decide +kernel
theorem D_TL_node_8 : decode cX11_node 8 = .ok (.iconst (-1), 1) := by decide +kernel
theorem D_TL_node_9 : decode cX11_node 9 = .ok (.ireturn, 1) := by decide +kernel
theorem D_TL_node_10 : decode cX11_node 10 = .ok (.iload_n 1, 1) := by decide +kernel
theorem D_TL_node_11 : decode cX11_node 11 = .ok (.iconst (-1), 1) := by decide +kernel
theorem D_TL_node_12 : decode cX11_node 12 = .ok (.if_icmp .ne (15), 3) := by decide +kernel
theorem D_TL_node_15 : decode cX11_node 15 = .ok (.iload_n 2, 1) := by decide +kernel
theorem D_TL_node_16 : decode cX11_node 16 = .ok (.ifCond .ne (11), 3) := by decide +kernel
theorem D_TL_node_19 : decode cX11_node 19 = .ok (.aload_n 0, 1) := by decide +kernel
theorem D_TL_node_20 : decode cX11_node 20 = .ok (.getfield 79, 3) := by decide +kernel
theorem D_TL_node_23 : decode cX11_node 23 = .ok (.getfield 289, 3) := by decide +kernel
theorem D_TL_node_26 : decode cX11_node 26 = .ok (.ireturn, 1) := by decide +kernel
theorem D_TL_node_27 : decode cX11_node 27 = .ok (.aload_n 0, 1) := by decide +kernel
theorem D_TL_node_28 : decode cX11_node 28 = .ok (.getfield 79, 3) := by decide +kernel
theorem D_TL_node_31 : decode cX11_node 31 = .ok (.iload_n 1, 1) := by decide +kernel
theorem D_TL_node_32 : decode cX11_node 32 = .ok (.invokevirtual 290, 3) := by decide +kernel
theorem D_TL_node_35 : decode cX11_node 35 = .ok (.astore_n 3, 1) := by decide +kernel
theorem D_TL_node_36 : decode cX11_node 36 = .ok (.aload_n 3, 1) := by decide +kernel
theorem D_TL_node_37 : decode cX11_node 37 = .ok (.ifnonnull (5), 3) := by decide +kernel
theorem D_TL_node_40 : decode cX11_node 40 = .ok (.iconst (-1), 1) := by decide +kernel
theorem D_TL_node_41 : decode cX11_node 41 = .ok (.ireturn, 1) := by decide +kernel
theorem D_TL_node_42 : decode cX11_node 42 = .ok (.iload_n 2, 1) := by decide +kernel
theorem D_TL_node_43 : decode cX11_node 43 = .ok (.tableswitch 88 0 7 #[45, 50, 55, 60, 65, 70, 75, 83], 45) := by decide +kernel
theorem D_TL_node_88 : decode cX11_node 88 = .ok (.aload_n 3, 1) := by decide +kernel
theorem D_TL_node_89 : decode cX11_node 89 = .ok (.getfield 294, 3) := by decide +kernel
theorem D_TL_node_92 : decode cX11_node 92 = .ok (.ireturn, 1) := by decide +kernel
theorem D_TL_node_93 : decode cX11_node 93 = .ok (.aload_n 3, 1) := by decide +kernel
theorem D_TL_node_94 : decode cX11_node 94 = .ok (.getfield 299, 3) := by decide +kernel
theorem D_TL_node_97 : decode cX11_node 97 = .ok (.ireturn, 1) := by decide +kernel
theorem D_TL_node_98 : decode cX11_node 98 = .ok (.aload_n 3, 1) := by decide +kernel
theorem D_TL_node_99 : decode cX11_node 99 = .ok (.getfield 302, 3) := by decide +kernel
theorem D_TL_node_102 : decode cX11_node 102 = .ok (.ireturn, 1) := by decide +kernel
theorem D_TL_node_103 : decode cX11_node 103 = .ok (.aload_n 3, 1) := by decide +kernel
theorem D_TL_node_104 : decode cX11_node 104 = .ok (.getfield 305, 3) := by decide +kernel
theorem D_TL_node_107 : decode cX11_node 107 = .ok (.ireturn, 1) := by decide +kernel
theorem D_TL_node_108 : decode cX11_node 108 = .ok (.aload_n 3, 1) := by decide +kernel
theorem D_TL_node_109 : decode cX11_node 109 = .ok (.getfield 308, 3) := by decide +kernel
theorem D_TL_node_112 : decode cX11_node 112 = .ok (.ireturn, 1) := by decide +kernel
theorem D_TL_node_113 : decode cX11_node 113 = .ok (.aload_n 3, 1) := by decide +kernel
theorem D_TL_node_114 : decode cX11_node 114 = .ok (.getfield 311, 3) := by decide +kernel
theorem D_TL_node_117 : decode cX11_node 117 = .ok (.ireturn, 1) := by decide +kernel
theorem D_TL_node_118 : decode cX11_node 118 = .ok (.aload_n 3, 1) := by decide +kernel
theorem D_TL_node_119 : decode cX11_node 119 = .ok (.getfield 314, 3) := by decide +kernel
theorem D_TL_node_122 : decode cX11_node 122 = .ok (.invokestatic 175, 3) := by decide +kernel
theorem D_TL_node_125 : decode cX11_node 125 = .ok (.ireturn, 1) := by decide +kernel
theorem D_TL_node_126 : decode cX11_node 126 = .ok (.aload_n 3, 1) := by decide +kernel
theorem D_TL_node_127 : decode cX11_node 127 = .ok (.getfield 315, 3) := by decide +kernel
theorem D_TL_node_130 : decode cX11_node 130 = .ok (.ireturn, 1) := by decide +kernel
theorem D_TL_node_131 : decode cX11_node 131 = .ok (.iconst (-1), 1) := by decide +kernel
theorem D_TL_node_132 : decode cX11_node 132 = .ok (.ireturn, 1) := by decide +kernel
def K_TL_node : SC := (cX11_node, "TwoLevels", 4, 207, false, [3, 4, 8, 12, 43, 44, 45, 46, 47, 48, 49, 51], NoQ)
def d_TL_node : MD Int32 := mth tt 4 (sq (sIf (eh2 c_ne (kV 12 d_TL_derives (lR 0) []) (eC (nI 1))) (rtn (eC (-1))) sk)
 (sq (sIf (cAnd (eh2 c_eq (lI 1) (eC (-1))) (eh1 z_eq (lI 2))) (rtn (eh1 (gI 8 10) (eh1 (gR 12 11) (lR 0)))) sk)
 (sq (sR1 3 (kV 8 d_Search_nodeOrNull (eh1 (gR 12 11) (lR 0)) [vI (lI 1)]))
 (sq (sIf (eh1 n_nul (lR 3)) (rtn (eC (-1))) sk)
 (sSw (lI 2) [((rtn (eh1 (gI 4 6) (lR 3))), 88),
 ((rtn (eh1 (gI 4 8) (lR 3))), 93),
 ((rtn (eh1 (gI 4 7) (lR 3))), 98),
 ((rtn (eh1 (gI 4 4) (lR 3))), 103),
 ((rtn (eh1 (gI 4 5) (lR 3))), 108),
 ((rtn (eh1 (gI 4 3) (lR 3))), 113),
 ((rtn (kS d_Rows_size [vJ (eh1 (gJ 4 1) (lR 3))])), 118),
 ((rtn (eh1 (gI 4 2) (lR 3))), 126)]
 (rtn (eC (-1))))))))
theorem m_TL_node : MJ 207 [3, 4, 8, 12, 43, 44, 45, 46, 47, 48, 49, 51] yX11_node (some .int) eI (d_TL_node) := MJ_of (K := K_TL_node) (ri := .ireturn) (n1 := 0) (n2 := 0) (n3 := 0)
 (SJ_sq (p0 := 0) (p1 := 10) (nN := 0) (nB := 0) (nC := 0) (SJ_if (p0 := 0) (pT := 8) (pF := 10) (nN := 10) (nB := 0) (nC := 0) (CJ_ne' (off := 5) (tgt := 10) (p0 := 0) (p1 := 4) (p2 := 5) (EJ_callV (t := 12) (c := 11) (r := (RX11, TX11, 16)) (p0 := 0) (p1 := 1) (p2 := 1) (EJ_aload_n (j := 0) (i := 0) (pc := 0) D_TL_node_0 rfl) AJ_nil m_TL_derives E1_I D_TL_node_1 rfl rfl rfl q_872 q_865 q_866 q_91 ⟨by decide +kernel, by decide +kernel, by decide +kernel⟩ (by decide) (show 206 + 1 ≤ 207 from by decide) (show ∀ x_ ∈ ([3, 4, 8, 12, 43, 44, 45, 46, 47, 48, 49, 51] : List Nat), x_ ∈ ([3, 4, 8, 12, 43, 44, 45, 46, 47, 48, 49, 51] : List Nat) from by decide)) (EJ_iconst (n := 1) (v := (nI 1)) (pc := 4) D_TL_node_4 (by decide +kernel)) D_TL_node_5 rfl) (SJ_ret (p0 := 8) (p1 := 9) (EJ_iconst (n := -1) (v := (-1)) (pc := 8) D_TL_node_8 (by decide +kernel)) D_TL_node_9) SJ_sk)
 (SJ_sq (p0 := 10) (p1 := 27) (nN := 0) (nB := 0) (nC := 0) (SJ_if (p0 := 10) (pT := 19) (pF := 27) (nN := 27) (nB := 0) (nC := 0) (CJ_and (p0 := 10) (pM := 15) (pT := 19) (pF := 27) (CJ_eq' (off := 15) (tgt := 27) (p0 := 10) (p1 := 11) (p2 := 12) (EJ_iload_n (j := 1) (i := 1) (pc := 10) D_TL_node_10 rfl) (EJ_iconst (n := -1) (v := (-1)) (pc := 11) D_TL_node_11 (by decide +kernel)) D_TL_node_12 rfl) (CZ_eq' (off := 11) (tgt := 27) (p0 := 15) (p1 := 16) (EJ_iload_n (j := 2) (i := 2) (pc := 15) D_TL_node_15 rfl) D_TL_node_16 rfl)) (SJ_ret (p0 := 19) (p1 := 26) (EJ_getI (t := 8) (c := 7) (kf := 10) (r := (RX7, TX7, 11)) (p0 := 19) (p1 := 23) (EJ_getR (t := 12) (c := 11) (kf := 11) (r := (RX11, TX11, 16)) (p0 := 19) (p1 := 20) (EJ_aload_n (j := 0) (i := 0) (pc := 19) D_TL_node_19 rfl) D_TL_node_20 ⟨rfl, rfl, by decide, q_266⟩ (fun _ _ => rfl)) D_TL_node_23 ⟨rfl, rfl, by decide, q_243⟩ (fun _ _ => rfl)) D_TL_node_26) SJ_sk)
 (SJ_sq (p0 := 27) (p1 := 36) (nN := 0) (nB := 0) (nC := 0) (SJ_astore_n (i := 3) (j := 3) (p0 := 27) (p1 := 35) (EJ_callV (t := 8) (c := 7) (r := (RX7, TX7, 11)) (p0 := 27) (p1 := 31) (p2 := 32) (EJ_getR (t := 12) (c := 11) (kf := 11) (r := (RX11, TX11, 16)) (p0 := 27) (p1 := 28) (EJ_aload_n (j := 0) (i := 0) (pc := 27) D_TL_node_27 rfl) D_TL_node_28 ⟨rfl, rfl, by decide, q_266⟩ (fun _ _ => rfl)) (AJ_I (p0 := 31) (p1 := 32) (p2 := 32) (EJ_iload_n (j := 1) (i := 1) (pc := 31) D_TL_node_31 rfl) AJ_nil) m_Search_nodeOrNull E1_R D_TL_node_32 rfl rfl rfl q_884 q_885 q_886 q_96 ⟨by decide +kernel, by decide +kernel, by decide +kernel⟩ (by decide) (show 1 + 1 ≤ 207 from by decide) (fun _ h => absurd h List.not_mem_nil)) D_TL_node_35 rfl)
 (SJ_sq (p0 := 36) (p1 := 42) (nN := 0) (nB := 0) (nC := 0) (SJ_if (p0 := 36) (pT := 40) (pF := 42) (nN := 42) (nB := 0) (nC := 0) (CN_nul' (off := 5) (tgt := 42) (p0 := 36) (p1 := 37) (EJ_aload_n (j := 3) (i := 3) (pc := 36) D_TL_node_36 rfl) D_TL_node_37 rfl) (SJ_ret (p0 := 40) (p1 := 41) (EJ_iconst (n := -1) (v := (-1)) (pc := 40) D_TL_node_40 (by decide +kernel)) D_TL_node_41) SJ_sk)
 (SJ_sw (p0 := 42) (p1 := 43) (pD := 131) (EJ_iload_n (j := 2) (i := 2) (pc := 42) D_TL_node_42 rfl) D_TL_node_43 (by decide) (fun j qq hq => match j, hq with | 0, hq => (by cases hq; exact ⟨⟨_, rfl, rfl⟩, (SJ_ret (p0 := 88) (p1 := 92) (EJ_getI (t := 4) (c := 3) (kf := 6) (r := (RX3, TX3, 11)) (p0 := 88) (p1 := 89) (EJ_aload_n (j := 3) (i := 3) (pc := 88) D_TL_node_88 rfl) D_TL_node_89 ⟨rfl, rfl, by decide, q_808⟩ (fun _ _ => rfl)) D_TL_node_92)⟩) | 1, hq => (by cases hq; exact ⟨⟨_, rfl, rfl⟩, (SJ_ret (p0 := 93) (p1 := 97) (EJ_getI (t := 4) (c := 3) (kf := 8) (r := (RX3, TX3, 11)) (p0 := 93) (p1 := 94) (EJ_aload_n (j := 3) (i := 3) (pc := 93) D_TL_node_93 rfl) D_TL_node_94 ⟨rfl, rfl, by decide, q_812⟩ (fun _ _ => rfl)) D_TL_node_97)⟩) | 2, hq => (by cases hq; exact ⟨⟨_, rfl, rfl⟩, (SJ_ret (p0 := 98) (p1 := 102) (EJ_getI (t := 4) (c := 3) (kf := 7) (r := (RX3, TX3, 11)) (p0 := 98) (p1 := 99) (EJ_aload_n (j := 3) (i := 3) (pc := 98) D_TL_node_98 rfl) D_TL_node_99 ⟨rfl, rfl, by decide, q_810⟩ (fun _ _ => rfl)) D_TL_node_102)⟩) | 3, hq => (by cases hq; exact ⟨⟨_, rfl, rfl⟩, (SJ_ret (p0 := 103) (p1 := 107) (EJ_getI (t := 4) (c := 3) (kf := 4) (r := (RX3, TX3, 11)) (p0 := 103) (p1 := 104) (EJ_aload_n (j := 3) (i := 3) (pc := 103) D_TL_node_103 rfl) D_TL_node_104 ⟨rfl, rfl, by decide, q_804⟩ (fun _ _ => rfl)) D_TL_node_107)⟩) | 4, hq => (by cases hq; exact ⟨⟨_, rfl, rfl⟩, (SJ_ret (p0 := 108) (p1 := 112) (EJ_getI (t := 4) (c := 3) (kf := 5) (r := (RX3, TX3, 11)) (p0 := 108) (p1 := 109) (EJ_aload_n (j := 3) (i := 3) (pc := 108) D_TL_node_108 rfl) D_TL_node_109 ⟨rfl, rfl, by decide, q_806⟩ (fun _ _ => rfl)) D_TL_node_112)⟩) | 5, hq => (by cases hq; exact ⟨⟨_, rfl, rfl⟩, (SJ_ret (p0 := 113) (p1 := 117) (EJ_getI (t := 4) (c := 3) (kf := 3) (r := (RX3, TX3, 11)) (p0 := 113) (p1 := 114) (EJ_aload_n (j := 3) (i := 3) (pc := 113) D_TL_node_113 rfl) D_TL_node_114 ⟨rfl, rfl, by decide, q_802⟩ (fun _ _ => rfl)) D_TL_node_117)⟩) | 6, hq => (by cases hq; exact ⟨⟨_, rfl, rfl⟩, (SJ_ret (p0 := 118) (p1 := 125) (EJ_callS (p0 := 118) (p1 := 122) (AJ_J (p0 := 118) (p1 := 122) (p2 := 122) (EJ_getJ (t := 4) (c := 3) (kf := 1) (r := (RX3, TX3, 11)) (p0 := 118) (p1 := 119) (EJ_aload_n (j := 3) (i := 3) (pc := 118) D_TL_node_118 rfl) D_TL_node_119 ⟨rfl, rfl, by decide, q_798⟩ (fun _ _ => rfl)) AJ_nil) m_Rows_size E1_I D_TL_node_122 q_613 q_504 q_104 ⟨by decide +kernel, by decide +kernel, by decide +kernel⟩ (by decide) (show 1 + 1 ≤ 207 from by decide) (fun _ h => absurd h List.not_mem_nil)) D_TL_node_125)⟩) | 7, hq => (by cases hq; exact ⟨⟨_, rfl, rfl⟩, (SJ_ret (p0 := 126) (p1 := 130) (EJ_getI (t := 4) (c := 3) (kf := 2) (r := (RX3, TX3, 11)) (p0 := 126) (p1 := 127) (EJ_aload_n (j := 3) (i := 3) (pc := 126) D_TL_node_126 rfl) D_TL_node_127 ⟨rfl, rfl, by decide, q_800⟩ (fun _ _ => rfl)) D_TL_node_130)⟩) | (_ + 8), hq => by simp at hq) rfl (SJ_ret (p0 := 131) (p1 := 132) (EJ_iconst (n := -1) (v := (-1)) (pc := 131) D_TL_node_131 (by decide +kernel)) D_TL_node_132))))))
 RTm_int q_883 (by decide +kernel) rfl (fun h => by cases h) (show 4 ≤ 40 from by decide) (fun _ => trivial)
theorem D_Rows_add_0 : decode cX5_add 0 = .ok (.lload_n 0, 1) := by decide +kernel
theorem D_Rows_add_1 : decode cX5_add 1 = .ok (.iconst (5), 1) := by decide +kernel
theorem D_Rows_add_2 : decode cX5_add 2 = .ok (.lshl, 1) := by decide +kernel
theorem D_Rows_add_3 : decode cX5_add 3 = .ok (.iload_n 2, 1) := by decide +kernel
theorem D_Rows_add_4 : decode cX5_add 4 = .ok (.bipush (97), 2) := by decide +kernel
theorem D_Rows_add_6 : decode cX5_add 6 = .ok (.isub, 1) := by decide +kernel
theorem D_Rows_add_7 : decode cX5_add 7 = .ok (.iconst (1), 1) := by decide +kernel
theorem D_Rows_add_8 : decode cX5_add 8 = .ok (.iadd, 1) := by decide +kernel
theorem D_Rows_add_9 : decode cX5_add 9 = .ok (.i2l, 1) := by decide +kernel
theorem D_Rows_add_10 : decode cX5_add 10 = .ok (.lor, 1) := by decide +kernel
theorem D_Rows_add_11 : decode cX5_add 11 = .ok (.lreturn, 1) := by decide +kernel
def K_Rows_add : SC := (cX5_add, "TwoLevels$Rows", 3, 1, false, [], NoQ)
def d_Rows_add : MD Int64 := mth tt 3 (rtn (eh2 lorF (eh2 lshlF (lJ 0) (eC (nI 5))) (eh1 i2lF (eh2 iaddF (eh2 isubF (lI 2) (eC (nI 97))) (eC (nI 1))))))
theorem m_Rows_add : MJ 1 [] yX5_add (some .long) eJ (d_Rows_add) := MJ_of (K := K_Rows_add) (ri := .lreturn) (n1 := 0) (n2 := 0) (n3 := 0)
 (SJ_ret (p0 := 0) (p1 := 11) (EJ_lor (p0 := 0) (p1 := 3) (p2 := 10) (EJ_lshl (p0 := 0) (p1 := 1) (p2 := 2) (EJ_lload_n (j := 0) (i := 0) (pc := 0) D_Rows_add_0 rfl) (EJ_iconst (n := 5) (v := (nI 5)) (pc := 1) D_Rows_add_1 (by decide +kernel)) D_Rows_add_2) (EJ_i2l (p0 := 3) (p1 := 9) (EJ_iadd (p0 := 3) (p1 := 7) (p2 := 8) (EJ_isub (p0 := 3) (p1 := 4) (p2 := 6) (EJ_iload_n (j := 2) (i := 2) (pc := 3) D_Rows_add_3 rfl) (EJ_bipush (n := 97) (v := (nI 97)) (pc := 4) D_Rows_add_4 (by decide +kernel)) D_Rows_add_6) (EJ_iconst (n := 1) (v := (nI 1)) (pc := 7) D_Rows_add_7 (by decide +kernel)) D_Rows_add_8) D_Rows_add_9) D_Rows_add_10) D_Rows_add_11)
 RTm_long q_530 (by decide +kernel) rfl (fun h => by cases h) (show 3 ≤ 40 from by decide) (fun _ => trivial)
theorem D_Rows_isSmall_0 : decode cX5_isSmall 0 = .ok (.iload_n 0, 1) := by decide +kernel
theorem D_Rows_isSmall_1 : decode cX5_isSmall 1 = .ok (.bipush (97), 2) := by decide +kernel
theorem D_Rows_isSmall_3 : decode cX5_isSmall 3 = .ok (.if_icmp .lt (13), 3) := by decide +kernel
theorem D_Rows_isSmall_6 : decode cX5_isSmall 6 = .ok (.iload_n 0, 1) := by decide +kernel
theorem D_Rows_isSmall_7 : decode cX5_isSmall 7 = .ok (.bipush (122), 2) := by decide +kernel
theorem D_Rows_isSmall_9 : decode cX5_isSmall 9 = .ok (.if_icmp .gt (7), 3) := by decide +kernel
theorem D_Rows_isSmall_12 : decode cX5_isSmall 12 = .ok (.iconst (1), 1) := by decide +kernel
theorem D_Rows_isSmall_13 : decode cX5_isSmall 13 = .ok (.goto (4), 3) := by decide +kernel
theorem D_Rows_isSmall_16 : decode cX5_isSmall 16 = .ok (.iconst (0), 1) := by decide +kernel
theorem D_Rows_isSmall_17 : decode cX5_isSmall 17 = .ok (.ireturn, 1) := by decide +kernel
def K_Rows_isSmall : SC := (cX5_isSmall, "TwoLevels$Rows", 1, 1, false, [], NoQ)
def d_Rows_isSmall : MD Int32 := mth zz 1 (rtn (eIf (cAnd (eh2 c_ge (lI 0) (eC (nI 97))) (eh2 c_le (lI 0) (eC (nI 122)))) (eC (nI 1)) (eC (nI 0))))
theorem m_Rows_isSmall : MJ 1 [] yX5_isSmall (some .boolean) eI (d_Rows_isSmall) := MJ_of (K := K_Rows_isSmall) (ri := .ireturn) (n1 := 0) (n2 := 0) (n3 := 0)
 (SJ_ret (p0 := 0) (p1 := 17) (EJ_if (p0 := 0) (pT := 12) (pF := 16) (pE := 13) (p1 := 17) (CJ_and (p0 := 0) (pM := 6) (pT := 12) (pF := 16) (CJ_ge' (off := 13) (tgt := 16) (p0 := 0) (p1 := 1) (p2 := 3) (EJ_iload_n (j := 0) (i := 0) (pc := 0) D_Rows_isSmall_0 rfl) (EJ_bipush (n := 97) (v := (nI 97)) (pc := 1) D_Rows_isSmall_1 (by decide +kernel)) D_Rows_isSmall_3 rfl) (CJ_le' (off := 7) (tgt := 16) (p0 := 6) (p1 := 7) (p2 := 9) (EJ_iload_n (j := 0) (i := 0) (pc := 6) D_Rows_isSmall_6 rfl) (EJ_bipush (n := 122) (v := (nI 122)) (pc := 7) D_Rows_isSmall_7 (by decide +kernel)) D_Rows_isSmall_9 rfl)) (EJ_iconst (n := 1) (v := (nI 1)) (pc := 12) D_Rows_isSmall_12 (by decide +kernel)) (Lead.goto (K := K_Rows_isSmall) (pc := 13) (tgt := 17) D_Rows_isSmall_13 rfl) (EJ_iconst (n := 0) (v := (nI 0)) (pc := 16) D_Rows_isSmall_16 (by decide +kernel))) D_Rows_isSmall_17)
 RTm_bool q_524 (by decide +kernel) rfl (fun h => by cases h) (show 1 ≤ 40 from by decide) (fun _ => trivial)
theorem D_TL_refusal_0 : decode cX11_refusal 0 = .ok (.bipush (-2), 2) := by decide +kernel
theorem D_TL_refusal_2 : decode cX11_refusal 2 = .ok (.bipush (8), 2) := by decide +kernel
theorem D_TL_refusal_4 : decode cX11_refusal 4 = .ok (.iload_n 0, 1) := by decide +kernel
theorem D_TL_refusal_5 : decode cX11_refusal 5 = .ok (.imul, 1) := by decide +kernel
theorem D_TL_refusal_6 : decode cX11_refusal 6 = .ok (.iload_n 1, 1) := by decide +kernel
theorem D_TL_refusal_7 : decode cX11_refusal 7 = .ok (.iadd, 1) := by decide +kernel
theorem D_TL_refusal_8 : decode cX11_refusal 8 = .ok (.isub, 1) := by decide +kernel
theorem D_TL_refusal_9 : decode cX11_refusal 9 = .ok (.ireturn, 1) := by decide +kernel
def K_TL_refusal : SC := (cX11_refusal, "TwoLevels", 2, 1, false, [], NoQ)
def d_TL_refusal : MD Int32 := mth tt 2 (rtn (eh2 isubF (eC (-2)) (eh2 iaddF (eh2 imulF (eC (nI 8)) (lI 0)) (lI 1))))
theorem m_TL_refusal : MJ 1 [] yX11_refusal (some .int) eI (d_TL_refusal) := MJ_of (K := K_TL_refusal) (ri := .ireturn) (n1 := 0) (n2 := 0) (n3 := 0)
 (SJ_ret (p0 := 0) (p1 := 9) (EJ_isub (p0 := 0) (p1 := 2) (p2 := 8) (EJ_bipush (n := -2) (v := (-2)) (pc := 0) D_TL_refusal_0 (by decide +kernel)) (EJ_iadd (p0 := 2) (p1 := 6) (p2 := 7) (EJ_imul (p0 := 2) (p1 := 4) (p2 := 5) (EJ_bipush (n := 8) (v := (nI 8)) (pc := 2) D_TL_refusal_2 (by decide +kernel)) (EJ_iload_n (j := 0) (i := 0) (pc := 4) D_TL_refusal_4 rfl) D_TL_refusal_5) (EJ_iload_n (j := 1) (i := 1) (pc := 6) D_TL_refusal_6 rfl) D_TL_refusal_7) D_TL_refusal_8) D_TL_refusal_9)
 RTm_int q_527 (by decide +kernel) rfl (fun h => by cases h) (show 2 ≤ 40 from by decide) (fun _ => trivial)
theorem D_TL_notion_0 : decode cX11_notion 0 = .ok (.aload_n 0, 1) := by decide +kernel
theorem D_TL_notion_1 : decode cX11_notion 1 = .ok (.getfield 86, 3) := by decide +kernel
theorem D_TL_notion_4 : decode cX11_notion 4 = .ok (.istore_n 1, 1) := by decide +kernel
theorem D_TL_notion_5 : decode cX11_notion 5 = .ok (.aload_n 0, 1) := by decide +kernel
theorem D_TL_notion_6 : decode cX11_notion 6 = .ok (.iconst (0), 1) := by decide +kernel
theorem D_TL_notion_7 : decode cX11_notion 7 = .ok (.putfield 86, 3) := by decide +kernel
theorem D_TL_notion_10 : decode cX11_notion 10 = .ok (.lconst 0, 1) := by decide +kernel
theorem D_TL_notion_11 : decode cX11_notion 11 = .ok (.lstore_n 2, 1) := by decide +kernel
theorem D_TL_notion_12 : decode cX11_notion 12 = .ok (.iconst (0), 1) := by decide +kernel
theorem D_TL_notion_13 : decode cX11_notion 13 = .ok (.istore 4, 2) := by decide +kernel
theorem D_TL_notion_15 : decode cX11_notion 15 = .ok (.iload 4, 2) := by decide +kernel
theorem D_TL_notion_17 : decode cX11_notion 17 = .ok (.iload_n 1, 1) := by decide +kernel
theorem D_TL_notion_18 : decode cX11_notion 18 = .ok (.if_icmp .ge (55), 3) := by decide +kernel
theorem D_TL_notion_21 : decode cX11_notion 21 = .ok (.aload_n 0, 1) := by decide +kernel
theorem D_TL_notion_22 : decode cX11_notion 22 = .ok (.getfield 9, 3) := by decide +kernel
theorem D_TL_notion_25 : decode cX11_notion 25 = .ok (.iload 4, 2) := by decide +kernel
theorem D_TL_notion_27 : decode cX11_notion 27 = .ok (.iaload, 1) := by decide +kernel
theorem D_TL_notion_28 : decode cX11_notion 28 = .ok (.invokestatic 122, 3) := by decide +kernel
theorem D_TL_notion_31 : decode cX11_notion 31 = .ok (.ifCond .ne (10), 3) := by decide +kernel
theorem D_TL_notion_34 : decode cX11_notion 34 = .ok (.iload 4, 2) := by decide +kernel
theorem D_TL_notion_36 : decode cX11_notion 36 = .ok (.iconst (1), 1) := by decide +kernel
theorem D_TL_notion_37 : decode cX11_notion 37 = .ok (.invokestatic 128, 3) := by decide +kernel
theorem D_TL_notion_40 : decode cX11_notion 40 = .ok (.ireturn, 1) := by decide +kernel
theorem D_TL_notion_41 : decode cX11_notion 41 = .ok (.iload 4, 2) := by decide +kernel
theorem D_TL_notion_43 : decode cX11_notion 43 = .ok (.bipush (10), 2) := by decide +kernel
theorem D_TL_notion_45 : decode cX11_notion 45 = .ok (.if_icmp .lt (10), 3) := by decide +kernel
theorem D_TL_notion_48 : decode cX11_notion 48 = .ok (.iload 4, 2) := by decide +kernel
theorem D_TL_notion_50 : decode cX11_notion 50 = .ok (.iconst (2), 1) := by decide +kernel
theorem D_TL_notion_51 : decode cX11_notion 51 = .ok (.invokestatic 128, 3) := by decide +kernel
theorem D_TL_notion_54 : decode cX11_notion 54 = .ok (.ireturn, 1) := by decide +kernel
theorem D_TL_notion_55 : decode cX11_notion 55 = .ok (.lload_n 2, 1) := by decide +kernel
theorem D_TL_notion_56 : decode cX11_notion 56 = .ok (.aload_n 0, 1) := by decide +kernel
theorem D_TL_notion_57 : decode cX11_notion 57 = .ok (.getfield 9, 3) := by decide +kernel
theorem D_TL_notion_60 : decode cX11_notion 60 = .ok (.iload 4, 2) := by decide +kernel
theorem D_TL_notion_62 : decode cX11_notion 62 = .ok (.iaload, 1) := by decide +kernel
theorem D_TL_notion_63 : decode cX11_notion 63 = .ok (.invokestatic 132, 3) := by decide +kernel
theorem D_TL_notion_66 : decode cX11_notion 66 = .ok (.lstore_n 2, 1) := by decide +kernel
theorem D_TL_notion_67 : decode cX11_notion 67 = .ok (.iinc 4 (1), 3) := by decide +kernel
theorem D_TL_notion_70 : decode cX11_notion 70 = .ok (.goto (-55), 3) := by decide +kernel
theorem D_TL_notion_73 : decode cX11_notion 73 = .ok (.aload_n 0, 1) := by decide +kernel
theorem D_TL_notion_74 : decode cX11_notion 74 = .ok (.lload_n 2, 1) := by decide +kernel
theorem D_TL_notion_75 : decode cX11_notion 75 = .ok (.putfield 108, 3) := by decide +kernel
theorem D_TL_notion_78 : decode cX11_notion 78 = .ok (.aload_n 0, 1) := by decide +kernel
theorem D_TL_notion_79 : decode cX11_notion 79 = .ok (.invokevirtual 115, 3) := by decide +kernel
theorem D_TL_notion_82 : decode cX11_notion 82 = .ok (.iload_n 1, 1) := by decide +kernel
theorem D_TL_notion_83 : decode cX11_notion 83 = .ok (.ireturn, 1) := by decide +kernel
def K_TL_notion : SC := (cX11_notion, "TwoLevels", 5, 2, false, [12], NoQ)
def d_TL_notion : MD Int32 := mth tt 5 (sq (sI1 1 (eh1 (gI 12 1) (lR 0)))
 (sq (sh2 (pI false 12 1) (lR 0) (eC (nI 0)))
 (sq (sJ1 2 (eC (lN 0)))
 (sq (sq (sI1 4 (eC (nI 0)))
 (loop (eh2 c_lt (lI 4) (lI 1))
 (sq (sIf (cNot (eh1 z_ne (kS d_Rows_isSmall [vI (eh2 (aI .int) (eh1 (gR 12 0) (lR 0)) (lI 4))]))) (rtn (kS d_TL_refusal [vI (lI 4), vI (eC (nI 1))])) sk)
 (sq (sIf (eh2 c_ge (lI 4) (eC (nI 10))) (rtn (kS d_TL_refusal [vI (lI 4), vI (eC (nI 2))])) sk)
 (sJ1 2 (kS d_Rows_add [vJ (lJ 2), vI (eh2 (aI .int) (eh1 (gR 12 0) (lR 0)) (lI 4))]))))
 (sInc 4 (nI 1))))
 (sq (sh2 (pJ 12 4) (lR 0) (lJ 2))
 (sq (sE (kV 12 d_TL_forget (lR 0) []))
 (rtn (lI 1))))))))
theorem m_TL_notion : MJ 2 [12] yX11_notion (some .int) eI (d_TL_notion) := MJ_of (K := K_TL_notion) (ri := .ireturn) (n1 := 0) (n2 := 0) (n3 := 0)
 (SJ_sq (p0 := 0) (p1 := 5) (nN := 0) (nB := 0) (nC := 0) (SJ_istore_n (i := 1) (j := 1) (p0 := 0) (p1 := 4) (EJ_getI (t := 12) (c := 11) (kf := 1) (r := (RX11, TX11, 16)) (p0 := 0) (p1 := 1) (EJ_aload_n (j := 0) (i := 0) (pc := 0) D_TL_notion_0 rfl) D_TL_notion_1 ⟨rfl, rfl, by decide, q_256⟩ (fun _ _ => rfl)) D_TL_notion_4 rfl)
 (SJ_sq (p0 := 5) (p1 := 10) (nN := 0) (nB := 0) (nC := 0) (SJ_putI (z := false) (t := 12) (c := 11) (kf := 1) (r := (RX11, TX11, 16)) (p0 := 5) (p1 := 6) (p2 := 7) (EJ_aload_n (j := 0) (i := 0) (pc := 5) D_TL_notion_5 rfl) (EJ_iconst (n := 0) (v := (nI 0)) (pc := 6) D_TL_notion_6 (by decide +kernel)) D_TL_notion_7 ⟨rfl, rfl, by decide, q_256⟩ (Or.inl rfl) (fun _ _ => ⟨rfl, rfl⟩) (fun _ _ => rfl) (show (12 : Nat) ∈ ([12] : List Nat) from by decide))
 (SJ_sq (p0 := 10) (p1 := 12) (nN := 0) (nB := 0) (nC := 0) (SJ_lstore_n (i := 2) (j := 2) (p0 := 10) (p1 := 11) (EJ_lconst (n := 0) (v := (lN 0)) (pc := 10) D_TL_notion_10 (by decide +kernel)) D_TL_notion_11 rfl)
 (SJ_sq (p0 := 12) (p1 := 73) (nN := 0) (nB := 0) (nC := 0) (SJ_sq (p0 := 12) (p1 := 15) (nN := 73) (nB := 0) (nC := 0) (SJ_istore (i := 4) (p0 := 12) (p1 := 13) (EJ_iconst (n := 0) (v := (nI 0)) (pc := 12) D_TL_notion_12 (by decide +kernel)) D_TL_notion_13)
 (SJ_loop (p0 := 15) (pB := 21) (pS := 67) (pE := 73) (CJ_lt' (off := 55) (tgt := 73) (p0 := 15) (p1 := 17) (p2 := 18) (EJ_iload (i := 4) (pc := 15) D_TL_notion_15) (EJ_iload_n (j := 1) (i := 1) (pc := 17) D_TL_notion_17 rfl) D_TL_notion_18 rfl)
 (SJ_sq (p0 := 21) (p1 := 41) (nN := 67) (nB := 73) (nC := 67) (SJ_if (p0 := 21) (pT := 34) (pF := 41) (nN := 41) (nB := 73) (nC := 67) (CJ_not (p0 := 21) (pT := 34) (pF := 41) (CZ_ne (off := 10) (tgt := 41) (p0 := 21) (p1 := 31) (EJ_callS (p0 := 21) (p1 := 28) (AJ_I (p0 := 21) (p1 := 28) (p2 := 28) (EJ_iald (p0 := 21) (p1 := 25) (p2 := 27) (EJ_getR (t := 12) (c := 11) (kf := 0) (r := (RX11, TX11, 16)) (p0 := 21) (p1 := 22) (EJ_aload_n (j := 0) (i := 0) (pc := 21) D_TL_notion_21 rfl) D_TL_notion_22 ⟨rfl, rfl, by decide, q_255⟩ (fun _ _ => rfl)) (EJ_iload (i := 4) (pc := 25) D_TL_notion_25) D_TL_notion_27) AJ_nil) m_Rows_isSmall E1_I D_TL_notion_28 q_522 q_523 q_104 ⟨by decide +kernel, by decide +kernel, by decide +kernel⟩ (by decide) (show 1 + 1 ≤ 2 from by decide) (fun _ h => absurd h List.not_mem_nil)) D_TL_notion_31 rfl)) (SJ_ret (p0 := 34) (p1 := 40) (EJ_callS (p0 := 34) (p1 := 37) (AJ_I (p0 := 34) (p1 := 36) (p2 := 37) (EJ_iload (i := 4) (pc := 34) D_TL_notion_34) (AJ_I (p0 := 36) (p1 := 37) (p2 := 37) (EJ_iconst (n := 1) (v := (nI 1)) (pc := 36) D_TL_notion_36 (by decide +kernel)) AJ_nil)) m_TL_refusal E1_I D_TL_notion_37 q_525 q_526 q_91 ⟨by decide +kernel, by decide +kernel, by decide +kernel⟩ (by decide) (show 1 + 1 ≤ 2 from by decide) (fun _ h => absurd h List.not_mem_nil)) D_TL_notion_40) SJ_sk)
 (SJ_sq (p0 := 41) (p1 := 55) (nN := 67) (nB := 73) (nC := 67) (SJ_if (p0 := 41) (pT := 48) (pF := 55) (nN := 55) (nB := 73) (nC := 67) (CJ_ge' (off := 10) (tgt := 55) (p0 := 41) (p1 := 43) (p2 := 45) (EJ_iload (i := 4) (pc := 41) D_TL_notion_41) (EJ_bipush (n := 10) (v := (nI 10)) (pc := 43) D_TL_notion_43 (by decide +kernel)) D_TL_notion_45 rfl) (SJ_ret (p0 := 48) (p1 := 54) (EJ_callS (p0 := 48) (p1 := 51) (AJ_I (p0 := 48) (p1 := 50) (p2 := 51) (EJ_iload (i := 4) (pc := 48) D_TL_notion_48) (AJ_I (p0 := 50) (p1 := 51) (p2 := 51) (EJ_iconst (n := 2) (v := (nI 2)) (pc := 50) D_TL_notion_50 (by decide +kernel)) AJ_nil)) m_TL_refusal E1_I D_TL_notion_51 q_525 q_526 q_91 ⟨by decide +kernel, by decide +kernel, by decide +kernel⟩ (by decide) (show 1 + 1 ≤ 2 from by decide) (fun _ h => absurd h List.not_mem_nil)) D_TL_notion_54) SJ_sk)
 (SJ_lstore_n (i := 2) (j := 2) (p0 := 55) (p1 := 66) (EJ_callS (p0 := 55) (p1 := 63) (AJ_J (p0 := 55) (p1 := 56) (p2 := 63) (EJ_lload_n (j := 2) (i := 2) (pc := 55) D_TL_notion_55 rfl) (AJ_I (p0 := 56) (p1 := 63) (p2 := 63) (EJ_iald (p0 := 56) (p1 := 60) (p2 := 62) (EJ_getR (t := 12) (c := 11) (kf := 0) (r := (RX11, TX11, 16)) (p0 := 56) (p1 := 57) (EJ_aload_n (j := 0) (i := 0) (pc := 56) D_TL_notion_56 rfl) D_TL_notion_57 ⟨rfl, rfl, by decide, q_255⟩ (fun _ _ => rfl)) (EJ_iload (i := 4) (pc := 60) D_TL_notion_60) D_TL_notion_62) AJ_nil)) m_Rows_add E1_J D_TL_notion_63 q_528 q_529 q_104 ⟨by decide +kernel, by decide +kernel, by decide +kernel⟩ (by decide) (show 1 + 1 ≤ 2 from by decide) (fun _ h => absurd h List.not_mem_nil)) D_TL_notion_66 rfl)))
 (SJ_post (SJ_iinc (i := 4) (n := 1) (v := (nI 1)) (pc := 67) D_TL_notion_67 (by decide +kernel)) (Lead.goto (K := K_TL_notion) (pc := 70) (tgt := 15) D_TL_notion_70 rfl))))
 (SJ_sq (p0 := 73) (p1 := 78) (nN := 0) (nB := 0) (nC := 0) (SJ_putJ (t := 12) (c := 11) (kf := 4) (r := (RX11, TX11, 16)) (p0 := 73) (p1 := 74) (p2 := 75) (EJ_aload_n (j := 0) (i := 0) (pc := 73) D_TL_notion_73 rfl) (EJ_lload_n (j := 2) (i := 2) (pc := 74) D_TL_notion_74 rfl) D_TL_notion_75 ⟨rfl, rfl, by decide, q_259⟩ (Or.inl rfl) rfl (fun _ _ => rfl) (show (12 : Nat) ∈ ([12] : List Nat) from by decide))
 (SJ_sq (p0 := 78) (p1 := 82) (nN := 0) (nB := 0) (nC := 0) (SJ_void (p0 := 78) (p1 := 82) (EJ_callV (t := 12) (c := 11) (r := (RX11, TX11, 16)) (p0 := 78) (p1 := 79) (p2 := 79) (EJ_aload_n (j := 0) (i := 0) (pc := 78) D_TL_notion_78 rfl) AJ_nil m_TL_forget E1_U D_TL_notion_79 rfl rfl rfl q_515 q_516 q_14 q_91 ⟨by decide +kernel, by decide +kernel, by decide +kernel⟩ (by decide) (show 1 + 1 ≤ 2 from by decide) (show ∀ x_ ∈ ([12] : List Nat), x_ ∈ ([12] : List Nat) from by decide)))
 (SJ_ret (p0 := 82) (p1 := 83) (EJ_iload_n (j := 1) (i := 1) (pc := 82) D_TL_notion_82 rfl) D_TL_notion_83)))))))
 RTm_int q_521 (by decide +kernel) rfl (fun h => by cases h) (show 5 ≤ 40 from by decide) (fun _ => trivial)
theorem D_TL_rule_0 : decode cX11_rule 0 = .ok (.aload_n 0, 1) := by decide +kernel
theorem D_TL_rule_1 : decode cX11_rule 1 = .ok (.getfield 30, 3) := by decide +kernel
theorem D_TL_rule_4 : decode cX11_rule 4 = .ok (.iload_n 1, 1) := by decide +kernel
theorem D_TL_rule_5 : decode cX11_rule 5 = .ok (.invokevirtual 150, 3) := by decide +kernel
theorem D_TL_rule_8 : decode cX11_rule 8 = .ok (.ifCond .ne (5), 3) := by decide +kernel
theorem D_TL_rule_11 : decode cX11_rule 11 = .ok (.iconst (-1), 1) := by decide +kernel
theorem D_TL_rule_12 : decode cX11_rule 12 = .ok (.ireturn, 1) := by decide +kernel
theorem D_TL_rule_13 : decode cX11_rule 13 = .ok (.aload_n 0, 1) := by decide +kernel
theorem D_TL_rule_14 : decode cX11_rule 14 = .ok (.getfield 30, 3) := by decide +kernel
theorem D_TL_rule_17 : decode cX11_rule 17 = .ok (.getfield 118, 3) := by decide +kernel
theorem D_TL_rule_20 : decode cX11_rule 20 = .ok (.iload_n 1, 1) := by decide +kernel
theorem D_TL_rule_21 : decode cX11_rule 21 = .ok (.aaload, 1) := by decide +kernel
theorem D_TL_rule_22 : decode cX11_rule 22 = .ok (.astore_n 3, 1) := by decide +kernel
theorem D_TL_rule_23 : decode cX11_rule 23 = .ok (.iload_n 2, 1) := by decide +kernel
theorem D_TL_rule_24 : decode cX11_rule 24 = .ok (.tableswitch 54 0 2 #[28, 34, 39], 28) := by decide +kernel
theorem D_TL_rule_52 : decode cX11_rule 52 = .ok (.aload_n 3, 1) := by decide +kernel
theorem D_TL_rule_53 : decode cX11_rule 53 = .ok (.getfield 216, 3) := by decide +kernel
theorem D_TL_rule_56 : decode cX11_rule 56 = .ok (.arraylength, 1) := by decide +kernel
theorem D_TL_rule_57 : decode cX11_rule 57 = .ok (.ireturn, 1) := by decide +kernel
theorem D_TL_rule_58 : decode cX11_rule 58 = .ok (.aload_n 3, 1) := by decide +kernel
theorem D_TL_rule_59 : decode cX11_rule 59 = .ok (.getfield 219, 3) := by decide +kernel
theorem D_TL_rule_62 : decode cX11_rule 62 = .ok (.ireturn, 1) := by decide +kernel
theorem D_TL_rule_63 : decode cX11_rule 63 = .ok (.aload_n 0, 1) := by decide +kernel
theorem D_TL_rule_64 : decode cX11_rule 64 = .ok (.getfield 30, 3) := by decide +kernel
theorem D_TL_rule_67 : decode cX11_rule 67 = .ok (.getfield 53, 3) := by decide +kernel
theorem D_TL_rule_70 : decode cX11_rule 70 = .ok (.aload_n 3, 1) := by decide +kernel
theorem D_TL_rule_71 : decode cX11_rule 71 = .ok (.getfield 221, 3) := by decide +kernel
theorem D_TL_rule_74 : decode cX11_rule 74 = .ok (.invokevirtual 224, 3) := by decide +kernel
theorem D_TL_rule_77 : decode cX11_rule 77 = .ok (.ireturn, 1) := by decide +kernel
theorem D_TL_rule_78 : decode cX11_rule 78 = .ok (.iconst (-1), 1) := by decide +kernel
theorem D_TL_rule_79 : decode cX11_rule 79 = .ok (.ireturn, 1) := by decide +kernel
def K_TL_rule : SC := (cX11_rule, "TwoLevels", 4, 2, false, [], NoQ)
def d_TL_rule : MD Int32 := mth tt 4 (sq (sIf (cNot (eh1 z_ne (kV 10 d_State_hasRule (eh1 (gR 12 3) (lR 0)) [vI (lI 1)]))) (rtn (eC (-1))) sk)
 (sq (sR1 3 (eh2 (aR (.object "TwoLevels$Rule")) (eh1 (gR 10 1) (eh1 (gR 12 3) (lR 0))) (lI 1)))
 (sSw (lI 2) [((rtn (eh1 aL (eh1 (gR 7 0) (lR 3)))), 52),
 ((rtn (eh1 (gI 7 4) (lR 3))), 58),
 ((rtn (kV 11 d_Upper_letterBits (eh1 (gR 10 0) (eh1 (gR 12 3) (lR 0))) [vI (eh1 (gI 7 1) (lR 3))])), 63)]
 (rtn (eC (-1))))))
theorem m_TL_rule : MJ 2 [] yX11_rule (some .int) eI (d_TL_rule) := MJ_of (K := K_TL_rule) (ri := .ireturn) (n1 := 0) (n2 := 0) (n3 := 0)
 (SJ_sq (p0 := 0) (p1 := 13) (nN := 0) (nB := 0) (nC := 0) (SJ_if (p0 := 0) (pT := 11) (pF := 13) (nN := 13) (nB := 0) (nC := 0) (CJ_not (p0 := 0) (pT := 11) (pF := 13) (CZ_ne (off := 5) (tgt := 13) (p0 := 0) (p1 := 8) (EJ_callV (t := 10) (c := 9) (r := (RX9, TX9, 4)) (p0 := 0) (p1 := 4) (p2 := 5) (EJ_getR (t := 12) (c := 11) (kf := 3) (r := (RX11, TX11, 16)) (p0 := 0) (p1 := 1) (EJ_aload_n (j := 0) (i := 0) (pc := 0) D_TL_rule_0 rfl) D_TL_rule_1 ⟨rfl, rfl, by decide, q_258⟩ (fun _ _ => rfl)) (AJ_I (p0 := 4) (p1 := 5) (p2 := 5) (EJ_iload_n (j := 1) (i := 1) (pc := 4) D_TL_rule_4 rfl) AJ_nil) m_State_hasRule E1_I D_TL_rule_5 rfl rfl rfl q_556 q_557 q_558 q_94 ⟨by decide +kernel, by decide +kernel, by decide +kernel⟩ (by decide) (show 1 + 1 ≤ 2 from by decide) (fun _ h => absurd h List.not_mem_nil)) D_TL_rule_8 rfl)) (SJ_ret (p0 := 11) (p1 := 12) (EJ_iconst (n := -1) (v := (-1)) (pc := 11) D_TL_rule_11 (by decide +kernel)) D_TL_rule_12) SJ_sk)
 (SJ_sq (p0 := 13) (p1 := 23) (nN := 0) (nB := 0) (nC := 0) (SJ_astore_n (i := 3) (j := 3) (p0 := 13) (p1 := 22) (EJ_aald (p0 := 13) (p1 := 20) (p2 := 21) (EJ_getR (t := 10) (c := 9) (kf := 1) (r := (RX9, TX9, 4)) (p0 := 13) (p1 := 17) (EJ_getR (t := 12) (c := 11) (kf := 3) (r := (RX11, TX11, 16)) (p0 := 13) (p1 := 14) (EJ_aload_n (j := 0) (i := 0) (pc := 13) D_TL_rule_13 rfl) D_TL_rule_14 ⟨rfl, rfl, by decide, q_258⟩ (fun _ _ => rfl)) D_TL_rule_17 ⟨rfl, rfl, by decide, q_177⟩ (fun _ _ => rfl)) (EJ_iload_n (j := 1) (i := 1) (pc := 20) D_TL_rule_20 rfl) D_TL_rule_21 (Or.inl ⟨_, rfl⟩)) D_TL_rule_22 rfl)
 (SJ_sw (p0 := 23) (p1 := 24) (pD := 78) (EJ_iload_n (j := 2) (i := 2) (pc := 23) D_TL_rule_23 rfl) D_TL_rule_24 (by decide) (fun j qq hq => match j, hq with | 0, hq => (by cases hq; exact ⟨⟨_, rfl, rfl⟩, (SJ_ret (p0 := 52) (p1 := 57) (EJ_alen (p0 := 52) (p1 := 56) (EJ_getR (t := 7) (c := 6) (kf := 0) (r := (RX6, TX6, 5)) (p0 := 52) (p1 := 53) (EJ_aload_n (j := 3) (i := 3) (pc := 52) D_TL_rule_52 rfl) D_TL_rule_53 ⟨rfl, rfl, by decide, q_390⟩ (fun _ _ => rfl)) D_TL_rule_56) D_TL_rule_57)⟩) | 1, hq => (by cases hq; exact ⟨⟨_, rfl, rfl⟩, (SJ_ret (p0 := 58) (p1 := 62) (EJ_getI (t := 7) (c := 6) (kf := 4) (r := (RX6, TX6, 5)) (p0 := 58) (p1 := 59) (EJ_aload_n (j := 3) (i := 3) (pc := 58) D_TL_rule_58 rfl) D_TL_rule_59 ⟨rfl, rfl, by decide, q_403⟩ (fun _ _ => rfl)) D_TL_rule_62)⟩) | 2, hq => (by cases hq; exact ⟨⟨_, rfl, rfl⟩, (SJ_ret (p0 := 63) (p1 := 77) (EJ_callV (t := 11) (c := 10) (r := (RX10, TX10, 7)) (p0 := 63) (p1 := 70) (p2 := 74) (EJ_getR (t := 10) (c := 9) (kf := 0) (r := (RX9, TX9, 4)) (p0 := 63) (p1 := 67) (EJ_getR (t := 12) (c := 11) (kf := 3) (r := (RX11, TX11, 16)) (p0 := 63) (p1 := 64) (EJ_aload_n (j := 0) (i := 0) (pc := 63) D_TL_rule_63 rfl) D_TL_rule_64 ⟨rfl, rfl, by decide, q_258⟩ (fun _ _ => rfl)) D_TL_rule_67 ⟨rfl, rfl, by decide, q_174⟩ (fun _ _ => rfl)) (AJ_I (p0 := 70) (p1 := 74) (p2 := 74) (EJ_getI (t := 7) (c := 6) (kf := 1) (r := (RX6, TX6, 5)) (p0 := 70) (p1 := 71) (EJ_aload_n (j := 3) (i := 3) (pc := 70) D_TL_rule_70 rfl) D_TL_rule_71 ⟨rfl, rfl, by decide, q_394⟩ (fun _ _ => rfl)) AJ_nil) m_Upper_letterBits E1_I D_TL_rule_74 rfl rfl rfl q_700 q_701 q_702 q_93 ⟨by decide +kernel, by decide +kernel, by decide +kernel⟩ (by decide) (show 1 + 1 ≤ 2 from by decide) (fun _ h => absurd h List.not_mem_nil)) D_TL_rule_77)⟩) | (_ + 3), hq => by simp at hq) rfl (SJ_ret (p0 := 78) (p1 := 79) (EJ_iconst (n := -1) (v := (-1)) (pc := 78) D_TL_rule_78 (by decide +kernel)) D_TL_rule_79))))
 RTm_int q_699 (by decide +kernel) rfl (fun h => by cases h) (show 4 ≤ 40 from by decide) (fun _ => trivial)
theorem D_TL_settle_0 : decode cX11_settle 0 = .ok (.iload_n 1, 1) := by decide +kernel
theorem D_TL_settle_1 : decode cX11_settle 1 = .ok (.ifCond .ne (67), 3) := by decide +kernel
theorem D_TL_settle_4 : decode cX11_settle 4 = .ok (.iload_n 2, 1) := by decide +kernel
theorem D_TL_settle_5 : decode cX11_settle 5 = .ok (.iconst (1), 1) := by decide +kernel
theorem D_TL_settle_6 : decode cX11_settle 6 = .ok (.if_icmp .lt (62), 3) := by decide +kernel
theorem D_TL_settle_9 : decode cX11_settle 9 = .ok (.iload_n 2, 1) := by decide +kernel
theorem D_TL_settle_10 : decode cX11_settle 10 = .ok (.bipush (12), 2) := by decide +kernel
theorem D_TL_settle_12 : decode cX11_settle 12 = .ok (.if_icmp .gt (56), 3) := by decide +kernel
theorem D_TL_settle_15 : decode cX11_settle 15 = .ok (.aload_n 0, 1) := by decide +kernel
theorem D_TL_settle_16 : decode cX11_settle 16 = .ok (.getfield 30, 3) := by decide +kernel
theorem D_TL_settle_19 : decode cX11_settle 19 = .ok (.getfield 102, 3) := by decide +kernel
theorem D_TL_settle_22 : decode cX11_settle 22 = .ok (.istore_n 3, 1) := by decide +kernel
theorem D_TL_settle_23 : decode cX11_settle 23 = .ok (.iload_n 3, 1) := by decide +kernel
theorem D_TL_settle_24 : decode cX11_settle 24 = .ok (.iload_n 2, 1) := by decide +kernel
theorem D_TL_settle_25 : decode cX11_settle 25 = .ok (.if_icmp .ne (8), 3) := by decide +kernel
theorem D_TL_settle_28 : decode cX11_settle 28 = .ok (.bipush (-2), 2) := by decide +kernel
theorem D_TL_settle_30 : decode cX11_settle 30 = .ok (.goto (37), 3) := by decide +kernel
theorem D_TL_settle_33 : decode cX11_settle 33 = .ok (.aload_n 0, 1) := by decide +kernel
theorem D_TL_settle_34 : decode cX11_settle 34 = .ok (.new 20, 3) := by decide +kernel
theorem D_TL_settle_37 : decode cX11_settle 37 = .ok (.dup, 1) := by decide +kernel
theorem D_TL_settle_38 : decode cX11_settle 38 = .ok (.aload_n 0, 1) := by decide +kernel
theorem D_TL_settle_39 : decode cX11_settle 39 = .ok (.getfield 30, 3) := by decide +kernel
theorem D_TL_settle_42 : decode cX11_settle 42 = .ok (.getfield 53, 3) := by decide +kernel
theorem D_TL_settle_45 : decode cX11_settle 45 = .ok (.aload_n 0, 1) := by decide +kernel
theorem D_TL_settle_46 : decode cX11_settle 46 = .ok (.getfield 30, 3) := by decide +kernel
theorem D_TL_settle_49 : decode cX11_settle 49 = .ok (.getfield 118, 3) := by decide +kernel
theorem D_TL_settle_52 : decode cX11_settle 52 = .ok (.iload_n 2, 1) := by decide +kernel
theorem D_TL_settle_53 : decode cX11_settle 53 = .ok (.aload_n 0, 1) := by decide +kernel
theorem D_TL_settle_54 : decode cX11_settle 54 = .ok (.getfield 30, 3) := by decide +kernel
theorem D_TL_settle_57 : decode cX11_settle 57 = .ok (.getfield 105, 3) := by decide +kernel
theorem D_TL_settle_60 : decode cX11_settle 60 = .ok (.invokespecial 27, 3) := by decide +kernel
theorem D_TL_settle_63 : decode cX11_settle 63 = .ok (.iload_n 3, 1) := by decide +kernel
theorem D_TL_settle_64 : decode cX11_settle 64 = .ok (.invokevirtual 146, 3) := by decide +kernel
theorem D_TL_settle_67 : decode cX11_settle 67 = .ok (.ireturn, 1) := by decide +kernel
theorem D_TL_settle_68 : decode cX11_settle 68 = .ok (.iload_n 1, 1) := by decide +kernel
theorem D_TL_settle_69 : decode cX11_settle 69 = .ok (.iconst (1), 1) := by decide +kernel
theorem D_TL_settle_70 : decode cX11_settle 70 = .ok (.if_icmp .ne (65), 3) := by decide +kernel
theorem D_TL_settle_73 : decode cX11_settle 73 = .ok (.iload_n 2, 1) := by decide +kernel
theorem D_TL_settle_74 : decode cX11_settle 74 = .ok (.ifCond .lt (61), 3) := by decide +kernel
theorem D_TL_settle_77 : decode cX11_settle 77 = .ok (.iload_n 2, 1) := by decide +kernel
theorem D_TL_settle_78 : decode cX11_settle 78 = .ok (.iconst (3), 1) := by decide +kernel
theorem D_TL_settle_79 : decode cX11_settle 79 = .ok (.if_icmp .gt (56), 3) := by decide +kernel
theorem D_TL_settle_82 : decode cX11_settle 82 = .ok (.aload_n 0, 1) := by decide +kernel
theorem D_TL_settle_83 : decode cX11_settle 83 = .ok (.getfield 30, 3) := by decide +kernel
theorem D_TL_settle_86 : decode cX11_settle 86 = .ok (.getfield 105, 3) := by decide +kernel
theorem D_TL_settle_89 : decode cX11_settle 89 = .ok (.istore_n 3, 1) := by decide +kernel
theorem D_TL_settle_90 : decode cX11_settle 90 = .ok (.iload_n 3, 1) := by decide +kernel
theorem D_TL_settle_91 : decode cX11_settle 91 = .ok (.iload_n 2, 1) := by decide +kernel
theorem D_TL_settle_92 : decode cX11_settle 92 = .ok (.if_icmp .ne (8), 3) := by decide +kernel
theorem D_TL_settle_95 : decode cX11_settle 95 = .ok (.bipush (-2), 2) := by decide +kernel
theorem D_TL_settle_97 : decode cX11_settle 97 = .ok (.goto (37), 3) := by decide +kernel
theorem D_TL_settle_100 : decode cX11_settle 100 = .ok (.aload_n 0, 1) := by decide +kernel
theorem D_TL_settle_101 : decode cX11_settle 101 = .ok (.new 20, 3) := by decide +kernel
theorem D_TL_settle_104 : decode cX11_settle 104 = .ok (.dup, 1) := by decide +kernel
theorem D_TL_settle_105 : decode cX11_settle 105 = .ok (.aload_n 0, 1) := by decide +kernel
theorem D_TL_settle_106 : decode cX11_settle 106 = .ok (.getfield 30, 3) := by decide +kernel
theorem D_TL_settle_109 : decode cX11_settle 109 = .ok (.getfield 53, 3) := by decide +kernel
theorem D_TL_settle_112 : decode cX11_settle 112 = .ok (.aload_n 0, 1) := by decide +kernel
theorem D_TL_settle_113 : decode cX11_settle 113 = .ok (.getfield 30, 3) := by decide +kernel
theorem D_TL_settle_116 : decode cX11_settle 116 = .ok (.getfield 118, 3) := by decide +kernel
theorem D_TL_settle_119 : decode cX11_settle 119 = .ok (.aload_n 0, 1) := by decide +kernel
theorem D_TL_settle_120 : decode cX11_settle 120 = .ok (.getfield 30, 3) := by decide +kernel
theorem D_TL_settle_123 : decode cX11_settle 123 = .ok (.getfield 102, 3) := by decide +kernel
theorem D_TL_settle_126 : decode cX11_settle 126 = .ok (.iload_n 2, 1) := by decide +kernel
theorem D_TL_settle_127 : decode cX11_settle 127 = .ok (.invokespecial 27, 3) := by decide +kernel
theorem D_TL_settle_130 : decode cX11_settle 130 = .ok (.iload_n 3, 1) := by decide +kernel
theorem D_TL_settle_131 : decode cX11_settle 131 = .ok (.invokevirtual 146, 3) := by decide +kernel
theorem D_TL_settle_134 : decode cX11_settle 134 = .ok (.ireturn, 1) := by decide +kernel
theorem D_TL_settle_135 : decode cX11_settle 135 = .ok (.iconst (-1), 1) := by decide +kernel
theorem D_TL_settle_136 : decode cX11_settle 136 = .ok (.ireturn, 1) := by decide +kernel
def K_TL_settle : SC := (cX11_settle, "TwoLevels", 4, 3, false, [10, 12, 23], NoQ)
def d_TL_settle : MD Int32 := mth tt 4 (sq (sIf (cAnd (cAnd (eh1 z_eq (lI 1)) (eh2 c_ge (lI 2) (eC (nI 1)))) (eh2 c_le (lI 2) (eC (nI 12)))) (sq (sI1 3 (eh1 (gI 10 2) (eh1 (gR 12 3) (lR 0))))
 (rtn (eIf (eh2 c_eq (lI 3) (lI 2)) (eC (-2)) (kV 12 d_TL_act (lR 0) [vR (kN 10 4 d_State_init [vR (eh1 (gR 10 0) (eh1 (gR 12 3) (lR 0))), vR (eh1 (gR 10 1) (eh1 (gR 12 3) (lR 0))), vI (lI 2), vI (eh1 (gI 10 3) (eh1 (gR 12 3) (lR 0)))]), vI (lI 3)])))) sk)
 (sq (sIf (cAnd (cAnd (eh2 c_eq (lI 1) (eC (nI 1))) (eh1 z_ge (lI 2))) (eh2 c_le (lI 2) (eC (nI 3)))) (sq (sI1 3 (eh1 (gI 10 3) (eh1 (gR 12 3) (lR 0))))
 (rtn (eIf (eh2 c_eq (lI 3) (lI 2)) (eC (-2)) (kV 12 d_TL_act (lR 0) [vR (kN 10 4 d_State_init [vR (eh1 (gR 10 0) (eh1 (gR 12 3) (lR 0))), vR (eh1 (gR 10 1) (eh1 (gR 12 3) (lR 0))), vI (eh1 (gI 10 2) (eh1 (gR 12 3) (lR 0))), vI (lI 2)]), vI (lI 3)])))) sk)
 (rtn (eC (-1)))))
theorem m_TL_settle : MJ 3 [10, 12, 23] yX11_settle (some .int) eI (d_TL_settle) := MJ_of (K := K_TL_settle) (ri := .ireturn) (n1 := 0) (n2 := 0) (n3 := 0)
 (SJ_sq (p0 := 0) (p1 := 68) (nN := 0) (nB := 0) (nC := 0) (SJ_if (p0 := 0) (pT := 15) (pF := 68) (nN := 68) (nB := 0) (nC := 0) (CJ_and (p0 := 0) (pM := 9) (pT := 15) (pF := 68) (CJ_and (p0 := 0) (pM := 4) (pT := 9) (pF := 68) (CZ_eq' (off := 67) (tgt := 68) (p0 := 0) (p1 := 1) (EJ_iload_n (j := 1) (i := 1) (pc := 0) D_TL_settle_0 rfl) D_TL_settle_1 rfl) (CJ_ge' (off := 62) (tgt := 68) (p0 := 4) (p1 := 5) (p2 := 6) (EJ_iload_n (j := 2) (i := 2) (pc := 4) D_TL_settle_4 rfl) (EJ_iconst (n := 1) (v := (nI 1)) (pc := 5) D_TL_settle_5 (by decide +kernel)) D_TL_settle_6 rfl)) (CJ_le' (off := 56) (tgt := 68) (p0 := 9) (p1 := 10) (p2 := 12) (EJ_iload_n (j := 2) (i := 2) (pc := 9) D_TL_settle_9 rfl) (EJ_bipush (n := 12) (v := (nI 12)) (pc := 10) D_TL_settle_10 (by decide +kernel)) D_TL_settle_12 rfl)) (SJ_sq (p0 := 15) (p1 := 23) (nN := 68) (nB := 0) (nC := 0) (SJ_istore_n (i := 3) (j := 3) (p0 := 15) (p1 := 22) (EJ_getI (t := 10) (c := 9) (kf := 2) (r := (RX9, TX9, 4)) (p0 := 15) (p1 := 19) (EJ_getR (t := 12) (c := 11) (kf := 3) (r := (RX11, TX11, 16)) (p0 := 15) (p1 := 16) (EJ_aload_n (j := 0) (i := 0) (pc := 15) D_TL_settle_15 rfl) D_TL_settle_16 ⟨rfl, rfl, by decide, q_258⟩ (fun _ _ => rfl)) D_TL_settle_19 ⟨rfl, rfl, by decide, q_180⟩ (fun _ _ => rfl)) D_TL_settle_22 rfl)
 (SJ_ret (p0 := 23) (p1 := 67) (EJ_if (p0 := 23) (pT := 28) (pF := 33) (pE := 30) (p1 := 67) (CJ_eq' (off := 8) (tgt := 33) (p0 := 23) (p1 := 24) (p2 := 25) (EJ_iload_n (j := 3) (i := 3) (pc := 23) D_TL_settle_23 rfl) (EJ_iload_n (j := 2) (i := 2) (pc := 24) D_TL_settle_24 rfl) D_TL_settle_25 rfl) (EJ_bipush (n := -2) (v := (-2)) (pc := 28) D_TL_settle_28 (by decide +kernel)) (Lead.goto (K := K_TL_settle) (pc := 30) (tgt := 67) D_TL_settle_30 rfl) (EJ_callV (t := 12) (c := 11) (r := (RX11, TX11, 16)) (p0 := 33) (p1 := 34) (p2 := 64) (EJ_aload_n (j := 0) (i := 0) (pc := 33) D_TL_settle_33 rfl) (AJ_R (p0 := 34) (p1 := 63) (p2 := 64) (EJ_new (t := 10) (c := 9) (r := (RX9, TX9, 4)) (p0 := 34) (p1 := 60) D_TL_settle_34 D_TL_settle_37 (AJ_R (p0 := 38) (p1 := 45) (p2 := 60) (EJ_getR (t := 10) (c := 9) (kf := 0) (r := (RX9, TX9, 4)) (p0 := 38) (p1 := 42) (EJ_getR (t := 12) (c := 11) (kf := 3) (r := (RX11, TX11, 16)) (p0 := 38) (p1 := 39) (EJ_aload_n (j := 0) (i := 0) (pc := 38) D_TL_settle_38 rfl) D_TL_settle_39 ⟨rfl, rfl, by decide, q_258⟩ (fun _ _ => rfl)) D_TL_settle_42 ⟨rfl, rfl, by decide, q_174⟩ (fun _ _ => rfl)) (AJ_R (p0 := 45) (p1 := 52) (p2 := 60) (EJ_getR (t := 10) (c := 9) (kf := 1) (r := (RX9, TX9, 4)) (p0 := 45) (p1 := 49) (EJ_getR (t := 12) (c := 11) (kf := 3) (r := (RX11, TX11, 16)) (p0 := 45) (p1 := 46) (EJ_aload_n (j := 0) (i := 0) (pc := 45) D_TL_settle_45 rfl) D_TL_settle_46 ⟨rfl, rfl, by decide, q_258⟩ (fun _ _ => rfl)) D_TL_settle_49 ⟨rfl, rfl, by decide, q_177⟩ (fun _ _ => rfl)) (AJ_I (p0 := 52) (p1 := 53) (p2 := 60) (EJ_iload_n (j := 2) (i := 2) (pc := 52) D_TL_settle_52 rfl) (AJ_I (p0 := 53) (p1 := 60) (p2 := 60) (EJ_getI (t := 10) (c := 9) (kf := 3) (r := (RX9, TX9, 4)) (p0 := 53) (p1 := 57) (EJ_getR (t := 12) (c := 11) (kf := 3) (r := (RX11, TX11, 16)) (p0 := 53) (p1 := 54) (EJ_aload_n (j := 0) (i := 0) (pc := 53) D_TL_settle_53 rfl) D_TL_settle_54 ⟨rfl, rfl, by decide, q_258⟩ (fun _ _ => rfl)) D_TL_settle_57 ⟨rfl, rfl, by decide, q_182⟩ (fun _ _ => rfl)) AJ_nil)))) m_State_init D_TL_settle_60 rfl rfl q_165 q_166 q_94 rfl rfl (Or.inl q_169) q_170 ⟨by decide +kernel, by decide +kernel, by decide +kernel⟩ (by decide) (show 1 + 1 ≤ 3 from by decide) (show ∀ x_ ∈ ([10] : List Nat), x_ ∈ ([10, 12, 23] : List Nat) from by decide)) (AJ_I (p0 := 63) (p1 := 64) (p2 := 64) (EJ_iload_n (j := 3) (i := 3) (pc := 63) D_TL_settle_63 rfl) AJ_nil)) m_TL_act E1_I D_TL_settle_64 rfl rfl rfl q_549 q_550 q_15 q_91 ⟨by decide +kernel, by decide +kernel, by decide +kernel⟩ (by decide) (show 2 + 1 ≤ 3 from by decide) (show ∀ x_ ∈ ([12, 23] : List Nat), x_ ∈ ([10, 12, 23] : List Nat) from by decide))) D_TL_settle_67)) SJ_sk)
 (SJ_sq (p0 := 68) (p1 := 135) (nN := 0) (nB := 0) (nC := 0) (SJ_if (p0 := 68) (pT := 82) (pF := 135) (nN := 135) (nB := 0) (nC := 0) (CJ_and (p0 := 68) (pM := 77) (pT := 82) (pF := 135) (CJ_and (p0 := 68) (pM := 73) (pT := 77) (pF := 135) (CJ_eq' (off := 65) (tgt := 135) (p0 := 68) (p1 := 69) (p2 := 70) (EJ_iload_n (j := 1) (i := 1) (pc := 68) D_TL_settle_68 rfl) (EJ_iconst (n := 1) (v := (nI 1)) (pc := 69) D_TL_settle_69 (by decide +kernel)) D_TL_settle_70 rfl) (CZ_ge' (off := 61) (tgt := 135) (p0 := 73) (p1 := 74) (EJ_iload_n (j := 2) (i := 2) (pc := 73) D_TL_settle_73 rfl) D_TL_settle_74 rfl)) (CJ_le' (off := 56) (tgt := 135) (p0 := 77) (p1 := 78) (p2 := 79) (EJ_iload_n (j := 2) (i := 2) (pc := 77) D_TL_settle_77 rfl) (EJ_iconst (n := 3) (v := (nI 3)) (pc := 78) D_TL_settle_78 (by decide +kernel)) D_TL_settle_79 rfl)) (SJ_sq (p0 := 82) (p1 := 90) (nN := 135) (nB := 0) (nC := 0) (SJ_istore_n (i := 3) (j := 3) (p0 := 82) (p1 := 89) (EJ_getI (t := 10) (c := 9) (kf := 3) (r := (RX9, TX9, 4)) (p0 := 82) (p1 := 86) (EJ_getR (t := 12) (c := 11) (kf := 3) (r := (RX11, TX11, 16)) (p0 := 82) (p1 := 83) (EJ_aload_n (j := 0) (i := 0) (pc := 82) D_TL_settle_82 rfl) D_TL_settle_83 ⟨rfl, rfl, by decide, q_258⟩ (fun _ _ => rfl)) D_TL_settle_86 ⟨rfl, rfl, by decide, q_182⟩ (fun _ _ => rfl)) D_TL_settle_89 rfl)
 (SJ_ret (p0 := 90) (p1 := 134) (EJ_if (p0 := 90) (pT := 95) (pF := 100) (pE := 97) (p1 := 134) (CJ_eq' (off := 8) (tgt := 100) (p0 := 90) (p1 := 91) (p2 := 92) (EJ_iload_n (j := 3) (i := 3) (pc := 90) D_TL_settle_90 rfl) (EJ_iload_n (j := 2) (i := 2) (pc := 91) D_TL_settle_91 rfl) D_TL_settle_92 rfl) (EJ_bipush (n := -2) (v := (-2)) (pc := 95) D_TL_settle_95 (by decide +kernel)) (Lead.goto (K := K_TL_settle) (pc := 97) (tgt := 134) D_TL_settle_97 rfl) (EJ_callV (t := 12) (c := 11) (r := (RX11, TX11, 16)) (p0 := 100) (p1 := 101) (p2 := 131) (EJ_aload_n (j := 0) (i := 0) (pc := 100) D_TL_settle_100 rfl) (AJ_R (p0 := 101) (p1 := 130) (p2 := 131) (EJ_new (t := 10) (c := 9) (r := (RX9, TX9, 4)) (p0 := 101) (p1 := 127) D_TL_settle_101 D_TL_settle_104 (AJ_R (p0 := 105) (p1 := 112) (p2 := 127) (EJ_getR (t := 10) (c := 9) (kf := 0) (r := (RX9, TX9, 4)) (p0 := 105) (p1 := 109) (EJ_getR (t := 12) (c := 11) (kf := 3) (r := (RX11, TX11, 16)) (p0 := 105) (p1 := 106) (EJ_aload_n (j := 0) (i := 0) (pc := 105) D_TL_settle_105 rfl) D_TL_settle_106 ⟨rfl, rfl, by decide, q_258⟩ (fun _ _ => rfl)) D_TL_settle_109 ⟨rfl, rfl, by decide, q_174⟩ (fun _ _ => rfl)) (AJ_R (p0 := 112) (p1 := 119) (p2 := 127) (EJ_getR (t := 10) (c := 9) (kf := 1) (r := (RX9, TX9, 4)) (p0 := 112) (p1 := 116) (EJ_getR (t := 12) (c := 11) (kf := 3) (r := (RX11, TX11, 16)) (p0 := 112) (p1 := 113) (EJ_aload_n (j := 0) (i := 0) (pc := 112) D_TL_settle_112 rfl) D_TL_settle_113 ⟨rfl, rfl, by decide, q_258⟩ (fun _ _ => rfl)) D_TL_settle_116 ⟨rfl, rfl, by decide, q_177⟩ (fun _ _ => rfl)) (AJ_I (p0 := 119) (p1 := 126) (p2 := 127) (EJ_getI (t := 10) (c := 9) (kf := 2) (r := (RX9, TX9, 4)) (p0 := 119) (p1 := 123) (EJ_getR (t := 12) (c := 11) (kf := 3) (r := (RX11, TX11, 16)) (p0 := 119) (p1 := 120) (EJ_aload_n (j := 0) (i := 0) (pc := 119) D_TL_settle_119 rfl) D_TL_settle_120 ⟨rfl, rfl, by decide, q_258⟩ (fun _ _ => rfl)) D_TL_settle_123 ⟨rfl, rfl, by decide, q_180⟩ (fun _ _ => rfl)) (AJ_I (p0 := 126) (p1 := 127) (p2 := 127) (EJ_iload_n (j := 2) (i := 2) (pc := 126) D_TL_settle_126 rfl) AJ_nil)))) m_State_init D_TL_settle_127 rfl rfl q_165 q_166 q_94 rfl rfl (Or.inl q_169) q_170 ⟨by decide +kernel, by decide +kernel, by decide +kernel⟩ (by decide) (show 1 + 1 ≤ 3 from by decide) (show ∀ x_ ∈ ([10] : List Nat), x_ ∈ ([10, 12, 23] : List Nat) from by decide)) (AJ_I (p0 := 130) (p1 := 131) (p2 := 131) (EJ_iload_n (j := 3) (i := 3) (pc := 130) D_TL_settle_130 rfl) AJ_nil)) m_TL_act E1_I D_TL_settle_131 rfl rfl rfl q_549 q_550 q_15 q_91 ⟨by decide +kernel, by decide +kernel, by decide +kernel⟩ (by decide) (show 2 + 1 ≤ 3 from by decide) (show ∀ x_ ∈ ([12, 23] : List Nat), x_ ∈ ([10, 12, 23] : List Nat) from by decide))) D_TL_settle_134)) SJ_sk)
 (SJ_ret (p0 := 135) (p1 := 136) (EJ_iconst (n := -1) (v := (-1)) (pc := 135) D_TL_settle_135 (by decide +kernel)) D_TL_settle_136)))
 RTm_int q_548 (by decide +kernel) rfl (fun h => by cases h) (show 4 ≤ 40 from by decide) (fun _ => trivial)
theorem D_TL_span_0 : decode cX11_span 0 = .ok (.aload_n 0, 1) := by decide +kernel
theorem D_TL_span_1 : decode cX11_span 1 = .ok (.getfield 108, 3) := by decide +kernel
theorem D_TL_span_4 : decode cX11_span 4 = .ok (.invokestatic 175, 3) := by decide +kernel
theorem D_TL_span_7 : decode cX11_span 7 = .ok (.istore 4, 2) := by decide +kernel
theorem D_TL_span_9 : decode cX11_span 9 = .ok (.iload_n 2, 1) := by decide +kernel
theorem D_TL_span_10 : decode cX11_span 10 = .ok (.ifCond .lt (21), 3) := by decide +kernel
theorem D_TL_span_13 : decode cX11_span 13 = .ok (.iload_n 3, 1) := by decide +kernel
theorem D_TL_span_14 : decode cX11_span 14 = .ok (.ifCond .lt (17), 3) := by decide +kernel
theorem D_TL_span_17 : decode cX11_span 17 = .ok (.iload_n 2, 1) := by decide +kernel
theorem D_TL_span_18 : decode cX11_span 18 = .ok (.iload 4, 2) := by decide +kernel
theorem D_TL_span_20 : decode cX11_span 20 = .ok (.if_icmp .gt (11), 3) := by decide +kernel
theorem D_TL_span_23 : decode cX11_span 23 = .ok (.iload_n 3, 1) := by decide +kernel
theorem D_TL_span_24 : decode cX11_span 24 = .ok (.iload 4, 2) := by decide +kernel
theorem D_TL_span_26 : decode cX11_span 26 = .ok (.iload_n 2, 1) := by decide +kernel
theorem D_TL_span_27 : decode cX11_span 27 = .ok (.isub, 1) := by decide +kernel
theorem D_TL_span_28 : decode cX11_span 28 = .ok (.if_icmp .le (5), 3) := by decide +kernel
theorem D_TL_span_31 : decode cX11_span 31 = .ok (.iconst (-1), 1) := by decide +kernel
theorem D_TL_span_32 : decode cX11_span 32 = .ok (.ireturn, 1) := by decide +kernel
theorem D_TL_span_33 : decode cX11_span 33 = .ok (.aload_n 0, 1) := by decide +kernel
theorem D_TL_span_34 : decode cX11_span 34 = .ok (.iload_n 1, 1) := by decide +kernel
theorem D_TL_span_35 : decode cX11_span 35 = .ok (.iload_n 2, 1) := by decide +kernel
theorem D_TL_span_36 : decode cX11_span 36 = .ok (.iload_n 3, 1) := by decide +kernel
theorem D_TL_span_37 : decode cX11_span 37 = .ok (.invokevirtual 205, 3) := by decide +kernel
theorem D_TL_span_40 : decode cX11_span 40 = .ok (.ireturn, 1) := by decide +kernel
def K_TL_span : SC := (cX11_span, "TwoLevels", 5, 6, false, [3, 43, 44, 46], NoQ)
def d_TL_span : MD Int32 := mth tt 5 (sq (sI1 4 (kS d_Rows_size [vJ (eh1 (gJ 12 4) (lR 0))]))
 (sq (sIf (cOr (cOr (cOr (eh1 z_lt (lI 2)) (eh1 z_lt (lI 3))) (eh2 c_gt (lI 2) (lI 4))) (eh2 c_gt (lI 3) (eh2 isubF (lI 4) (lI 2)))) (rtn (eC (-1))) sk)
 (rtn (kV 12 d_TL_spans (lR 0) [vI (lI 1), vI (lI 2), vI (lI 3)]))))
theorem m_TL_span : MJ 6 [3, 43, 44, 46] yX11_span (some .int) eI (d_TL_span) := MJ_of (K := K_TL_span) (ri := .ireturn) (n1 := 0) (n2 := 0) (n3 := 0)
 (SJ_sq (p0 := 0) (p1 := 9) (nN := 0) (nB := 0) (nC := 0) (SJ_istore (i := 4) (p0 := 0) (p1 := 7) (EJ_callS (p0 := 0) (p1 := 4) (AJ_J (p0 := 0) (p1 := 4) (p2 := 4) (EJ_getJ (t := 12) (c := 11) (kf := 4) (r := (RX11, TX11, 16)) (p0 := 0) (p1 := 1) (EJ_aload_n (j := 0) (i := 0) (pc := 0) D_TL_span_0 rfl) D_TL_span_1 ⟨rfl, rfl, by decide, q_259⟩ (fun _ _ => rfl)) AJ_nil) m_Rows_size E1_I D_TL_span_4 q_613 q_504 q_104 ⟨by decide +kernel, by decide +kernel, by decide +kernel⟩ (by decide) (show 1 + 1 ≤ 6 from by decide) (fun _ h => absurd h List.not_mem_nil)) D_TL_span_7)
 (SJ_sq (p0 := 9) (p1 := 33) (nN := 0) (nB := 0) (nC := 0) (SJ_if (p0 := 9) (pT := 31) (pF := 33) (nN := 33) (nB := 0) (nC := 0) (CJ_or (p0 := 9) (pM := 23) (pT := 31) (pF := 33) (CJ_or (p0 := 9) (pM := 17) (pT := 31) (pF := 23) (CJ_or (p0 := 9) (pM := 13) (pT := 31) (pF := 17) (CZ_lt (off := 21) (tgt := 31) (p0 := 9) (p1 := 10) (EJ_iload_n (j := 2) (i := 2) (pc := 9) D_TL_span_9 rfl) D_TL_span_10 rfl) (CZ_lt (off := 17) (tgt := 31) (p0 := 13) (p1 := 14) (EJ_iload_n (j := 3) (i := 3) (pc := 13) D_TL_span_13 rfl) D_TL_span_14 rfl)) (CJ_gt (off := 11) (tgt := 31) (p0 := 17) (p1 := 18) (p2 := 20) (EJ_iload_n (j := 2) (i := 2) (pc := 17) D_TL_span_17 rfl) (EJ_iload (i := 4) (pc := 18) D_TL_span_18) D_TL_span_20 rfl)) (CJ_gt' (off := 5) (tgt := 33) (p0 := 23) (p1 := 24) (p2 := 28) (EJ_iload_n (j := 3) (i := 3) (pc := 23) D_TL_span_23 rfl) (EJ_isub (p0 := 24) (p1 := 26) (p2 := 27) (EJ_iload (i := 4) (pc := 24) D_TL_span_24) (EJ_iload_n (j := 2) (i := 2) (pc := 26) D_TL_span_26 rfl) D_TL_span_27) D_TL_span_28 rfl)) (SJ_ret (p0 := 31) (p1 := 32) (EJ_iconst (n := -1) (v := (-1)) (pc := 31) D_TL_span_31 (by decide +kernel)) D_TL_span_32) SJ_sk)
 (SJ_ret (p0 := 33) (p1 := 40) (EJ_callV (t := 12) (c := 11) (r := (RX11, TX11, 16)) (p0 := 33) (p1 := 34) (p2 := 37) (EJ_aload_n (j := 0) (i := 0) (pc := 33) D_TL_span_33 rfl) (AJ_I (p0 := 34) (p1 := 35) (p2 := 37) (EJ_iload_n (j := 1) (i := 1) (pc := 34) D_TL_span_34 rfl) (AJ_I (p0 := 35) (p1 := 36) (p2 := 37) (EJ_iload_n (j := 2) (i := 2) (pc := 35) D_TL_span_35 rfl) (AJ_I (p0 := 36) (p1 := 37) (p2 := 37) (EJ_iload_n (j := 3) (i := 3) (pc := 36) D_TL_span_36 rfl) AJ_nil))) m_TL_spans E1_I D_TL_span_37 rfl rfl rfl q_664 q_665 q_16 q_91 ⟨by decide +kernel, by decide +kernel, by decide +kernel⟩ (by decide) (show 5 + 1 ≤ 6 from by decide) (show ∀ x_ ∈ ([3, 43, 44, 46] : List Nat), x_ ∈ ([3, 43, 44, 46] : List Nat) from by decide)) D_TL_span_40)))
 RTm_int q_695 (by decide +kernel) rfl (fun h => by cases h) (show 5 ≤ 40 from by decide) (fun _ => trivial)
theorem D_TL_spelled_0 : decode cX11_spelled 0 = .ok (.aload_n 0, 1) := by decide +kernel
theorem D_TL_spelled_1 : decode cX11_spelled 1 = .ok (.invokevirtual 271, 3) := by decide +kernel
theorem D_TL_spelled_4 : decode cX11_spelled 4 = .ok (.iconst (1), 1) := by decide +kernel
theorem D_TL_spelled_5 : decode cX11_spelled 5 = .ok (.if_icmp .ne (14), 3) := by decide +kernel
theorem D_TL_spelled_8 : decode cX11_spelled 8 = .ok (.aload_n 0, 1) := by decide +kernel
theorem D_TL_spelled_9 : decode cX11_spelled 9 = .ok (.getfield 79, 3) := by decide +kernel
theorem D_TL_spelled_12 : decode cX11_spelled 12 = .ok (.iload_n 1, 1) := by decide +kernel
theorem D_TL_spelled_13 : decode cX11_spelled 13 = .ok (.invokevirtual 290, 3) := by decide +kernel
theorem D_TL_spelled_16 : decode cX11_spelled 16 = .ok (.goto (4), 3) := by decide +kernel
theorem D_TL_spelled_19 : decode cX11_spelled 19 = .ok (.aconst_null, 1) := by decide +kernel
theorem D_TL_spelled_20 : decode cX11_spelled 20 = .ok (.astore_n 3, 1) := by decide +kernel
theorem D_TL_spelled_21 : decode cX11_spelled 21 = .ok (.aload_n 3, 1) := by decide +kernel
theorem D_TL_spelled_22 : decode cX11_spelled 22 = .ok (.ifnonnull (7), 3) := by decide +kernel
theorem D_TL_spelled_25 : decode cX11_spelled 25 = .ok (.iconst (-1), 1) := by decide +kernel
theorem D_TL_spelled_26 : decode cX11_spelled 26 = .ok (.goto (12), 3) := by decide +kernel
theorem D_TL_spelled_29 : decode cX11_spelled 29 = .ok (.aload_n 3, 1) := by decide +kernel
theorem D_TL_spelled_30 : decode cX11_spelled 30 = .ok (.getfield 314, 3) := by decide +kernel
theorem D_TL_spelled_33 : decode cX11_spelled 33 = .ok (.iload_n 2, 1) := by decide +kernel
theorem D_TL_spelled_34 : decode cX11_spelled 34 = .ok (.iconst (-1), 1) := by decide +kernel
theorem D_TL_spelled_35 : decode cX11_spelled 35 = .ok (.invokestatic 171, 3) := by decide +kernel
theorem D_TL_spelled_38 : decode cX11_spelled 38 = .ok (.ireturn, 1) := by decide +kernel
def K_TL_spelled : SC := (cX11_spelled, "TwoLevels", 4, 207, false, [3, 4, 8, 12, 43, 44, 45, 46, 47, 48, 49, 51], NoQ)
def d_TL_spelled : MD Int32 := mth tt 4 (sq (sR1 3 (eIf (eh2 c_eq (kV 12 d_TL_derives (lR 0) []) (eC (nI 1))) (kV 8 d_Search_nodeOrNull (eh1 (gR 12 11) (lR 0)) [vI (lI 1)]) (eC none)))
 (rtn (eIf (eh1 n_nul (lR 3)) (eC (-1)) (kS d_TL_letterOr [vJ (eh1 (gJ 4 1) (lR 3)), vI (lI 2), vI (eC (-1))]))))
theorem m_TL_spelled : MJ 207 [3, 4, 8, 12, 43, 44, 45, 46, 47, 48, 49, 51] yX11_spelled (some .int) eI (d_TL_spelled) := MJ_of (K := K_TL_spelled) (ri := .ireturn) (n1 := 0) (n2 := 0) (n3 := 0)
 (SJ_sq (p0 := 0) (p1 := 21) (nN := 0) (nB := 0) (nC := 0) (SJ_astore_n (i := 3) (j := 3) (p0 := 0) (p1 := 20) (EJ_if (p0 := 0) (pT := 8) (pF := 19) (pE := 16) (p1 := 20) (CJ_eq' (off := 14) (tgt := 19) (p0 := 0) (p1 := 4) (p2 := 5) (EJ_callV (t := 12) (c := 11) (r := (RX11, TX11, 16)) (p0 := 0) (p1 := 1) (p2 := 1) (EJ_aload_n (j := 0) (i := 0) (pc := 0) D_TL_spelled_0 rfl) AJ_nil m_TL_derives E1_I D_TL_spelled_1 rfl rfl rfl q_872 q_865 q_866 q_91 ⟨by decide +kernel, by decide +kernel, by decide +kernel⟩ (by decide) (show 206 + 1 ≤ 207 from by decide) (show ∀ x_ ∈ ([3, 4, 8, 12, 43, 44, 45, 46, 47, 48, 49, 51] : List Nat), x_ ∈ ([3, 4, 8, 12, 43, 44, 45, 46, 47, 48, 49, 51] : List Nat) from by decide)) (EJ_iconst (n := 1) (v := (nI 1)) (pc := 4) D_TL_spelled_4 (by decide +kernel)) D_TL_spelled_5 rfl) (EJ_callV (t := 8) (c := 7) (r := (RX7, TX7, 11)) (p0 := 8) (p1 := 12) (p2 := 13) (EJ_getR (t := 12) (c := 11) (kf := 11) (r := (RX11, TX11, 16)) (p0 := 8) (p1 := 9) (EJ_aload_n (j := 0) (i := 0) (pc := 8) D_TL_spelled_8 rfl) D_TL_spelled_9 ⟨rfl, rfl, by decide, q_266⟩ (fun _ _ => rfl)) (AJ_I (p0 := 12) (p1 := 13) (p2 := 13) (EJ_iload_n (j := 1) (i := 1) (pc := 12) D_TL_spelled_12 rfl) AJ_nil) m_Search_nodeOrNull E1_R D_TL_spelled_13 rfl rfl rfl q_884 q_885 q_886 q_96 ⟨by decide +kernel, by decide +kernel, by decide +kernel⟩ (by decide) (show 1 + 1 ≤ 207 from by decide) (fun _ h => absurd h List.not_mem_nil)) (Lead.goto (K := K_TL_spelled) (pc := 16) (tgt := 20) D_TL_spelled_16 rfl) (EJ_null (pc := 19) D_TL_spelled_19)) D_TL_spelled_20 rfl)
 (SJ_ret (p0 := 21) (p1 := 38) (EJ_if (p0 := 21) (pT := 25) (pF := 29) (pE := 26) (p1 := 38) (CN_nul' (off := 7) (tgt := 29) (p0 := 21) (p1 := 22) (EJ_aload_n (j := 3) (i := 3) (pc := 21) D_TL_spelled_21 rfl) D_TL_spelled_22 rfl) (EJ_iconst (n := -1) (v := (-1)) (pc := 25) D_TL_spelled_25 (by decide +kernel)) (Lead.goto (K := K_TL_spelled) (pc := 26) (tgt := 38) D_TL_spelled_26 rfl) (EJ_callS (p0 := 29) (p1 := 35) (AJ_J (p0 := 29) (p1 := 33) (p2 := 35) (EJ_getJ (t := 4) (c := 3) (kf := 1) (r := (RX3, TX3, 11)) (p0 := 29) (p1 := 30) (EJ_aload_n (j := 3) (i := 3) (pc := 29) D_TL_spelled_29 rfl) D_TL_spelled_30 ⟨rfl, rfl, by decide, q_798⟩ (fun _ _ => rfl)) (AJ_I (p0 := 33) (p1 := 34) (p2 := 35) (EJ_iload_n (j := 2) (i := 2) (pc := 33) D_TL_spelled_33 rfl) (AJ_I (p0 := 34) (p1 := 35) (p2 := 35) (EJ_iconst (n := -1) (v := (-1)) (pc := 34) D_TL_spelled_34 (by decide +kernel)) AJ_nil))) m_TL_letterOr E1_I D_TL_spelled_35 q_610 q_611 q_91 ⟨by decide +kernel, by decide +kernel, by decide +kernel⟩ (by decide) (show 3 + 1 ≤ 207 from by decide) (fun _ h => absurd h List.not_mem_nil))) D_TL_spelled_38))
 RTm_int q_891 (by decide +kernel) rfl (fun h => by cases h) (show 4 ≤ 40 from by decide) (fun _ => trivial)
theorem D_TL_steps_0 : decode cX11_steps 0 = .ok (.iload_n 1, 1) := by decide +kernel
theorem D_TL_steps_1 : decode cX11_steps 1 = .ok (.ifCond .lt (8), 3) := by decide +kernel
theorem D_TL_steps_4 : decode cX11_steps 4 = .ok (.iload_n 1, 1) := by decide +kernel
theorem D_TL_steps_5 : decode cX11_steps 5 = .ok (.iconst (3), 1) := by decide +kernel
theorem D_TL_steps_6 : decode cX11_steps 6 = .ok (.if_icmp .le (5), 3) := by decide +kernel
theorem D_TL_steps_9 : decode cX11_steps 9 = .ok (.iconst (-1), 1) := by decide +kernel
theorem D_TL_steps_10 : decode cX11_steps 10 = .ok (.ireturn, 1) := by decide +kernel
theorem D_TL_steps_11 : decode cX11_steps 11 = .ok (.aload_n 0, 1) := by decide +kernel
theorem D_TL_steps_12 : decode cX11_steps 12 = .ok (.invokevirtual 271, 3) := by decide +kernel
theorem D_TL_steps_15 : decode cX11_steps 15 = .ok (.bipush (-3), 2) := by decide +kernel
theorem D_TL_steps_17 : decode cX11_steps 17 = .ok (.if_icmp .ne (6), 3) := by decide +kernel
theorem D_TL_steps_20 : decode cX11_steps 20 = .ok (.bipush (-3), 2) := by decide +kernel
theorem D_TL_steps_22 : decode cX11_steps 22 = .ok (.ireturn, 1) := by decide +kernel
theorem D_TL_steps_23 : decode cX11_steps 23 = .ok (.iload_n 1, 1) := by decide +kernel
theorem D_TL_steps_24 : decode cX11_steps 24 = .ok (.tableswitch 52 0 2 #[28, 36, 44], 28) := by decide +kernel
theorem D_TL_steps_52 : decode cX11_steps 52 = .ok (.aload_n 0, 1) := by decide +kernel
theorem D_TL_steps_53 : decode cX11_steps 53 = .ok (.getfield 79, 3) := by decide +kernel
theorem D_TL_steps_56 : decode cX11_steps 56 = .ok (.getfield 274, 3) := by decide +kernel
theorem D_TL_steps_59 : decode cX11_steps 59 = .ok (.ireturn, 1) := by decide +kernel
theorem D_TL_steps_60 : decode cX11_steps 60 = .ok (.aload_n 0, 1) := by decide +kernel
theorem D_TL_steps_61 : decode cX11_steps 61 = .ok (.getfield 79, 3) := by decide +kernel
theorem D_TL_steps_64 : decode cX11_steps 64 = .ok (.getfield 277, 3) := by decide +kernel
theorem D_TL_steps_67 : decode cX11_steps 67 = .ok (.ireturn, 1) := by decide +kernel
theorem D_TL_steps_68 : decode cX11_steps 68 = .ok (.aload_n 0, 1) := by decide +kernel
theorem D_TL_steps_69 : decode cX11_steps 69 = .ok (.getfield 79, 3) := by decide +kernel
theorem D_TL_steps_72 : decode cX11_steps 72 = .ok (.getfield 280, 3) := by decide +kernel
theorem D_TL_steps_75 : decode cX11_steps 75 = .ok (.ireturn, 1) := by decide +kernel
theorem D_TL_steps_76 : decode cX11_steps 76 = .ok (.aload_n 0, 1) := by decide +kernel
theorem D_TL_steps_77 : decode cX11_steps 77 = .ok (.getfield 79, 3) := by decide +kernel
theorem D_TL_steps_80 : decode cX11_steps 80 = .ok (.getfield 283, 3) := by decide +kernel
theorem D_TL_steps_83 : decode cX11_steps 83 = .ok (.ireturn, 1) := by decide +kernel
def K_TL_steps : SC := (cX11_steps, "TwoLevels", 2, 207, false, [3, 4, 8, 12, 43, 44, 45, 46, 47, 48, 49, 51], NoQ)
def d_TL_steps : MD Int32 := mth tt 2 (sq (sIf (cOr (eh1 z_lt (lI 1)) (eh2 c_gt (lI 1) (eC (nI 3)))) (rtn (eC (-1))) sk)
 (sq (sIf (eh2 c_eq (kV 12 d_TL_derives (lR 0) []) (eC (-3))) (rtn (eC (-3))) sk)
 (sSw (lI 1) [((rtn (eh1 (gI 8 5) (eh1 (gR 12 11) (lR 0)))), 52),
 ((rtn (eh1 (gI 8 6) (eh1 (gR 12 11) (lR 0)))), 60),
 ((rtn (eh1 (gI 8 7) (eh1 (gR 12 11) (lR 0)))), 68)]
 (rtn (eh1 (gI 8 8) (eh1 (gR 12 11) (lR 0)))))))
theorem m_TL_steps : MJ 207 [3, 4, 8, 12, 43, 44, 45, 46, 47, 48, 49, 51] yX11_steps (some .int) eI (d_TL_steps) := MJ_of (K := K_TL_steps) (ri := .ireturn) (n1 := 0) (n2 := 0) (n3 := 0)
 (SJ_sq (p0 := 0) (p1 := 11) (nN := 0) (nB := 0) (nC := 0) (SJ_if (p0 := 0) (pT := 9) (pF := 11) (nN := 11) (nB := 0) (nC := 0) (CJ_or (p0 := 0) (pM := 4) (pT := 9) (pF := 11) (CZ_lt (off := 8) (tgt := 9) (p0 := 0) (p1 := 1) (EJ_iload_n (j := 1) (i := 1) (pc := 0) D_TL_steps_0 rfl) D_TL_steps_1 rfl) (CJ_gt' (off := 5) (tgt := 11) (p0 := 4) (p1 := 5) (p2 := 6) (EJ_iload_n (j := 1) (i := 1) (pc := 4) D_TL_steps_4 rfl) (EJ_iconst (n := 3) (v := (nI 3)) (pc := 5) D_TL_steps_5 (by decide +kernel)) D_TL_steps_6 rfl)) (SJ_ret (p0 := 9) (p1 := 10) (EJ_iconst (n := -1) (v := (-1)) (pc := 9) D_TL_steps_9 (by decide +kernel)) D_TL_steps_10) SJ_sk)
 (SJ_sq (p0 := 11) (p1 := 23) (nN := 0) (nB := 0) (nC := 0) (SJ_if (p0 := 11) (pT := 20) (pF := 23) (nN := 23) (nB := 0) (nC := 0) (CJ_eq' (off := 6) (tgt := 23) (p0 := 11) (p1 := 15) (p2 := 17) (EJ_callV (t := 12) (c := 11) (r := (RX11, TX11, 16)) (p0 := 11) (p1 := 12) (p2 := 12) (EJ_aload_n (j := 0) (i := 0) (pc := 11) D_TL_steps_11 rfl) AJ_nil m_TL_derives E1_I D_TL_steps_12 rfl rfl rfl q_872 q_865 q_866 q_91 ⟨by decide +kernel, by decide +kernel, by decide +kernel⟩ (by decide) (show 206 + 1 ≤ 207 from by decide) (show ∀ x_ ∈ ([3, 4, 8, 12, 43, 44, 45, 46, 47, 48, 49, 51] : List Nat), x_ ∈ ([3, 4, 8, 12, 43, 44, 45, 46, 47, 48, 49, 51] : List Nat) from by decide)) (EJ_bipush (n := -3) (v := (-3)) (pc := 15) D_TL_steps_15 (by decide +kernel)) D_TL_steps_17 rfl) (SJ_ret (p0 := 20) (p1 := 22) (EJ_bipush (n := -3) (v := (-3)) (pc := 20) D_TL_steps_20 (by decide +kernel)) D_TL_steps_22) SJ_sk)
 (SJ_sw (p0 := 23) (p1 := 24) (pD := 76) (EJ_iload_n (j := 1) (i := 1) (pc := 23) D_TL_steps_23 rfl) D_TL_steps_24 (by decide) (fun j qq hq => match j, hq with | 0, hq => (by cases hq; exact ⟨⟨_, rfl, rfl⟩, (SJ_ret (p0 := 52) (p1 := 59) (EJ_getI (t := 8) (c := 7) (kf := 5) (r := (RX7, TX7, 11)) (p0 := 52) (p1 := 56) (EJ_getR (t := 12) (c := 11) (kf := 11) (r := (RX11, TX11, 16)) (p0 := 52) (p1 := 53) (EJ_aload_n (j := 0) (i := 0) (pc := 52) D_TL_steps_52 rfl) D_TL_steps_53 ⟨rfl, rfl, by decide, q_266⟩ (fun _ _ => rfl)) D_TL_steps_56 ⟨rfl, rfl, by decide, q_234⟩ (fun _ _ => rfl)) D_TL_steps_59)⟩) | 1, hq => (by cases hq; exact ⟨⟨_, rfl, rfl⟩, (SJ_ret (p0 := 60) (p1 := 67) (EJ_getI (t := 8) (c := 7) (kf := 6) (r := (RX7, TX7, 11)) (p0 := 60) (p1 := 64) (EJ_getR (t := 12) (c := 11) (kf := 11) (r := (RX11, TX11, 16)) (p0 := 60) (p1 := 61) (EJ_aload_n (j := 0) (i := 0) (pc := 60) D_TL_steps_60 rfl) D_TL_steps_61 ⟨rfl, rfl, by decide, q_266⟩ (fun _ _ => rfl)) D_TL_steps_64 ⟨rfl, rfl, by decide, q_236⟩ (fun _ _ => rfl)) D_TL_steps_67)⟩) | 2, hq => (by cases hq; exact ⟨⟨_, rfl, rfl⟩, (SJ_ret (p0 := 68) (p1 := 75) (EJ_getI (t := 8) (c := 7) (kf := 7) (r := (RX7, TX7, 11)) (p0 := 68) (p1 := 72) (EJ_getR (t := 12) (c := 11) (kf := 11) (r := (RX11, TX11, 16)) (p0 := 68) (p1 := 69) (EJ_aload_n (j := 0) (i := 0) (pc := 68) D_TL_steps_68 rfl) D_TL_steps_69 ⟨rfl, rfl, by decide, q_266⟩ (fun _ _ => rfl)) D_TL_steps_72 ⟨rfl, rfl, by decide, q_238⟩ (fun _ _ => rfl)) D_TL_steps_75)⟩) | (_ + 3), hq => by simp at hq) rfl (SJ_ret (p0 := 76) (p1 := 83) (EJ_getI (t := 8) (c := 7) (kf := 8) (r := (RX7, TX7, 11)) (p0 := 76) (p1 := 80) (EJ_getR (t := 12) (c := 11) (kf := 11) (r := (RX11, TX11, 16)) (p0 := 76) (p1 := 77) (EJ_aload_n (j := 0) (i := 0) (pc := 76) D_TL_steps_76 rfl) D_TL_steps_77 ⟨rfl, rfl, by decide, q_266⟩ (fun _ _ => rfl)) D_TL_steps_80 ⟨rfl, rfl, by decide, q_240⟩ (fun _ _ => rfl)) D_TL_steps_83))))
 RTm_int q_871 (by decide +kernel) rfl (fun h => by cases h) (show 2 ≤ 40 from by decide) (fun _ => trivial)
theorem D_State_swapped_0 : decode cX9_swapped 0 = .ok (.aload_n 0, 1) := by decide +kernel
theorem D_State_swapped_1 : decode cX9_swapped 1 = .ok (.getfield 13, 3) := by decide +kernel
theorem D_State_swapped_4 : decode cX9_swapped 4 = .ok (.invokevirtual 33, 3) := by decide +kernel
theorem D_State_swapped_7 : decode cX9_swapped 7 = .ok (.checkcast 34, 3) := by decide +kernel
theorem D_State_swapped_10 : decode cX9_swapped 10 = .ok (.astore_n 3, 1) := by decide +kernel
theorem D_State_swapped_11 : decode cX9_swapped 11 = .ok (.aload_n 0, 1) := by decide +kernel
theorem D_State_swapped_12 : decode cX9_swapped 12 = .ok (.iload_n 1, 1) := by decide +kernel
theorem D_State_swapped_13 : decode cX9_swapped 13 = .ok (.invokevirtual 24, 3) := by decide +kernel
theorem D_State_swapped_16 : decode cX9_swapped 16 = .ok (.ifCond .eq (29), 3) := by decide +kernel
theorem D_State_swapped_19 : decode cX9_swapped 19 = .ok (.aload_n 0, 1) := by decide +kernel
theorem D_State_swapped_20 : decode cX9_swapped 20 = .ok (.iload_n 2, 1) := by decide +kernel
theorem D_State_swapped_21 : decode cX9_swapped 21 = .ok (.invokevirtual 24, 3) := by decide +kernel
theorem D_State_swapped_24 : decode cX9_swapped 24 = .ok (.ifCond .eq (21), 3) := by decide +kernel
theorem D_State_swapped_27 : decode cX9_swapped 27 = .ok (.aload_n 3, 1) := by decide +kernel
theorem D_State_swapped_28 : decode cX9_swapped 28 = .ok (.iload_n 1, 1) := by decide +kernel
theorem D_State_swapped_29 : decode cX9_swapped 29 = .ok (.aload_n 0, 1) := by decide +kernel
theorem D_State_swapped_30 : decode cX9_swapped 30 = .ok (.getfield 13, 3) := by decide +kernel
theorem D_State_swapped_33 : decode cX9_swapped 33 = .ok (.iload_n 2, 1) := by decide +kernel
theorem D_State_swapped_34 : decode cX9_swapped 34 = .ok (.aaload, 1) := by decide +kernel
theorem D_State_swapped_35 : decode cX9_swapped 35 = .ok (.aastore, 1) := by decide +kernel
theorem D_State_swapped_36 : decode cX9_swapped 36 = .ok (.aload_n 3, 1) := by decide +kernel
theorem D_State_swapped_37 : decode cX9_swapped 37 = .ok (.iload_n 2, 1) := by decide +kernel
theorem D_State_swapped_38 : decode cX9_swapped 38 = .ok (.aload_n 0, 1) := by decide +kernel
theorem D_State_swapped_39 : decode cX9_swapped 39 = .ok (.getfield 13, 3) := by decide +kernel
theorem D_State_swapped_42 : decode cX9_swapped 42 = .ok (.iload_n 1, 1) := by decide +kernel
theorem D_State_swapped_43 : decode cX9_swapped 43 = .ok (.aaload, 1) := by decide +kernel
theorem D_State_swapped_44 : decode cX9_swapped 44 = .ok (.aastore, 1) := by decide +kernel
theorem D_State_swapped_45 : decode cX9_swapped 45 = .ok (.new 8, 3) := by decide +kernel
theorem D_State_swapped_48 : decode cX9_swapped 48 = .ok (.dup, 1) := by decide +kernel
theorem D_State_swapped_49 : decode cX9_swapped 49 = .ok (.aload_n 0, 1) := by decide +kernel
theorem D_State_swapped_50 : decode cX9_swapped 50 = .ok (.getfield 7, 3) := by decide +kernel
theorem D_State_swapped_53 : decode cX9_swapped 53 = .ok (.aload_n 3, 1) := by decide +kernel
theorem D_State_swapped_54 : decode cX9_swapped 54 = .ok (.aload_n 0, 1) := by decide +kernel
theorem D_State_swapped_55 : decode cX9_swapped 55 = .ok (.getfield 17, 3) := by decide +kernel
theorem D_State_swapped_58 : decode cX9_swapped 58 = .ok (.aload_n 0, 1) := by decide +kernel
theorem D_State_swapped_59 : decode cX9_swapped 59 = .ok (.getfield 21, 3) := by decide +kernel
theorem D_State_swapped_62 : decode cX9_swapped 62 = .ok (.invokespecial 30, 3) := by decide +kernel
theorem D_State_swapped_65 : decode cX9_swapped 65 = .ok (.areturn, 1) := by decide +kernel
def K_State_swapped : SC := (cX9_swapped, "TwoLevels$State", 4, 2, false, [10, 28], NoQ)
def d_State_swapped : MD (Option Nat) := mth tt 4 (sq (sR1 3 (eCl (.object "TwoLevels$Rule") 28 (eh1 (gR 10 1) (lR 0))))
 (sq (sIf (cAnd (eh1 z_ne (kV 10 d_State_hasRule (lR 0) [vI (lI 1)])) (eh1 z_ne (kV 10 d_State_hasRule (lR 0) [vI (lI 2)]))) (sq (sh3 (stO [28] "TwoLevels$Rule" 7) (lR 3) (lI 1) (eh2 (aR (.object "TwoLevels$Rule")) (eh1 (gR 10 1) (lR 0)) (lI 2)))
 (sh3 (stO [28] "TwoLevels$Rule" 7) (lR 3) (lI 2) (eh2 (aR (.object "TwoLevels$Rule")) (eh1 (gR 10 1) (lR 0)) (lI 1)))) sk)
 (rtn (kN 10 4 d_State_init [vR (eh1 (gR 10 0) (lR 0)), vR (lR 3), vI (eh1 (gI 10 2) (lR 0)), vI (eh1 (gI 10 3) (lR 0))]))))
theorem m_State_swapped : MJ 2 [10, 28] yX9_swapped (some (.object "TwoLevels$State")) eR (d_State_swapped) := MJ_of (K := K_State_swapped) (ri := .areturn) (n1 := 0) (n2 := 0) (n3 := 0)
 (SJ_sq (p0 := 0) (p1 := 11) (nN := 0) (nB := 0) (nC := 0) (SJ_astore_n (i := 3) (j := 3) (p0 := 0) (p1 := 10) (EJ_clone (ty := (.object "TwoLevels$Rule")) (t := 28) (ad := "[LTwoLevels$Rule;") (p0 := 0) (p1 := 4) (EJ_getR (t := 10) (c := 9) (kf := 1) (r := (RX9, TX9, 4)) (p0 := 0) (p1 := 1) (EJ_aload_n (j := 0) (i := 0) (pc := 0) D_State_swapped_0 rfl) D_State_swapped_1 ⟨rfl, rfl, by decide, q_176⟩ (fun _ _ => rfl)) D_State_swapped_4 D_State_swapped_7 (by decide +kernel) rfl q_576 q_577 q_361 q_362 q_578 (by decide) q_579 (fun h b i => by show fits (.object _) (va_rf (hR h b i)) = true; cases hR h b i <;> rfl) (by decide) (show 1 ≤ 2 from by decide)) D_State_swapped_10 rfl)
 (SJ_sq (p0 := 11) (p1 := 45) (nN := 0) (nB := 0) (nC := 0) (SJ_if (p0 := 11) (pT := 27) (pF := 45) (nN := 45) (nB := 0) (nC := 0) (CJ_and (p0 := 11) (pM := 19) (pT := 27) (pF := 45) (CZ_ne' (off := 29) (tgt := 45) (p0 := 11) (p1 := 16) (EJ_callV (t := 10) (c := 9) (r := (RX9, TX9, 4)) (p0 := 11) (p1 := 12) (p2 := 13) (EJ_aload_n (j := 0) (i := 0) (pc := 11) D_State_swapped_11 rfl) (AJ_I (p0 := 12) (p1 := 13) (p2 := 13) (EJ_iload_n (j := 1) (i := 1) (pc := 12) D_State_swapped_12 rfl) AJ_nil) m_State_hasRule E1_I D_State_swapped_13 rfl rfl rfl q_564 q_557 q_558 q_94 ⟨by decide +kernel, by decide +kernel, by decide +kernel⟩ (by decide) (show 1 + 1 ≤ 2 from by decide) (fun _ h => absurd h List.not_mem_nil)) D_State_swapped_16 rfl) (CZ_ne' (off := 21) (tgt := 45) (p0 := 19) (p1 := 24) (EJ_callV (t := 10) (c := 9) (r := (RX9, TX9, 4)) (p0 := 19) (p1 := 20) (p2 := 21) (EJ_aload_n (j := 0) (i := 0) (pc := 19) D_State_swapped_19 rfl) (AJ_I (p0 := 20) (p1 := 21) (p2 := 21) (EJ_iload_n (j := 2) (i := 2) (pc := 20) D_State_swapped_20 rfl) AJ_nil) m_State_hasRule E1_I D_State_swapped_21 rfl rfl rfl q_564 q_557 q_558 q_94 ⟨by decide +kernel, by decide +kernel, by decide +kernel⟩ (by decide) (show 1 + 1 ≤ 2 from by decide) (fun _ h => absurd h List.not_mem_nil)) D_State_swapped_24 rfl)) (SJ_sq (p0 := 27) (p1 := 36) (nN := 45) (nB := 0) (nC := 0) (SJ_oast (tv := 7) (cv := 6) (r := (RX6, TX6, 5)) (ws := [28]) (p0 := 27) (p1 := 28) (p2 := 29) (p3 := 35) (EJ_aload_n (j := 3) (i := 3) (pc := 27) D_State_swapped_27 rfl) (EJ_iload_n (j := 1) (i := 1) (pc := 28) D_State_swapped_28 rfl) (EJ_aald (p0 := 29) (p1 := 33) (p2 := 34) (EJ_getR (t := 10) (c := 9) (kf := 1) (r := (RX9, TX9, 4)) (p0 := 29) (p1 := 30) (EJ_aload_n (j := 0) (i := 0) (pc := 29) D_State_swapped_29 rfl) D_State_swapped_30 ⟨rfl, rfl, by decide, q_176⟩ (fun _ _ => rfl)) (EJ_iload_n (j := 2) (i := 2) (pc := 33) D_State_swapped_33 rfl) D_State_swapped_34 (Or.inl ⟨_, rfl⟩)) D_State_swapped_35 rfl rfl rfl (show ∀ x_ ∈ ([28] : List Nat), x_ ∈ ([10, 28] : List Nat) from by decide))
 (SJ_oast (tv := 7) (cv := 6) (r := (RX6, TX6, 5)) (ws := [28]) (p0 := 36) (p1 := 37) (p2 := 38) (p3 := 44) (EJ_aload_n (j := 3) (i := 3) (pc := 36) D_State_swapped_36 rfl) (EJ_iload_n (j := 2) (i := 2) (pc := 37) D_State_swapped_37 rfl) (EJ_aald (p0 := 38) (p1 := 42) (p2 := 43) (EJ_getR (t := 10) (c := 9) (kf := 1) (r := (RX9, TX9, 4)) (p0 := 38) (p1 := 39) (EJ_aload_n (j := 0) (i := 0) (pc := 38) D_State_swapped_38 rfl) D_State_swapped_39 ⟨rfl, rfl, by decide, q_176⟩ (fun _ _ => rfl)) (EJ_iload_n (j := 1) (i := 1) (pc := 42) D_State_swapped_42 rfl) D_State_swapped_43 (Or.inl ⟨_, rfl⟩)) D_State_swapped_44 rfl rfl rfl (show ∀ x_ ∈ ([28] : List Nat), x_ ∈ ([10, 28] : List Nat) from by decide))) SJ_sk)
 (SJ_ret (p0 := 45) (p1 := 65) (EJ_new (t := 10) (c := 9) (r := (RX9, TX9, 4)) (p0 := 45) (p1 := 62) D_State_swapped_45 D_State_swapped_48 (AJ_R (p0 := 49) (p1 := 53) (p2 := 62) (EJ_getR (t := 10) (c := 9) (kf := 0) (r := (RX9, TX9, 4)) (p0 := 49) (p1 := 50) (EJ_aload_n (j := 0) (i := 0) (pc := 49) D_State_swapped_49 rfl) D_State_swapped_50 ⟨rfl, rfl, by decide, q_173⟩ (fun _ _ => rfl)) (AJ_R (p0 := 53) (p1 := 54) (p2 := 62) (EJ_aload_n (j := 3) (i := 3) (pc := 53) D_State_swapped_53 rfl) (AJ_I (p0 := 54) (p1 := 58) (p2 := 62) (EJ_getI (t := 10) (c := 9) (kf := 2) (r := (RX9, TX9, 4)) (p0 := 54) (p1 := 55) (EJ_aload_n (j := 0) (i := 0) (pc := 54) D_State_swapped_54 rfl) D_State_swapped_55 ⟨rfl, rfl, by decide, q_179⟩ (fun _ _ => rfl)) (AJ_I (p0 := 58) (p1 := 62) (p2 := 62) (EJ_getI (t := 10) (c := 9) (kf := 3) (r := (RX9, TX9, 4)) (p0 := 58) (p1 := 59) (EJ_aload_n (j := 0) (i := 0) (pc := 58) D_State_swapped_58 rfl) D_State_swapped_59 ⟨rfl, rfl, by decide, q_181⟩ (fun _ _ => rfl)) AJ_nil)))) m_State_init D_State_swapped_62 rfl rfl q_566 q_166 q_94 rfl rfl (Or.inl q_567) q_170 ⟨by decide +kernel, by decide +kernel, by decide +kernel⟩ (by decide) (show 1 + 1 ≤ 2 from by decide) (show ∀ x_ ∈ ([10] : List Nat), x_ ∈ ([10, 28] : List Nat) from by decide)) D_State_swapped_65)))
 (RTm_ref (Or.inl ⟨_, rfl⟩)) q_575 (by decide +kernel) rfl (fun h => by cases h) (show 4 ≤ 40 from by decide) (fun _ => trivial)
theorem D_TL_swap_0 : decode cX11_swap 0 = .ok (.aload_n 0, 1) := by decide +kernel
theorem D_TL_swap_1 : decode cX11_swap 1 = .ok (.getfield 30, 3) := by decide +kernel
theorem D_TL_swap_4 : decode cX11_swap 4 = .ok (.iload_n 1, 1) := by decide +kernel
theorem D_TL_swap_5 : decode cX11_swap 5 = .ok (.invokevirtual 150, 3) := by decide +kernel
theorem D_TL_swap_8 : decode cX11_swap 8 = .ok (.ifCond .eq (14), 3) := by decide +kernel
theorem D_TL_swap_11 : decode cX11_swap 11 = .ok (.aload_n 0, 1) := by decide +kernel
theorem D_TL_swap_12 : decode cX11_swap 12 = .ok (.getfield 30, 3) := by decide +kernel
theorem D_TL_swap_15 : decode cX11_swap 15 = .ok (.iload_n 2, 1) := by decide +kernel
theorem D_TL_swap_16 : decode cX11_swap 16 = .ok (.invokevirtual 150, 3) := by decide +kernel
theorem D_TL_swap_19 : decode cX11_swap 19 = .ok (.ifCond .ne (5), 3) := by decide +kernel
theorem D_TL_swap_22 : decode cX11_swap 22 = .ok (.iconst (-1), 1) := by decide +kernel
theorem D_TL_swap_23 : decode cX11_swap 23 = .ok (.ireturn, 1) := by decide +kernel
theorem D_TL_swap_24 : decode cX11_swap 24 = .ok (.iload_n 1, 1) := by decide +kernel
theorem D_TL_swap_25 : decode cX11_swap 25 = .ok (.iload_n 2, 1) := by decide +kernel
theorem D_TL_swap_26 : decode cX11_swap 26 = .ok (.if_icmp .ne (8), 3) := by decide +kernel
theorem D_TL_swap_29 : decode cX11_swap 29 = .ok (.bipush (-2), 2) := by decide +kernel
theorem D_TL_swap_31 : decode cX11_swap 31 = .ok (.goto (17), 3) := by decide +kernel
theorem D_TL_swap_34 : decode cX11_swap 34 = .ok (.aload_n 0, 1) := by decide +kernel
theorem D_TL_swap_35 : decode cX11_swap 35 = .ok (.aload_n 0, 1) := by decide +kernel
theorem D_TL_swap_36 : decode cX11_swap 36 = .ok (.getfield 30, 3) := by decide +kernel
theorem D_TL_swap_39 : decode cX11_swap 39 = .ok (.iload_n 1, 1) := by decide +kernel
theorem D_TL_swap_40 : decode cX11_swap 40 = .ok (.iload_n 2, 1) := by decide +kernel
theorem D_TL_swap_41 : decode cX11_swap 41 = .ok (.invokevirtual 157, 3) := by decide +kernel
theorem D_TL_swap_44 : decode cX11_swap 44 = .ok (.iconst (1), 1) := by decide +kernel
theorem D_TL_swap_45 : decode cX11_swap 45 = .ok (.invokevirtual 146, 3) := by decide +kernel
theorem D_TL_swap_48 : decode cX11_swap 48 = .ok (.ireturn, 1) := by decide +kernel
def K_TL_swap : SC := (cX11_swap, "TwoLevels", 3, 3, false, [10, 12, 23, 28], NoQ)
def d_TL_swap : MD Int32 := mth tt 3 (sq (sIf (cOr (cNot (eh1 z_ne (kV 10 d_State_hasRule (eh1 (gR 12 3) (lR 0)) [vI (lI 1)]))) (cNot (eh1 z_ne (kV 10 d_State_hasRule (eh1 (gR 12 3) (lR 0)) [vI (lI 2)])))) (rtn (eC (-1))) sk)
 (rtn (eIf (eh2 c_eq (lI 1) (lI 2)) (eC (-2)) (kV 12 d_TL_act (lR 0) [vR (kV 10 d_State_swapped (eh1 (gR 12 3) (lR 0)) [vI (lI 1), vI (lI 2)]), vI (eC (nI 1))]))))
theorem m_TL_swap : MJ 3 [10, 12, 23, 28] yX11_swap (some .int) eI (d_TL_swap) := MJ_of (K := K_TL_swap) (ri := .ireturn) (n1 := 0) (n2 := 0) (n3 := 0)
 (SJ_sq (p0 := 0) (p1 := 24) (nN := 0) (nB := 0) (nC := 0) (SJ_if (p0 := 0) (pT := 22) (pF := 24) (nN := 24) (nB := 0) (nC := 0) (CJ_or (p0 := 0) (pM := 11) (pT := 22) (pF := 24) (CJ_not (p0 := 0) (pT := 22) (pF := 11) (CZ_ne' (off := 14) (tgt := 22) (p0 := 0) (p1 := 8) (EJ_callV (t := 10) (c := 9) (r := (RX9, TX9, 4)) (p0 := 0) (p1 := 4) (p2 := 5) (EJ_getR (t := 12) (c := 11) (kf := 3) (r := (RX11, TX11, 16)) (p0 := 0) (p1 := 1) (EJ_aload_n (j := 0) (i := 0) (pc := 0) D_TL_swap_0 rfl) D_TL_swap_1 ⟨rfl, rfl, by decide, q_258⟩ (fun _ _ => rfl)) (AJ_I (p0 := 4) (p1 := 5) (p2 := 5) (EJ_iload_n (j := 1) (i := 1) (pc := 4) D_TL_swap_4 rfl) AJ_nil) m_State_hasRule E1_I D_TL_swap_5 rfl rfl rfl q_556 q_557 q_558 q_94 ⟨by decide +kernel, by decide +kernel, by decide +kernel⟩ (by decide) (show 1 + 1 ≤ 3 from by decide) (fun _ h => absurd h List.not_mem_nil)) D_TL_swap_8 rfl)) (CJ_not (p0 := 11) (pT := 22) (pF := 24) (CZ_ne (off := 5) (tgt := 24) (p0 := 11) (p1 := 19) (EJ_callV (t := 10) (c := 9) (r := (RX9, TX9, 4)) (p0 := 11) (p1 := 15) (p2 := 16) (EJ_getR (t := 12) (c := 11) (kf := 3) (r := (RX11, TX11, 16)) (p0 := 11) (p1 := 12) (EJ_aload_n (j := 0) (i := 0) (pc := 11) D_TL_swap_11 rfl) D_TL_swap_12 ⟨rfl, rfl, by decide, q_258⟩ (fun _ _ => rfl)) (AJ_I (p0 := 15) (p1 := 16) (p2 := 16) (EJ_iload_n (j := 2) (i := 2) (pc := 15) D_TL_swap_15 rfl) AJ_nil) m_State_hasRule E1_I D_TL_swap_16 rfl rfl rfl q_556 q_557 q_558 q_94 ⟨by decide +kernel, by decide +kernel, by decide +kernel⟩ (by decide) (show 1 + 1 ≤ 3 from by decide) (fun _ h => absurd h List.not_mem_nil)) D_TL_swap_19 rfl))) (SJ_ret (p0 := 22) (p1 := 23) (EJ_iconst (n := -1) (v := (-1)) (pc := 22) D_TL_swap_22 (by decide +kernel)) D_TL_swap_23) SJ_sk)
 (SJ_ret (p0 := 24) (p1 := 48) (EJ_if (p0 := 24) (pT := 29) (pF := 34) (pE := 31) (p1 := 48) (CJ_eq' (off := 8) (tgt := 34) (p0 := 24) (p1 := 25) (p2 := 26) (EJ_iload_n (j := 1) (i := 1) (pc := 24) D_TL_swap_24 rfl) (EJ_iload_n (j := 2) (i := 2) (pc := 25) D_TL_swap_25 rfl) D_TL_swap_26 rfl) (EJ_bipush (n := -2) (v := (-2)) (pc := 29) D_TL_swap_29 (by decide +kernel)) (Lead.goto (K := K_TL_swap) (pc := 31) (tgt := 48) D_TL_swap_31 rfl) (EJ_callV (t := 12) (c := 11) (r := (RX11, TX11, 16)) (p0 := 34) (p1 := 35) (p2 := 45) (EJ_aload_n (j := 0) (i := 0) (pc := 34) D_TL_swap_34 rfl) (AJ_R (p0 := 35) (p1 := 44) (p2 := 45) (EJ_callV (t := 10) (c := 9) (r := (RX9, TX9, 4)) (p0 := 35) (p1 := 39) (p2 := 41) (EJ_getR (t := 12) (c := 11) (kf := 3) (r := (RX11, TX11, 16)) (p0 := 35) (p1 := 36) (EJ_aload_n (j := 0) (i := 0) (pc := 35) D_TL_swap_35 rfl) D_TL_swap_36 ⟨rfl, rfl, by decide, q_258⟩ (fun _ _ => rfl)) (AJ_I (p0 := 39) (p1 := 40) (p2 := 41) (EJ_iload_n (j := 1) (i := 1) (pc := 39) D_TL_swap_39 rfl) (AJ_I (p0 := 40) (p1 := 41) (p2 := 41) (EJ_iload_n (j := 2) (i := 2) (pc := 40) D_TL_swap_40 rfl) AJ_nil)) m_State_swapped E1_R D_TL_swap_41 rfl rfl rfl q_572 q_573 q_574 q_94 ⟨by decide +kernel, by decide +kernel, by decide +kernel⟩ (by decide) (show 2 + 1 ≤ 3 from by decide) (show ∀ x_ ∈ ([10, 28] : List Nat), x_ ∈ ([10, 12, 23, 28] : List Nat) from by decide)) (AJ_I (p0 := 44) (p1 := 45) (p2 := 45) (EJ_iconst (n := 1) (v := (nI 1)) (pc := 44) D_TL_swap_44 (by decide +kernel)) AJ_nil)) m_TL_act E1_I D_TL_swap_45 rfl rfl rfl q_549 q_550 q_15 q_91 ⟨by decide +kernel, by decide +kernel, by decide +kernel⟩ (by decide) (show 2 + 1 ≤ 3 from by decide) (show ∀ x_ ∈ ([12, 23] : List Nat), x_ ∈ ([10, 12, 23, 28] : List Nat) from by decide))) D_TL_swap_48))
 RTm_int q_571 (by decide +kernel) rfl (fun h => by cases h) (show 3 ≤ 40 from by decide) (fun _ => trivial)
theorem D_Reader_failAt_0 : decode cX4_failAt 0 = .ok (.aload_n 0, 1) := by decide +kernel
theorem D_Reader_failAt_1 : decode cX4_failAt 1 = .ok (.getfield 44, 3) := by decide +kernel
theorem D_Reader_failAt_4 : decode cX4_failAt 4 = .ok (.ifCond .ne (13), 3) := by decide +kernel
theorem D_Reader_failAt_7 : decode cX4_failAt 7 = .ok (.aload_n 0, 1) := by decide +kernel
theorem D_Reader_failAt_8 : decode cX4_failAt 8 = .ok (.bipush (8), 2) := by decide +kernel
theorem D_Reader_failAt_10 : decode cX4_failAt 10 = .ok (.iload_n 1, 1) := by decide +kernel
theorem D_Reader_failAt_11 : decode cX4_failAt 11 = .ok (.imul, 1) := by decide +kernel
theorem D_Reader_failAt_12 : decode cX4_failAt 12 = .ok (.iload_n 2, 1) := by decide +kernel
theorem D_Reader_failAt_13 : decode cX4_failAt 13 = .ok (.iadd, 1) := by decide +kernel
theorem D_Reader_failAt_14 : decode cX4_failAt 14 = .ok (.putfield 44, 3) := by decide +kernel
theorem D_Reader_failAt_17 : decode cX4_failAt 17 = .ok (.return_, 1) := by decide +kernel
def K_Reader_failAt : SC := (cX4_failAt, "TwoLevels$Reader", 3, 1, false, [5], NoQ)
def d_Reader_failAt : MD Unit := mth tt 3 (sq (sIf (eh1 z_eq (eh1 (gI 5 3) (lR 0))) (sh2 (pI false 5 3) (lR 0) (eh2 iaddF (eh2 imulF (eC (nI 8)) (lI 1)) (lI 2))) sk)
 rtnU)
theorem m_Reader_failAt : MJ 1 [5] yX4_failAt none eU (d_Reader_failAt) := MJ_of (K := K_Reader_failAt) (ri := .return_) (n1 := 0) (n2 := 0) (n3 := 0)
 (SJ_sq (p0 := 0) (p1 := 17) (nN := 0) (nB := 0) (nC := 0) (SJ_if (p0 := 0) (pT := 7) (pF := 17) (nN := 17) (nB := 0) (nC := 0) (CZ_eq' (off := 13) (tgt := 17) (p0 := 0) (p1 := 4) (EJ_getI (t := 5) (c := 4) (kf := 3) (r := (RX4, TX4, 9)) (p0 := 0) (p1 := 1) (EJ_aload_n (j := 0) (i := 0) (pc := 0) D_Reader_failAt_0 rfl) D_Reader_failAt_1 ⟨rfl, rfl, by decide, q_149⟩ (fun _ _ => rfl)) D_Reader_failAt_4 rfl) (SJ_putI (z := false) (t := 5) (c := 4) (kf := 3) (r := (RX4, TX4, 9)) (p0 := 7) (p1 := 8) (p2 := 14) (EJ_aload_n (j := 0) (i := 0) (pc := 7) D_Reader_failAt_7 rfl) (EJ_iadd (p0 := 8) (p1 := 12) (p2 := 13) (EJ_imul (p0 := 8) (p1 := 10) (p2 := 11) (EJ_bipush (n := 8) (v := (nI 8)) (pc := 8) D_Reader_failAt_8 (by decide +kernel)) (EJ_iload_n (j := 1) (i := 1) (pc := 10) D_Reader_failAt_10 rfl) D_Reader_failAt_11) (EJ_iload_n (j := 2) (i := 2) (pc := 12) D_Reader_failAt_12 rfl) D_Reader_failAt_13) D_Reader_failAt_14 ⟨rfl, rfl, by decide, q_149⟩ (Or.inl rfl) (fun _ _ => ⟨rfl, rfl⟩) (fun _ _ => rfl) (show (5 : Nat) ∈ ([5] : List Nat) from by decide)) SJ_sk)
 (SJ_retU (pc := 17) D_Reader_failAt_17))
 RTm_void q_324 (by decide +kernel) rfl (fun h => by cases h) (show 3 ≤ 40 from by decide) (fun _ => trivial)
theorem D_Rows_isCapital_0 : decode cX5_isCapital 0 = .ok (.iload_n 0, 1) := by decide +kernel
theorem D_Rows_isCapital_1 : decode cX5_isCapital 1 = .ok (.bipush (65), 2) := by decide +kernel
theorem D_Rows_isCapital_3 : decode cX5_isCapital 3 = .ok (.if_icmp .lt (13), 3) := by decide +kernel
theorem D_Rows_isCapital_6 : decode cX5_isCapital 6 = .ok (.iload_n 0, 1) := by decide +kernel
theorem D_Rows_isCapital_7 : decode cX5_isCapital 7 = .ok (.bipush (90), 2) := by decide +kernel
theorem D_Rows_isCapital_9 : decode cX5_isCapital 9 = .ok (.if_icmp .gt (7), 3) := by decide +kernel
theorem D_Rows_isCapital_12 : decode cX5_isCapital 12 = .ok (.iconst (1), 1) := by decide +kernel
theorem D_Rows_isCapital_13 : decode cX5_isCapital 13 = .ok (.goto (4), 3) := by decide +kernel
theorem D_Rows_isCapital_16 : decode cX5_isCapital 16 = .ok (.iconst (0), 1) := by decide +kernel
theorem D_Rows_isCapital_17 : decode cX5_isCapital 17 = .ok (.ireturn, 1) := by decide +kernel
def K_Rows_isCapital : SC := (cX5_isCapital, "TwoLevels$Rows", 1, 1, false, [], NoQ)
def d_Rows_isCapital : MD Int32 := mth zz 1 (rtn (eIf (cAnd (eh2 c_ge (lI 0) (eC (nI 65))) (eh2 c_le (lI 0) (eC (nI 90)))) (eC (nI 1)) (eC (nI 0))))
theorem m_Rows_isCapital : MJ 1 [] yX5_isCapital (some .boolean) eI (d_Rows_isCapital) := MJ_of (K := K_Rows_isCapital) (ri := .ireturn) (n1 := 0) (n2 := 0) (n3 := 0)
 (SJ_ret (p0 := 0) (p1 := 17) (EJ_if (p0 := 0) (pT := 12) (pF := 16) (pE := 13) (p1 := 17) (CJ_and (p0 := 0) (pM := 6) (pT := 12) (pF := 16) (CJ_ge' (off := 13) (tgt := 16) (p0 := 0) (p1 := 1) (p2 := 3) (EJ_iload_n (j := 0) (i := 0) (pc := 0) D_Rows_isCapital_0 rfl) (EJ_bipush (n := 65) (v := (nI 65)) (pc := 1) D_Rows_isCapital_1 (by decide +kernel)) D_Rows_isCapital_3 rfl) (CJ_le' (off := 7) (tgt := 16) (p0 := 6) (p1 := 7) (p2 := 9) (EJ_iload_n (j := 0) (i := 0) (pc := 6) D_Rows_isCapital_6 rfl) (EJ_bipush (n := 90) (v := (nI 90)) (pc := 7) D_Rows_isCapital_7 (by decide +kernel)) D_Rows_isCapital_9 rfl)) (EJ_iconst (n := 1) (v := (nI 1)) (pc := 12) D_Rows_isCapital_12 (by decide +kernel)) (Lead.goto (K := K_Rows_isCapital) (pc := 13) (tgt := 17) D_Rows_isCapital_13 rfl) (EJ_iconst (n := 0) (v := (nI 0)) (pc := 16) D_Rows_isCapital_16 (by decide +kernel))) D_Rows_isCapital_17)
 RTm_bool q_472 (by decide +kernel) rfl (fun h => by cases h) (show 1 ≤ 40 from by decide) (fun _ => trivial)
theorem D_Upper_bitOf_0 : decode cX10_bitOf 0 = .ok (.iload_n 0, 1) := by decide +kernel
theorem D_Upper_bitOf_1 : decode cX10_bitOf 1 = .ok (.bipush (32), 2) := by decide +kernel
theorem D_Upper_bitOf_3 : decode cX10_bitOf 3 = .ok (.if_icmp .ge (7), 3) := by decide +kernel
theorem D_Upper_bitOf_6 : decode cX10_bitOf 6 = .ok (.iconst (0), 1) := by decide +kernel
theorem D_Upper_bitOf_7 : decode cX10_bitOf 7 = .ok (.goto (9), 3) := by decide +kernel
theorem D_Upper_bitOf_10 : decode cX10_bitOf 10 = .ok (.iconst (1), 1) := by decide +kernel
theorem D_Upper_bitOf_11 : decode cX10_bitOf 11 = .ok (.iload_n 0, 1) := by decide +kernel
theorem D_Upper_bitOf_12 : decode cX10_bitOf 12 = .ok (.bipush (32), 2) := by decide +kernel
theorem D_Upper_bitOf_14 : decode cX10_bitOf 14 = .ok (.isub, 1) := by decide +kernel
theorem D_Upper_bitOf_15 : decode cX10_bitOf 15 = .ok (.ishl, 1) := by decide +kernel
theorem D_Upper_bitOf_16 : decode cX10_bitOf 16 = .ok (.ireturn, 1) := by decide +kernel
def K_Upper_bitOf : SC := (cX10_bitOf, "TwoLevels$Upper", 1, 1, false, [], NoQ)
def d_Upper_bitOf : MD Int32 := mth tt 1 (rtn (eIf (eh2 c_lt (lI 0) (eC (nI 32))) (eC (nI 0)) (eh2 ishlF (eC (nI 1)) (eh2 isubF (lI 0) (eC (nI 32))))))
theorem m_Upper_bitOf : MJ 1 [] yX10_bitOf (some .int) eI (d_Upper_bitOf) := MJ_of (K := K_Upper_bitOf) (ri := .ireturn) (n1 := 0) (n2 := 0) (n3 := 0)
 (SJ_ret (p0 := 0) (p1 := 16) (EJ_if (p0 := 0) (pT := 6) (pF := 10) (pE := 7) (p1 := 16) (CJ_lt' (off := 7) (tgt := 10) (p0 := 0) (p1 := 1) (p2 := 3) (EJ_iload_n (j := 0) (i := 0) (pc := 0) D_Upper_bitOf_0 rfl) (EJ_bipush (n := 32) (v := (nI 32)) (pc := 1) D_Upper_bitOf_1 (by decide +kernel)) D_Upper_bitOf_3 rfl) (EJ_iconst (n := 0) (v := (nI 0)) (pc := 6) D_Upper_bitOf_6 (by decide +kernel)) (Lead.goto (K := K_Upper_bitOf) (pc := 7) (tgt := 16) D_Upper_bitOf_7 rfl) (EJ_ishl (p0 := 10) (p1 := 11) (p2 := 15) (EJ_iconst (n := 1) (v := (nI 1)) (pc := 10) D_Upper_bitOf_10 (by decide +kernel)) (EJ_isub (p0 := 11) (p1 := 12) (p2 := 14) (EJ_iload_n (j := 0) (i := 0) (pc := 11) D_Upper_bitOf_11 rfl) (EJ_bipush (n := 32) (v := (nI 32)) (pc := 12) D_Upper_bitOf_12 (by decide +kernel)) D_Upper_bitOf_14) D_Upper_bitOf_15)) D_Upper_bitOf_16)
 RTm_int q_341 (by decide +kernel) rfl (fun h => by cases h) (show 1 ≤ 40 from by decide) (fun _ => trivial)
