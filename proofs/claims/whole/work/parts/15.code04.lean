/-! the program: part 4 -/
theorem D_Search_isAssigned_0 : decode cX7_isAssigned 0 = .ok (.aload_n 0, 1) := by decide +kernel
theorem D_Search_isAssigned_1 : decode cX7_isAssigned 1 = .ok (.getfield 21, 3) := by decide +kernel
theorem D_Search_isAssigned_4 : decode cX7_isAssigned 4 = .ok (.aload_n 1, 1) := by decide +kernel
theorem D_Search_isAssigned_5 : decode cX7_isAssigned 5 = .ok (.getfield 104, 3) := by decide +kernel
theorem D_Search_isAssigned_8 : decode cX7_isAssigned 8 = .ok (.invokevirtual 224, 3) := by decide +kernel
theorem D_Search_isAssigned_11 : decode cX7_isAssigned 11 = .ok (.ifCond .ne (5), 3) := by decide +kernel
theorem D_Search_isAssigned_14 : decode cX7_isAssigned 14 = .ok (.iconst (0), 1) := by decide +kernel
theorem D_Search_isAssigned_15 : decode cX7_isAssigned 15 = .ok (.ireturn, 1) := by decide +kernel
theorem D_Search_isAssigned_16 : decode cX7_isAssigned 16 = .ok (.aload_n 0, 1) := by decide +kernel
theorem D_Search_isAssigned_17 : decode cX7_isAssigned 17 = .ok (.getfield 21, 3) := by decide +kernel
theorem D_Search_isAssigned_20 : decode cX7_isAssigned 20 = .ok (.getfield 100, 3) := by decide +kernel
theorem D_Search_isAssigned_23 : decode cX7_isAssigned 23 = .ok (.aload_n 1, 1) := by decide +kernel
theorem D_Search_isAssigned_24 : decode cX7_isAssigned 24 = .ok (.getfield 104, 3) := by decide +kernel
theorem D_Search_isAssigned_27 : decode cX7_isAssigned 27 = .ok (.aaload, 1) := by decide +kernel
theorem D_Search_isAssigned_28 : decode cX7_isAssigned 28 = .ok (.astore_n 2, 1) := by decide +kernel
theorem D_Search_isAssigned_29 : decode cX7_isAssigned 29 = .ok (.aload_n 1, 1) := by decide +kernel
theorem D_Search_isAssigned_30 : decode cX7_isAssigned 30 = .ok (.getfield 129, 3) := by decide +kernel
theorem D_Search_isAssigned_33 : decode cX7_isAssigned 33 = .ok (.ifCond .lt (14), 3) := by decide +kernel
theorem D_Search_isAssigned_36 : decode cX7_isAssigned 36 = .ok (.aload_n 1, 1) := by decide +kernel
theorem D_Search_isAssigned_37 : decode cX7_isAssigned 37 = .ok (.getfield 129, 3) := by decide +kernel
theorem D_Search_isAssigned_40 : decode cX7_isAssigned 40 = .ok (.aload_n 2, 1) := by decide +kernel
theorem D_Search_isAssigned_41 : decode cX7_isAssigned 41 = .ok (.getfield 126, 3) := by decide +kernel
theorem D_Search_isAssigned_44 : decode cX7_isAssigned 44 = .ok (.if_icmp .lt (5), 3) := by decide +kernel
theorem D_Search_isAssigned_47 : decode cX7_isAssigned 47 = .ok (.iconst (0), 1) := by decide +kernel
theorem D_Search_isAssigned_48 : decode cX7_isAssigned 48 = .ok (.ireturn, 1) := by decide +kernel
theorem D_Search_isAssigned_49 : decode cX7_isAssigned 49 = .ok (.aload_n 2, 1) := by decide +kernel
theorem D_Search_isAssigned_50 : decode cX7_isAssigned 50 = .ok (.getfield 132, 3) := by decide +kernel
theorem D_Search_isAssigned_53 : decode cX7_isAssigned 53 = .ok (.aload_n 1, 1) := by decide +kernel
theorem D_Search_isAssigned_54 : decode cX7_isAssigned 54 = .ok (.getfield 129, 3) := by decide +kernel
theorem D_Search_isAssigned_57 : decode cX7_isAssigned 57 = .ok (.aaload, 1) := by decide +kernel
theorem D_Search_isAssigned_58 : decode cX7_isAssigned 58 = .ok (.astore_n 3, 1) := by decide +kernel
theorem D_Search_isAssigned_59 : decode cX7_isAssigned 59 = .ok (.aload_n 0, 1) := by decide +kernel
theorem D_Search_isAssigned_60 : decode cX7_isAssigned 60 = .ok (.getfield 25, 3) := by decide +kernel
theorem D_Search_isAssigned_63 : decode cX7_isAssigned 63 = .ok (.iconst (0), 1) := by decide +kernel
theorem D_Search_isAssigned_64 : decode cX7_isAssigned 64 = .ok (.aaload, 1) := by decide +kernel
theorem D_Search_isAssigned_65 : decode cX7_isAssigned 65 = .ok (.astore 4, 2) := by decide +kernel
theorem D_Search_isAssigned_67 : decode cX7_isAssigned 67 = .ok (.aload 4, 2) := by decide +kernel
theorem D_Search_isAssigned_69 : decode cX7_isAssigned 69 = .ok (.aload_n 0, 1) := by decide +kernel
theorem D_Search_isAssigned_70 : decode cX7_isAssigned 70 = .ok (.getfield 21, 3) := by decide +kernel
theorem D_Search_isAssigned_73 : decode cX7_isAssigned 73 = .ok (.getfield 88, 3) := by decide +kernel
theorem D_Search_isAssigned_76 : decode cX7_isAssigned 76 = .ok (.aload_n 1, 1) := by decide +kernel
theorem D_Search_isAssigned_77 : decode cX7_isAssigned 77 = .ok (.getfield 68, 3) := by decide +kernel
theorem D_Search_isAssigned_80 : decode cX7_isAssigned 80 = .ok (.invokevirtual 94, 3) := by decide +kernel
theorem D_Search_isAssigned_83 : decode cX7_isAssigned 83 = .ok (.aload_n 3, 1) := by decide +kernel
theorem D_Search_isAssigned_84 : decode cX7_isAssigned 84 = .ok (.aload_n 1, 1) := by decide +kernel
theorem D_Search_isAssigned_85 : decode cX7_isAssigned 85 = .ok (.getfield 136, 3) := by decide +kernel
theorem D_Search_isAssigned_88 : decode cX7_isAssigned 88 = .ok (.if_acmp .ne (20), 3) := by decide +kernel
theorem D_Search_isAssigned_91 : decode cX7_isAssigned 91 = .ok (.aload 4, 2) := by decide +kernel
theorem D_Search_isAssigned_93 : decode cX7_isAssigned 93 = .ok (.aload_n 2, 1) := by decide +kernel
theorem D_Search_isAssigned_94 : decode cX7_isAssigned 94 = .ok (.aload_n 1, 1) := by decide +kernel
theorem D_Search_isAssigned_95 : decode cX7_isAssigned 95 = .ok (.getfield 116, 3) := by decide +kernel
theorem D_Search_isAssigned_98 : decode cX7_isAssigned 98 = .ok (.invokevirtual 227, 3) := by decide +kernel
theorem D_Search_isAssigned_101 : decode cX7_isAssigned 101 = .ok (.ifCond .eq (7), 3) := by decide +kernel
theorem D_Search_isAssigned_104 : decode cX7_isAssigned 104 = .ok (.iconst (1), 1) := by decide +kernel
theorem D_Search_isAssigned_105 : decode cX7_isAssigned 105 = .ok (.goto (4), 3) := by decide +kernel
theorem D_Search_isAssigned_108 : decode cX7_isAssigned 108 = .ok (.iconst (0), 1) := by decide +kernel
theorem D_Search_isAssigned_109 : decode cX7_isAssigned 109 = .ok (.istore 5, 2) := by decide +kernel
theorem D_Search_isAssigned_111 : decode cX7_isAssigned 111 = .ok (.iconst (0), 1) := by decide +kernel
theorem D_Search_isAssigned_112 : decode cX7_isAssigned 112 = .ok (.istore 6, 2) := by decide +kernel
theorem D_Search_isAssigned_114 : decode cX7_isAssigned 114 = .ok (.iload 6, 2) := by decide +kernel
theorem D_Search_isAssigned_116 : decode cX7_isAssigned 116 = .ok (.aload_n 3, 1) := by decide +kernel
theorem D_Search_isAssigned_117 : decode cX7_isAssigned 117 = .ok (.getfield 150, 3) := by decide +kernel
theorem D_Search_isAssigned_120 : decode cX7_isAssigned 120 = .ok (.if_icmp .ge (51), 3) := by decide +kernel
theorem D_Search_isAssigned_123 : decode cX7_isAssigned 123 = .ok (.aload 4, 2) := by decide +kernel
theorem D_Search_isAssigned_125 : decode cX7_isAssigned 125 = .ok (.aload_n 3, 1) := by decide +kernel
theorem D_Search_isAssigned_126 : decode cX7_isAssigned 126 = .ok (.getfield 160, 3) := by decide +kernel
theorem D_Search_isAssigned_129 : decode cX7_isAssigned 129 = .ok (.iload 6, 2) := by decide +kernel
theorem D_Search_isAssigned_131 : decode cX7_isAssigned 131 = .ok (.iaload, 1) := by decide +kernel
theorem D_Search_isAssigned_132 : decode cX7_isAssigned 132 = .ok (.aload_n 1, 1) := by decide +kernel
theorem D_Search_isAssigned_133 : decode cX7_isAssigned 133 = .ok (.getfield 172, 3) := by decide +kernel
theorem D_Search_isAssigned_136 : decode cX7_isAssigned 136 = .ok (.iload 6, 2) := by decide +kernel
theorem D_Search_isAssigned_138 : decode cX7_isAssigned 138 = .ok (.laload, 1) := by decide +kernel
theorem D_Search_isAssigned_139 : decode cX7_isAssigned 139 = .ok (.invokevirtual 178, 3) := by decide +kernel
theorem D_Search_isAssigned_142 : decode cX7_isAssigned 142 = .ok (.iload 5, 2) := by decide +kernel
theorem D_Search_isAssigned_144 : decode cX7_isAssigned 144 = .ok (.aload_n 0, 1) := by decide +kernel
theorem D_Search_isAssigned_145 : decode cX7_isAssigned 145 = .ok (.aload_n 3, 1) := by decide +kernel
theorem D_Search_isAssigned_146 : decode cX7_isAssigned 146 = .ok (.getfield 160, 3) := by decide +kernel
theorem D_Search_isAssigned_149 : decode cX7_isAssigned 149 = .ok (.iload 6, 2) := by decide +kernel
theorem D_Search_isAssigned_151 : decode cX7_isAssigned 151 = .ok (.iaload, 1) := by decide +kernel
theorem D_Search_isAssigned_152 : decode cX7_isAssigned 152 = .ok (.aload_n 1, 1) := by decide +kernel
theorem D_Search_isAssigned_153 : decode cX7_isAssigned 153 = .ok (.getfield 172, 3) := by decide +kernel
theorem D_Search_isAssigned_156 : decode cX7_isAssigned 156 = .ok (.iload 6, 2) := by decide +kernel
theorem D_Search_isAssigned_158 : decode cX7_isAssigned 158 = .ok (.laload, 1) := by decide +kernel
theorem D_Search_isAssigned_159 : decode cX7_isAssigned 159 = .ok (.invokevirtual 231, 3) := by decide +kernel
theorem D_Search_isAssigned_162 : decode cX7_isAssigned 162 = .ok (.iand, 1) := by decide +kernel
theorem D_Search_isAssigned_163 : decode cX7_isAssigned 163 = .ok (.istore 5, 2) := by decide +kernel
theorem D_Search_isAssigned_165 : decode cX7_isAssigned 165 = .ok (.iinc 6 (1), 3) := by decide +kernel
theorem D_Search_isAssigned_168 : decode cX7_isAssigned 168 = .ok (.goto (-54), 3) := by decide +kernel
theorem D_Search_isAssigned_171 : decode cX7_isAssigned 171 = .ok (.iload 5, 2) := by decide +kernel
theorem D_Search_isAssigned_173 : decode cX7_isAssigned 173 = .ok (.ireturn, 1) := by decide +kernel
def K_Search_isAssigned : SC := (cX7_isAssigned, "TwoLevels$Search", 7, 6, false, [3, 43, 44, 45, 46, 47, 48], NoQ)
def d_Search_isAssigned : MD Int32 := mth zz 7 (sq (sIf (cNot (eh1 z_ne (kV 10 d_State_hasRule (eh1 (gR 8 0) (lR 0)) [vI (eh1 (gI 4 6) (lR 1))]))) (rtn (eC (nI 0))) sk)
 (sq (sR1 2 (eh2 (aR (.object "TwoLevels$Rule")) (eh1 (gR 10 1) (eh1 (gR 8 0) (lR 0))) (eh1 (gI 4 6) (lR 1))))
 (sq (sIf (cOr (eh1 z_lt (eh1 (gI 4 8) (lR 1))) (eh2 c_ge (eh1 (gI 4 8) (lR 1)) (eh1 (gI 7 4) (lR 2)))) (rtn (eC (nI 0))) sk)
 (sq (sR1 3 (eh2 (aR (.object "TwoLevels$Choice")) (eh1 (gR 7 3) (lR 2)) (eh1 (gI 4 8) (lR 1))))
 (sq (sR1 4 (eh2 (aR (.object "TwoLevels$Fit")) (eh1 (gR 8 3) (lR 0)) (eC (nI 0))))
 (sq (sE (kV 3 d_Fit_load (lR 4) [vR (eh1 (gR 10 0) (eh1 (gR 8 0) (lR 0))), vJ (eh1 (gJ 4 1) (lR 1))]))
 (sq (sI1 5 (eIf (cAnd (eh2 a_eq (lR 3) (eh1 (gR 4 9) (lR 1))) (eh1 z_ne (kV 3 d_Fit_reach (lR 4) [vR (lR 2), vI (eh1 (gI 4 7) (lR 1))]))) (eC (nI 1)) (eC (nI 0))))
 (sq (sq (sI1 6 (eC (nI 0)))
 (loop (eh2 c_lt (lI 6) (eh1 (gI 1 6) (lR 3)))
 (sq (sE (kV 3 d_Fit_put (lR 4) [vI (eh2 (aI .int) (eh1 (gR 1 5) (lR 3)) (lI 6)), vJ (eh2 aJ (eh1 (gR 4 10) (lR 1)) (lI 6))]))
 (sI1 5 (eh2 iandF (lI 5) (kV 8 d_Search_isHad (lR 0) [vI (eh2 (aI .int) (eh1 (gR 1 5) (lR 3)) (lI 6)), vJ (eh2 aJ (eh1 (gR 4 10) (lR 1)) (lI 6))]))))
 (sInc 6 (nI 1))))
 (rtn (lI 5))))))))))
theorem m_Search_isAssigned : MJ 6 [3, 43, 44, 45, 46, 47, 48] yX7_isAssigned (some .boolean) eI (d_Search_isAssigned) := MJ_of (K := K_Search_isAssigned) (ri := .ireturn) (n1 := 0) (n2 := 0) (n3 := 0)
 (SJ_sq (p0 := 0) (p1 := 16) (nN := 0) (nB := 0) (nC := 0) (SJ_if (p0 := 0) (pT := 14) (pF := 16) (nN := 16) (nB := 0) (nC := 0) (CJ_not (p0 := 0) (pT := 14) (pF := 16) (CZ_ne (off := 5) (tgt := 16) (p0 := 0) (p1 := 11) (EJ_callV (t := 10) (c := 9) (r := (RX9, TX9, 4)) (p0 := 0) (p1 := 4) (p2 := 8) (EJ_getR (t := 8) (c := 7) (kf := 0) (r := (RX7, TX7, 11)) (p0 := 0) (p1 := 1) (EJ_aload_n (j := 0) (i := 0) (pc := 0) D_Search_isAssigned_0 rfl) D_Search_isAssigned_1 ⟨rfl, rfl, by decide, q_228⟩ (fun _ _ => rfl)) (AJ_I (p0 := 4) (p1 := 8) (p2 := 8) (EJ_getI (t := 4) (c := 3) (kf := 6) (r := (RX3, TX3, 11)) (p0 := 4) (p1 := 5) (EJ_aload_n (j := 1) (i := 1) (pc := 4) D_Search_isAssigned_4 rfl) D_Search_isAssigned_5 ⟨rfl, rfl, by decide, q_807⟩ (fun _ _ => rfl)) AJ_nil) m_State_hasRule E1_I D_Search_isAssigned_8 rfl rfl rfl q_914 q_557 q_558 q_94 ⟨by decide +kernel, by decide +kernel, by decide +kernel⟩ (by decide) (show 1 + 1 ≤ 6 from by decide) (fun _ h => absurd h List.not_mem_nil)) D_Search_isAssigned_11 rfl)) (SJ_ret (p0 := 14) (p1 := 15) (EJ_iconst (n := 0) (v := (nI 0)) (pc := 14) D_Search_isAssigned_14 (by decide +kernel)) D_Search_isAssigned_15) SJ_sk)
 (SJ_sq (p0 := 16) (p1 := 29) (nN := 0) (nB := 0) (nC := 0) (SJ_astore_n (i := 2) (j := 2) (p0 := 16) (p1 := 28) (EJ_aald (p0 := 16) (p1 := 23) (p2 := 27) (EJ_getR (t := 10) (c := 9) (kf := 1) (r := (RX9, TX9, 4)) (p0 := 16) (p1 := 20) (EJ_getR (t := 8) (c := 7) (kf := 0) (r := (RX7, TX7, 11)) (p0 := 16) (p1 := 17) (EJ_aload_n (j := 0) (i := 0) (pc := 16) D_Search_isAssigned_16 rfl) D_Search_isAssigned_17 ⟨rfl, rfl, by decide, q_228⟩ (fun _ _ => rfl)) D_Search_isAssigned_20 ⟨rfl, rfl, by decide, q_178⟩ (fun _ _ => rfl)) (EJ_getI (t := 4) (c := 3) (kf := 6) (r := (RX3, TX3, 11)) (p0 := 23) (p1 := 24) (EJ_aload_n (j := 1) (i := 1) (pc := 23) D_Search_isAssigned_23 rfl) D_Search_isAssigned_24 ⟨rfl, rfl, by decide, q_807⟩ (fun _ _ => rfl)) D_Search_isAssigned_27 (Or.inl ⟨_, rfl⟩)) D_Search_isAssigned_28 rfl)
 (SJ_sq (p0 := 29) (p1 := 49) (nN := 0) (nB := 0) (nC := 0) (SJ_if (p0 := 29) (pT := 47) (pF := 49) (nN := 49) (nB := 0) (nC := 0) (CJ_or (p0 := 29) (pM := 36) (pT := 47) (pF := 49) (CZ_lt (off := 14) (tgt := 47) (p0 := 29) (p1 := 33) (EJ_getI (t := 4) (c := 3) (kf := 8) (r := (RX3, TX3, 11)) (p0 := 29) (p1 := 30) (EJ_aload_n (j := 1) (i := 1) (pc := 29) D_Search_isAssigned_29 rfl) D_Search_isAssigned_30 ⟨rfl, rfl, by decide, q_811⟩ (fun _ _ => rfl)) D_Search_isAssigned_33 rfl) (CJ_ge' (off := 5) (tgt := 49) (p0 := 36) (p1 := 40) (p2 := 44) (EJ_getI (t := 4) (c := 3) (kf := 8) (r := (RX3, TX3, 11)) (p0 := 36) (p1 := 37) (EJ_aload_n (j := 1) (i := 1) (pc := 36) D_Search_isAssigned_36 rfl) D_Search_isAssigned_37 ⟨rfl, rfl, by decide, q_811⟩ (fun _ _ => rfl)) (EJ_getI (t := 7) (c := 6) (kf := 4) (r := (RX6, TX6, 5)) (p0 := 40) (p1 := 41) (EJ_aload_n (j := 2) (i := 2) (pc := 40) D_Search_isAssigned_40 rfl) D_Search_isAssigned_41 ⟨rfl, rfl, by decide, q_401⟩ (fun _ _ => rfl)) D_Search_isAssigned_44 rfl)) (SJ_ret (p0 := 47) (p1 := 48) (EJ_iconst (n := 0) (v := (nI 0)) (pc := 47) D_Search_isAssigned_47 (by decide +kernel)) D_Search_isAssigned_48) SJ_sk)
 (SJ_sq (p0 := 49) (p1 := 59) (nN := 0) (nB := 0) (nC := 0) (SJ_astore_n (i := 3) (j := 3) (p0 := 49) (p1 := 58) (EJ_aald (p0 := 49) (p1 := 53) (p2 := 57) (EJ_getR (t := 7) (c := 6) (kf := 3) (r := (RX6, TX6, 5)) (p0 := 49) (p1 := 50) (EJ_aload_n (j := 2) (i := 2) (pc := 49) D_Search_isAssigned_49 rfl) D_Search_isAssigned_50 ⟨rfl, rfl, by decide, q_398⟩ (fun _ _ => rfl)) (EJ_getI (t := 4) (c := 3) (kf := 8) (r := (RX3, TX3, 11)) (p0 := 53) (p1 := 54) (EJ_aload_n (j := 1) (i := 1) (pc := 53) D_Search_isAssigned_53 rfl) D_Search_isAssigned_54 ⟨rfl, rfl, by decide, q_811⟩ (fun _ _ => rfl)) D_Search_isAssigned_57 (Or.inl ⟨_, rfl⟩)) D_Search_isAssigned_58 rfl)
 (SJ_sq (p0 := 59) (p1 := 67) (nN := 0) (nB := 0) (nC := 0) (SJ_astore (i := 4) (p0 := 59) (p1 := 65) (EJ_aald (p0 := 59) (p1 := 63) (p2 := 64) (EJ_getR (t := 8) (c := 7) (kf := 3) (r := (RX7, TX7, 11)) (p0 := 59) (p1 := 60) (EJ_aload_n (j := 0) (i := 0) (pc := 59) D_Search_isAssigned_59 rfl) D_Search_isAssigned_60 ⟨rfl, rfl, by decide, q_231⟩ (fun _ _ => rfl)) (EJ_iconst (n := 0) (v := (nI 0)) (pc := 63) D_Search_isAssigned_63 (by decide +kernel)) D_Search_isAssigned_64 (Or.inl ⟨_, rfl⟩)) D_Search_isAssigned_65)
 (SJ_sq (p0 := 67) (p1 := 83) (nN := 0) (nB := 0) (nC := 0) (SJ_void (p0 := 67) (p1 := 83) (EJ_callV (t := 3) (c := 2) (r := (RX2, TX2, 12)) (p0 := 67) (p1 := 69) (p2 := 80) (EJ_aload (i := 4) (pc := 67) D_Search_isAssigned_67) (AJ_R (p0 := 69) (p1 := 76) (p2 := 80) (EJ_getR (t := 10) (c := 9) (kf := 0) (r := (RX9, TX9, 4)) (p0 := 69) (p1 := 73) (EJ_getR (t := 8) (c := 7) (kf := 0) (r := (RX7, TX7, 11)) (p0 := 69) (p1 := 70) (EJ_aload_n (j := 0) (i := 0) (pc := 69) D_Search_isAssigned_69 rfl) D_Search_isAssigned_70 ⟨rfl, rfl, by decide, q_228⟩ (fun _ _ => rfl)) D_Search_isAssigned_73 ⟨rfl, rfl, by decide, q_175⟩ (fun _ _ => rfl)) (AJ_J (p0 := 76) (p1 := 80) (p2 := 80) (EJ_getJ (t := 4) (c := 3) (kf := 1) (r := (RX3, TX3, 11)) (p0 := 76) (p1 := 77) (EJ_aload_n (j := 1) (i := 1) (pc := 76) D_Search_isAssigned_76 rfl) D_Search_isAssigned_77 ⟨rfl, rfl, by decide, q_797⟩ (fun _ _ => rfl)) AJ_nil)) m_Fit_load E1_U D_Search_isAssigned_80 rfl rfl rfl q_829 q_668 q_669 q_95 ⟨by decide +kernel, by decide +kernel, by decide +kernel⟩ (by decide) (show 2 + 1 ≤ 6 from by decide) (show ∀ x_ ∈ ([3, 43, 44, 46] : List Nat), x_ ∈ ([3, 43, 44, 45, 46, 47, 48] : List Nat) from by decide)))
 (SJ_sq (p0 := 83) (p1 := 111) (nN := 0) (nB := 0) (nC := 0) (SJ_istore (i := 5) (p0 := 83) (p1 := 109) (EJ_if (p0 := 83) (pT := 104) (pF := 108) (pE := 105) (p1 := 109) (CJ_and (p0 := 83) (pM := 91) (pT := 104) (pF := 108) (CA_eq' (off := 20) (tgt := 108) (p0 := 83) (p1 := 84) (p2 := 88) (EJ_aload_n (j := 3) (i := 3) (pc := 83) D_Search_isAssigned_83 rfl) (EJ_getR (t := 4) (c := 3) (kf := 9) (r := (RX3, TX3, 11)) (p0 := 84) (p1 := 85) (EJ_aload_n (j := 1) (i := 1) (pc := 84) D_Search_isAssigned_84 rfl) D_Search_isAssigned_85 ⟨rfl, rfl, by decide, q_813⟩ (fun _ _ => rfl)) D_Search_isAssigned_88 rfl) (CZ_ne' (off := 7) (tgt := 108) (p0 := 91) (p1 := 101) (EJ_callV (t := 3) (c := 2) (r := (RX2, TX2, 12)) (p0 := 91) (p1 := 93) (p2 := 98) (EJ_aload (i := 4) (pc := 91) D_Search_isAssigned_91) (AJ_R (p0 := 93) (p1 := 94) (p2 := 98) (EJ_aload_n (j := 2) (i := 2) (pc := 93) D_Search_isAssigned_93 rfl) (AJ_I (p0 := 94) (p1 := 98) (p2 := 98) (EJ_getI (t := 4) (c := 3) (kf := 7) (r := (RX3, TX3, 11)) (p0 := 94) (p1 := 95) (EJ_aload_n (j := 1) (i := 1) (pc := 94) D_Search_isAssigned_94 rfl) D_Search_isAssigned_95 ⟨rfl, rfl, by decide, q_809⟩ (fun _ _ => rfl)) AJ_nil)) m_Fit_reach E1_I D_Search_isAssigned_98 rfl rfl rfl q_915 q_763 q_764 q_95 ⟨by decide +kernel, by decide +kernel, by decide +kernel⟩ (by decide) (show 5 + 1 ≤ 6 from by decide) (show ∀ x_ ∈ ([3, 43, 44, 45, 46, 47, 48] : List Nat), x_ ∈ ([3, 43, 44, 45, 46, 47, 48] : List Nat) from by decide)) D_Search_isAssigned_101 rfl)) (EJ_iconst (n := 1) (v := (nI 1)) (pc := 104) D_Search_isAssigned_104 (by decide +kernel)) (Lead.goto (K := K_Search_isAssigned) (pc := 105) (tgt := 109) D_Search_isAssigned_105 rfl) (EJ_iconst (n := 0) (v := (nI 0)) (pc := 108) D_Search_isAssigned_108 (by decide +kernel))) D_Search_isAssigned_109)
 (SJ_sq (p0 := 111) (p1 := 171) (nN := 0) (nB := 0) (nC := 0) (SJ_sq (p0 := 111) (p1 := 114) (nN := 171) (nB := 0) (nC := 0) (SJ_istore (i := 6) (p0 := 111) (p1 := 112) (EJ_iconst (n := 0) (v := (nI 0)) (pc := 111) D_Search_isAssigned_111 (by decide +kernel)) D_Search_isAssigned_112)
 (SJ_loop (p0 := 114) (pB := 123) (pS := 165) (pE := 171) (CJ_lt' (off := 51) (tgt := 171) (p0 := 114) (p1 := 116) (p2 := 120) (EJ_iload (i := 6) (pc := 114) D_Search_isAssigned_114) (EJ_getI (t := 1) (c := 0) (kf := 6) (r := (RX0, TX0, 11)) (p0 := 116) (p1 := 117) (EJ_aload_n (j := 3) (i := 3) (pc := 116) D_Search_isAssigned_116 rfl) D_Search_isAssigned_117 ⟨rfl, rfl, by decide, q_432⟩ (fun _ _ => rfl)) D_Search_isAssigned_120 rfl)
 (SJ_sq (p0 := 123) (p1 := 142) (nN := 165) (nB := 171) (nC := 165) (SJ_void (p0 := 123) (p1 := 142) (EJ_callV (t := 3) (c := 2) (r := (RX2, TX2, 12)) (p0 := 123) (p1 := 125) (p2 := 139) (EJ_aload (i := 4) (pc := 123) D_Search_isAssigned_123) (AJ_I (p0 := 125) (p1 := 132) (p2 := 139) (EJ_iald (p0 := 125) (p1 := 129) (p2 := 131) (EJ_getR (t := 1) (c := 0) (kf := 5) (r := (RX0, TX0, 11)) (p0 := 125) (p1 := 126) (EJ_aload_n (j := 3) (i := 3) (pc := 125) D_Search_isAssigned_125 rfl) D_Search_isAssigned_126 ⟨rfl, rfl, by decide, q_430⟩ (fun _ _ => rfl)) (EJ_iload (i := 6) (pc := 129) D_Search_isAssigned_129) D_Search_isAssigned_131) (AJ_J (p0 := 132) (p1 := 139) (p2 := 139) (EJ_lald (p0 := 132) (p1 := 136) (p2 := 138) (EJ_getR (t := 4) (c := 3) (kf := 10) (r := (RX3, TX3, 11)) (p0 := 132) (p1 := 133) (EJ_aload_n (j := 1) (i := 1) (pc := 132) D_Search_isAssigned_132 rfl) D_Search_isAssigned_133 ⟨rfl, rfl, by decide, q_816⟩ (fun _ _ => rfl)) (EJ_iload (i := 6) (pc := 136) D_Search_isAssigned_136) D_Search_isAssigned_138) AJ_nil)) m_Fit_put E1_U D_Search_isAssigned_139 rfl rfl rfl q_863 q_745 q_746 q_95 ⟨by decide +kernel, by decide +kernel, by decide +kernel⟩ (by decide) (show 2 + 1 ≤ 6 from by decide) (show ∀ x_ ∈ ([47, 48] : List Nat), x_ ∈ ([3, 43, 44, 45, 46, 47, 48] : List Nat) from by decide)))
 (SJ_istore (i := 5) (p0 := 142) (p1 := 163) (EJ_iand (p0 := 142) (p1 := 144) (p2 := 162) (EJ_iload (i := 5) (pc := 142) D_Search_isAssigned_142) (EJ_callV (t := 8) (c := 7) (r := (RX7, TX7, 11)) (p0 := 144) (p1 := 145) (p2 := 159) (EJ_aload_n (j := 0) (i := 0) (pc := 144) D_Search_isAssigned_144 rfl) (AJ_I (p0 := 145) (p1 := 152) (p2 := 159) (EJ_iald (p0 := 145) (p1 := 149) (p2 := 151) (EJ_getR (t := 1) (c := 0) (kf := 5) (r := (RX0, TX0, 11)) (p0 := 145) (p1 := 146) (EJ_aload_n (j := 3) (i := 3) (pc := 145) D_Search_isAssigned_145 rfl) D_Search_isAssigned_146 ⟨rfl, rfl, by decide, q_430⟩ (fun _ _ => rfl)) (EJ_iload (i := 6) (pc := 149) D_Search_isAssigned_149) D_Search_isAssigned_151) (AJ_J (p0 := 152) (p1 := 159) (p2 := 159) (EJ_lald (p0 := 152) (p1 := 156) (p2 := 158) (EJ_getR (t := 4) (c := 3) (kf := 10) (r := (RX3, TX3, 11)) (p0 := 152) (p1 := 153) (EJ_aload_n (j := 1) (i := 1) (pc := 152) D_Search_isAssigned_152 rfl) D_Search_isAssigned_153 ⟨rfl, rfl, by decide, q_816⟩ (fun _ _ => rfl)) (EJ_iload (i := 6) (pc := 156) D_Search_isAssigned_156) D_Search_isAssigned_158) AJ_nil)) m_Search_isHad E1_I D_Search_isAssigned_159 rfl rfl rfl q_916 q_917 q_33 q_96 ⟨by decide +kernel, by decide +kernel, by decide +kernel⟩ (by decide) (show 2 + 1 ≤ 6 from by decide) (fun _ h => absurd h List.not_mem_nil)) D_Search_isAssigned_162) D_Search_isAssigned_163))
 (SJ_post (SJ_iinc (i := 6) (n := 1) (v := (nI 1)) (pc := 165) D_Search_isAssigned_165 (by decide +kernel)) (Lead.goto (K := K_Search_isAssigned) (pc := 168) (tgt := 114) D_Search_isAssigned_168 rfl))))
 (SJ_ret (p0 := 171) (p1 := 173) (EJ_iload (i := 5) (pc := 171) D_Search_isAssigned_171) D_Search_isAssigned_173)))))))))
 RTm_bool q_913 (by decide +kernel) rfl (fun h => by cases h) (show 7 ≤ 40 from by decide) (fun _ => trivial)
theorem D_Search_isPlaced_0 : decode cX7_isPlaced 0 = .ok (.aload_n 1, 1) := by decide +kernel
theorem D_Search_isPlaced_1 : decode cX7_isPlaced 1 = .ok (.getfield 123, 3) := by decide +kernel
theorem D_Search_isPlaced_4 : decode cX7_isPlaced 4 = .ok (.ifCond .ne (24), 3) := by decide +kernel
theorem D_Search_isPlaced_7 : decode cX7_isPlaced 7 = .ok (.aload_n 1, 1) := by decide +kernel
theorem D_Search_isPlaced_8 : decode cX7_isPlaced 8 = .ok (.getfield 65, 3) := by decide +kernel
theorem D_Search_isPlaced_11 : decode cX7_isPlaced 11 = .ok (.ifCond .ne (15), 3) := by decide +kernel
theorem D_Search_isPlaced_14 : decode cX7_isPlaced 14 = .ok (.aload_n 1, 1) := by decide +kernel
theorem D_Search_isPlaced_15 : decode cX7_isPlaced 15 = .ok (.getfield 78, 3) := by decide +kernel
theorem D_Search_isPlaced_18 : decode cX7_isPlaced 18 = .ok (.iconst (-1), 1) := by decide +kernel
theorem D_Search_isPlaced_19 : decode cX7_isPlaced 19 = .ok (.if_icmp .ne (7), 3) := by decide +kernel
theorem D_Search_isPlaced_22 : decode cX7_isPlaced 22 = .ok (.iconst (1), 1) := by decide +kernel
theorem D_Search_isPlaced_23 : decode cX7_isPlaced 23 = .ok (.goto (4), 3) := by decide +kernel
theorem D_Search_isPlaced_26 : decode cX7_isPlaced 26 = .ok (.iconst (0), 1) := by decide +kernel
theorem D_Search_isPlaced_27 : decode cX7_isPlaced 27 = .ok (.ireturn, 1) := by decide +kernel
theorem D_Search_isPlaced_28 : decode cX7_isPlaced 28 = .ok (.aload_n 1, 1) := by decide +kernel
theorem D_Search_isPlaced_29 : decode cX7_isPlaced 29 = .ok (.getfield 78, 3) := by decide +kernel
theorem D_Search_isPlaced_32 : decode cX7_isPlaced 32 = .ok (.ifCond .lt (50), 3) := by decide +kernel
theorem D_Search_isPlaced_35 : decode cX7_isPlaced 35 = .ok (.aload_n 1, 1) := by decide +kernel
theorem D_Search_isPlaced_36 : decode cX7_isPlaced 36 = .ok (.getfield 78, 3) := by decide +kernel
theorem D_Search_isPlaced_39 : decode cX7_isPlaced 39 = .ok (.aload_n 1, 1) := by decide +kernel
theorem D_Search_isPlaced_40 : decode cX7_isPlaced 40 = .ok (.getfield 123, 3) := by decide +kernel
theorem D_Search_isPlaced_43 : decode cX7_isPlaced 43 = .ok (.if_icmp .ge (39), 3) := by decide +kernel
theorem D_Search_isPlaced_46 : decode cX7_isPlaced 46 = .ok (.aload_n 1, 1) := by decide +kernel
theorem D_Search_isPlaced_47 : decode cX7_isPlaced 47 = .ok (.getfield 65, 3) := by decide +kernel
theorem D_Search_isPlaced_50 : decode cX7_isPlaced 50 = .ok (.aload_n 0, 1) := by decide +kernel
theorem D_Search_isPlaced_51 : decode cX7_isPlaced 51 = .ok (.getfield 35, 3) := by decide +kernel
theorem D_Search_isPlaced_54 : decode cX7_isPlaced 54 = .ok (.if_icmp .ge (28), 3) := by decide +kernel
theorem D_Search_isPlaced_57 : decode cX7_isPlaced 57 = .ok (.aload_n 1, 1) := by decide +kernel
theorem D_Search_isPlaced_58 : decode cX7_isPlaced 58 = .ok (.getfield 65, 3) := by decide +kernel
theorem D_Search_isPlaced_61 : decode cX7_isPlaced 61 = .ok (.aload_n 0, 1) := by decide +kernel
theorem D_Search_isPlaced_62 : decode cX7_isPlaced 62 = .ok (.getfield 17, 3) := by decide +kernel
theorem D_Search_isPlaced_65 : decode cX7_isPlaced 65 = .ok (.aload_n 1, 1) := by decide +kernel
theorem D_Search_isPlaced_66 : decode cX7_isPlaced 66 = .ok (.getfield 78, 3) := by decide +kernel
theorem D_Search_isPlaced_69 : decode cX7_isPlaced 69 = .ok (.aaload, 1) := by decide +kernel
theorem D_Search_isPlaced_70 : decode cX7_isPlaced 70 = .ok (.getfield 65, 3) := by decide +kernel
theorem D_Search_isPlaced_73 : decode cX7_isPlaced 73 = .ok (.iconst (1), 1) := by decide +kernel
theorem D_Search_isPlaced_74 : decode cX7_isPlaced 74 = .ok (.iadd, 1) := by decide +kernel
theorem D_Search_isPlaced_75 : decode cX7_isPlaced 75 = .ok (.if_icmp .ne (7), 3) := by decide +kernel
theorem D_Search_isPlaced_78 : decode cX7_isPlaced 78 = .ok (.iconst (1), 1) := by decide +kernel
theorem D_Search_isPlaced_79 : decode cX7_isPlaced 79 = .ok (.goto (4), 3) := by decide +kernel
theorem D_Search_isPlaced_82 : decode cX7_isPlaced 82 = .ok (.iconst (0), 1) := by decide +kernel
theorem D_Search_isPlaced_83 : decode cX7_isPlaced 83 = .ok (.ireturn, 1) := by decide +kernel
def K_Search_isPlaced : SC := (cX7_isPlaced, "TwoLevels$Search", 2, 1, false, [], NoQ)
def d_Search_isPlaced : MD Int32 := mth zz 2 (sq (sIf (eh1 z_eq (eh1 (gI 4 0) (lR 1))) (rtn (eIf (cAnd (eh1 z_eq (eh1 (gI 4 2) (lR 1))) (eh2 c_eq (eh1 (gI 4 3) (lR 1)) (eC (-1)))) (eC (nI 1)) (eC (nI 0)))) sk)
 (rtn (eIf (cAnd (cAnd (cAnd (eh1 z_ge (eh1 (gI 4 3) (lR 1))) (eh2 c_lt (eh1 (gI 4 3) (lR 1)) (eh1 (gI 4 0) (lR 1)))) (eh2 c_lt (eh1 (gI 4 2) (lR 1)) (eh1 (gI 8 1) (lR 0)))) (eh2 c_eq (eh1 (gI 4 2) (lR 1)) (eh2 iaddF (eh1 (gI 4 2) (eh2 (aR (.object "TwoLevels$Node")) (eh1 (gR 8 9) (lR 0)) (eh1 (gI 4 3) (lR 1)))) (eC (nI 1))))) (eC (nI 1)) (eC (nI 0)))))
theorem m_Search_isPlaced : MJ 1 [] yX7_isPlaced (some .boolean) eI (d_Search_isPlaced) := MJ_of (K := K_Search_isPlaced) (ri := .ireturn) (n1 := 0) (n2 := 0) (n3 := 0)
 (SJ_sq (p0 := 0) (p1 := 28) (nN := 0) (nB := 0) (nC := 0) (SJ_if (p0 := 0) (pT := 7) (pF := 28) (nN := 28) (nB := 0) (nC := 0) (CZ_eq' (off := 24) (tgt := 28) (p0 := 0) (p1 := 4) (EJ_getI (t := 4) (c := 3) (kf := 0) (r := (RX3, TX3, 11)) (p0 := 0) (p1 := 1) (EJ_aload_n (j := 1) (i := 1) (pc := 0) D_Search_isPlaced_0 rfl) D_Search_isPlaced_1 ⟨rfl, rfl, by decide, q_796⟩ (fun _ _ => rfl)) D_Search_isPlaced_4 rfl) (SJ_ret (p0 := 7) (p1 := 27) (EJ_if (p0 := 7) (pT := 22) (pF := 26) (pE := 23) (p1 := 27) (CJ_and (p0 := 7) (pM := 14) (pT := 22) (pF := 26) (CZ_eq' (off := 15) (tgt := 26) (p0 := 7) (p1 := 11) (EJ_getI (t := 4) (c := 3) (kf := 2) (r := (RX3, TX3, 11)) (p0 := 7) (p1 := 8) (EJ_aload_n (j := 1) (i := 1) (pc := 7) D_Search_isPlaced_7 rfl) D_Search_isPlaced_8 ⟨rfl, rfl, by decide, q_799⟩ (fun _ _ => rfl)) D_Search_isPlaced_11 rfl) (CJ_eq' (off := 7) (tgt := 26) (p0 := 14) (p1 := 18) (p2 := 19) (EJ_getI (t := 4) (c := 3) (kf := 3) (r := (RX3, TX3, 11)) (p0 := 14) (p1 := 15) (EJ_aload_n (j := 1) (i := 1) (pc := 14) D_Search_isPlaced_14 rfl) D_Search_isPlaced_15 ⟨rfl, rfl, by decide, q_801⟩ (fun _ _ => rfl)) (EJ_iconst (n := -1) (v := (-1)) (pc := 18) D_Search_isPlaced_18 (by decide +kernel)) D_Search_isPlaced_19 rfl)) (EJ_iconst (n := 1) (v := (nI 1)) (pc := 22) D_Search_isPlaced_22 (by decide +kernel)) (Lead.goto (K := K_Search_isPlaced) (pc := 23) (tgt := 27) D_Search_isPlaced_23 rfl) (EJ_iconst (n := 0) (v := (nI 0)) (pc := 26) D_Search_isPlaced_26 (by decide +kernel))) D_Search_isPlaced_27) SJ_sk)
 (SJ_ret (p0 := 28) (p1 := 83) (EJ_if (p0 := 28) (pT := 78) (pF := 82) (pE := 79) (p1 := 83) (CJ_and (p0 := 28) (pM := 57) (pT := 78) (pF := 82) (CJ_and (p0 := 28) (pM := 46) (pT := 57) (pF := 82) (CJ_and (p0 := 28) (pM := 35) (pT := 46) (pF := 82) (CZ_ge' (off := 50) (tgt := 82) (p0 := 28) (p1 := 32) (EJ_getI (t := 4) (c := 3) (kf := 3) (r := (RX3, TX3, 11)) (p0 := 28) (p1 := 29) (EJ_aload_n (j := 1) (i := 1) (pc := 28) D_Search_isPlaced_28 rfl) D_Search_isPlaced_29 ⟨rfl, rfl, by decide, q_801⟩ (fun _ _ => rfl)) D_Search_isPlaced_32 rfl) (CJ_lt' (off := 39) (tgt := 82) (p0 := 35) (p1 := 39) (p2 := 43) (EJ_getI (t := 4) (c := 3) (kf := 3) (r := (RX3, TX3, 11)) (p0 := 35) (p1 := 36) (EJ_aload_n (j := 1) (i := 1) (pc := 35) D_Search_isPlaced_35 rfl) D_Search_isPlaced_36 ⟨rfl, rfl, by decide, q_801⟩ (fun _ _ => rfl)) (EJ_getI (t := 4) (c := 3) (kf := 0) (r := (RX3, TX3, 11)) (p0 := 39) (p1 := 40) (EJ_aload_n (j := 1) (i := 1) (pc := 39) D_Search_isPlaced_39 rfl) D_Search_isPlaced_40 ⟨rfl, rfl, by decide, q_796⟩ (fun _ _ => rfl)) D_Search_isPlaced_43 rfl)) (CJ_lt' (off := 28) (tgt := 82) (p0 := 46) (p1 := 50) (p2 := 54) (EJ_getI (t := 4) (c := 3) (kf := 2) (r := (RX3, TX3, 11)) (p0 := 46) (p1 := 47) (EJ_aload_n (j := 1) (i := 1) (pc := 46) D_Search_isPlaced_46 rfl) D_Search_isPlaced_47 ⟨rfl, rfl, by decide, q_799⟩ (fun _ _ => rfl)) (EJ_getI (t := 8) (c := 7) (kf := 1) (r := (RX7, TX7, 11)) (p0 := 50) (p1 := 51) (EJ_aload_n (j := 0) (i := 0) (pc := 50) D_Search_isPlaced_50 rfl) D_Search_isPlaced_51 ⟨rfl, rfl, by decide, q_229⟩ (fun _ _ => rfl)) D_Search_isPlaced_54 rfl)) (CJ_eq' (off := 7) (tgt := 82) (p0 := 57) (p1 := 61) (p2 := 75) (EJ_getI (t := 4) (c := 3) (kf := 2) (r := (RX3, TX3, 11)) (p0 := 57) (p1 := 58) (EJ_aload_n (j := 1) (i := 1) (pc := 57) D_Search_isPlaced_57 rfl) D_Search_isPlaced_58 ⟨rfl, rfl, by decide, q_799⟩ (fun _ _ => rfl)) (EJ_iadd (p0 := 61) (p1 := 73) (p2 := 74) (EJ_getI (t := 4) (c := 3) (kf := 2) (r := (RX3, TX3, 11)) (p0 := 61) (p1 := 70) (EJ_aald (p0 := 61) (p1 := 65) (p2 := 69) (EJ_getR (t := 8) (c := 7) (kf := 9) (r := (RX7, TX7, 11)) (p0 := 61) (p1 := 62) (EJ_aload_n (j := 0) (i := 0) (pc := 61) D_Search_isPlaced_61 rfl) D_Search_isPlaced_62 ⟨rfl, rfl, by decide, q_241⟩ (fun _ _ => rfl)) (EJ_getI (t := 4) (c := 3) (kf := 3) (r := (RX3, TX3, 11)) (p0 := 65) (p1 := 66) (EJ_aload_n (j := 1) (i := 1) (pc := 65) D_Search_isPlaced_65 rfl) D_Search_isPlaced_66 ⟨rfl, rfl, by decide, q_801⟩ (fun _ _ => rfl)) D_Search_isPlaced_69 (Or.inl ⟨_, rfl⟩)) D_Search_isPlaced_70 ⟨rfl, rfl, by decide, q_799⟩ (fun _ _ => rfl)) (EJ_iconst (n := 1) (v := (nI 1)) (pc := 73) D_Search_isPlaced_73 (by decide +kernel)) D_Search_isPlaced_74) D_Search_isPlaced_75 rfl)) (EJ_iconst (n := 1) (v := (nI 1)) (pc := 78) D_Search_isPlaced_78 (by decide +kernel)) (Lead.goto (K := K_Search_isPlaced) (pc := 79) (tgt := 83) D_Search_isPlaced_79 rfl) (EJ_iconst (n := 0) (v := (nI 0)) (pc := 82) D_Search_isPlaced_82 (by decide +kernel))) D_Search_isPlaced_83))
 RTm_bool q_910 (by decide +kernel) rfl (fun h => by cases h) (show 2 ≤ 40 from by decide) (fun _ => trivial)
theorem D_Search_firstWrong_0 : decode cX7_firstWrong 0 = .ok (.iconst (0), 1) := by decide +kernel
theorem D_Search_firstWrong_1 : decode cX7_firstWrong 1 = .ok (.istore 4, 2) := by decide +kernel
theorem D_Search_firstWrong_3 : decode cX7_firstWrong 3 = .ok (.iload 4, 2) := by decide +kernel
theorem D_Search_firstWrong_5 : decode cX7_firstWrong 5 = .ok (.aload_n 0, 1) := by decide +kernel
theorem D_Search_firstWrong_6 : decode cX7_firstWrong 6 = .ok (.getfield 55, 3) := by decide +kernel
theorem D_Search_firstWrong_9 : decode cX7_firstWrong 9 = .ok (.if_icmp .ge (92), 3) := by decide +kernel
theorem D_Search_firstWrong_12 : decode cX7_firstWrong 12 = .ok (.aload_n 0, 1) := by decide +kernel
theorem D_Search_firstWrong_13 : decode cX7_firstWrong 13 = .ok (.getfield 17, 3) := by decide +kernel
theorem D_Search_firstWrong_16 : decode cX7_firstWrong 16 = .ok (.iload 4, 2) := by decide +kernel
theorem D_Search_firstWrong_18 : decode cX7_firstWrong 18 = .ok (.aaload, 1) := by decide +kernel
theorem D_Search_firstWrong_19 : decode cX7_firstWrong 19 = .ok (.astore 5, 2) := by decide +kernel
theorem D_Search_firstWrong_21 : decode cX7_firstWrong 21 = .ok (.iload 4, 2) := by decide +kernel
theorem D_Search_firstWrong_23 : decode cX7_firstWrong 23 = .ok (.ifCond .gt (30), 3) := by decide +kernel
theorem D_Search_firstWrong_26 : decode cX7_firstWrong 26 = .ok (.aload 5, 2) := by decide +kernel
theorem D_Search_firstWrong_28 : decode cX7_firstWrong 28 = .ok (.getfield 68, 3) := by decide +kernel
theorem D_Search_firstWrong_31 : decode cX7_firstWrong 31 = .ok (.lload_n 1, 1) := by decide +kernel
theorem D_Search_firstWrong_32 : decode cX7_firstWrong 32 = .ok (.lcmp, 1) := by decide +kernel
theorem D_Search_firstWrong_33 : decode cX7_firstWrong 33 = .ok (.ifCond .ne (24), 3) := by decide +kernel
theorem D_Search_firstWrong_36 : decode cX7_firstWrong 36 = .ok (.aload 5, 2) := by decide +kernel
theorem D_Search_firstWrong_38 : decode cX7_firstWrong 38 = .ok (.getfield 72, 3) := by decide +kernel
theorem D_Search_firstWrong_41 : decode cX7_firstWrong 41 = .ok (.ifCond .ne (16), 3) := by decide +kernel
theorem D_Search_firstWrong_44 : decode cX7_firstWrong 44 = .ok (.aload 5, 2) := by decide +kernel
theorem D_Search_firstWrong_46 : decode cX7_firstWrong 46 = .ok (.getfield 75, 3) := by decide +kernel
theorem D_Search_firstWrong_49 : decode cX7_firstWrong 49 = .ok (.iload_n 3, 1) := by decide +kernel
theorem D_Search_firstWrong_50 : decode cX7_firstWrong 50 = .ok (.if_icmp .ne (7), 3) := by decide +kernel
theorem D_Search_firstWrong_53 : decode cX7_firstWrong 53 = .ok (.iconst (1), 1) := by decide +kernel
theorem D_Search_firstWrong_54 : decode cX7_firstWrong 54 = .ok (.goto (4), 3) := by decide +kernel
theorem D_Search_firstWrong_57 : decode cX7_firstWrong 57 = .ok (.iconst (0), 1) := by decide +kernel
theorem D_Search_firstWrong_58 : decode cX7_firstWrong 58 = .ok (.istore 6, 2) := by decide +kernel
theorem D_Search_firstWrong_60 : decode cX7_firstWrong 60 = .ok (.iload 6, 2) := by decide +kernel
theorem D_Search_firstWrong_62 : decode cX7_firstWrong 62 = .ok (.ifCond .eq (30), 3) := by decide +kernel
theorem D_Search_firstWrong_65 : decode cX7_firstWrong 65 = .ok (.aload_n 0, 1) := by decide +kernel
theorem D_Search_firstWrong_66 : decode cX7_firstWrong 66 = .ok (.aload 5, 2) := by decide +kernel
theorem D_Search_firstWrong_68 : decode cX7_firstWrong 68 = .ok (.invokevirtual 214, 3) := by decide +kernel
theorem D_Search_firstWrong_71 : decode cX7_firstWrong 71 = .ok (.ifCond .eq (21), 3) := by decide +kernel
theorem D_Search_firstWrong_74 : decode cX7_firstWrong 74 = .ok (.aload_n 0, 1) := by decide +kernel
theorem D_Search_firstWrong_75 : decode cX7_firstWrong 75 = .ok (.aload 5, 2) := by decide +kernel
theorem D_Search_firstWrong_77 : decode cX7_firstWrong 77 = .ok (.invokevirtual 218, 3) := by decide +kernel
theorem D_Search_firstWrong_80 : decode cX7_firstWrong 80 = .ok (.ifCond .eq (12), 3) := by decide +kernel
theorem D_Search_firstWrong_83 : decode cX7_firstWrong 83 = .ok (.aload_n 0, 1) := by decide +kernel
theorem D_Search_firstWrong_84 : decode cX7_firstWrong 84 = .ok (.aload 5, 2) := by decide +kernel
theorem D_Search_firstWrong_86 : decode cX7_firstWrong 86 = .ok (.invokevirtual 221, 3) := by decide +kernel
theorem D_Search_firstWrong_89 : decode cX7_firstWrong 89 = .ok (.ifCond .ne (6), 3) := by decide +kernel
theorem D_Search_firstWrong_92 : decode cX7_firstWrong 92 = .ok (.iload 4, 2) := by decide +kernel
theorem D_Search_firstWrong_94 : decode cX7_firstWrong 94 = .ok (.ireturn, 1) := by decide +kernel
theorem D_Search_firstWrong_95 : decode cX7_firstWrong 95 = .ok (.iinc 4 (1), 3) := by decide +kernel
theorem D_Search_firstWrong_98 : decode cX7_firstWrong 98 = .ok (.goto (-95), 3) := by decide +kernel
theorem D_Search_firstWrong_101 : decode cX7_firstWrong 101 = .ok (.iconst (-1), 1) := by decide +kernel
theorem D_Search_firstWrong_102 : decode cX7_firstWrong 102 = .ok (.ireturn, 1) := by decide +kernel
def K_Search_firstWrong : SC := (cX7_firstWrong, "TwoLevels$Search", 7, 7, false, [3, 43, 44, 45, 46, 47, 48], NoQ)
def d_Search_firstWrong : MD Int32 := mth tt 7 (sq (sq (sI1 4 (eC (nI 0)))
 (loop (eh2 c_lt (lI 4) (eh1 (gI 8 10) (lR 0)))
 (sq (sR1 5 (eh2 (aR (.object "TwoLevels$Node")) (eh1 (gR 8 9) (lR 0)) (lI 4)))
 (sq (sI1 6 (eIf (cOr (eh1 z_gt (lI 4)) (cAnd (cAnd (eh2 j_eq (eh1 (gJ 4 1) (lR 5)) (lJ 1)) (eh1 z_eq (eh1 (gI 4 4) (lR 5)))) (eh2 c_eq (eh1 (gI 4 5) (lR 5)) (lI 3)))) (eC (nI 1)) (eC (nI 0))))
 (sIf (cOr (cOr (cOr (cNot (eh1 z_ne (lI 6))) (cNot (eh1 z_ne (kV 8 d_Search_isPlaced (lR 0) [vR (lR 5)])))) (cNot (eh1 z_ne (kV 8 d_Search_isAssigned (lR 0) [vR (lR 5)])))) (cNot (eh1 z_ne (kV 8 d_Search_hasItsMembers (lR 0) [vR (lR 5)])))) (rtn (lI 4)) sk)))
 (sInc 4 (nI 1))))
 (rtn (eC (-1))))
theorem m_Search_firstWrong : MJ 7 [3, 43, 44, 45, 46, 47, 48] yX7_firstWrong (some .int) eI (d_Search_firstWrong) := MJ_of (K := K_Search_firstWrong) (ri := .ireturn) (n1 := 0) (n2 := 0) (n3 := 0)
 (SJ_sq (p0 := 0) (p1 := 101) (nN := 0) (nB := 0) (nC := 0) (SJ_sq (p0 := 0) (p1 := 3) (nN := 101) (nB := 0) (nC := 0) (SJ_istore (i := 4) (p0 := 0) (p1 := 1) (EJ_iconst (n := 0) (v := (nI 0)) (pc := 0) D_Search_firstWrong_0 (by decide +kernel)) D_Search_firstWrong_1)
 (SJ_loop (p0 := 3) (pB := 12) (pS := 95) (pE := 101) (CJ_lt' (off := 92) (tgt := 101) (p0 := 3) (p1 := 5) (p2 := 9) (EJ_iload (i := 4) (pc := 3) D_Search_firstWrong_3) (EJ_getI (t := 8) (c := 7) (kf := 10) (r := (RX7, TX7, 11)) (p0 := 5) (p1 := 6) (EJ_aload_n (j := 0) (i := 0) (pc := 5) D_Search_firstWrong_5 rfl) D_Search_firstWrong_6 ⟨rfl, rfl, by decide, q_242⟩ (fun _ _ => rfl)) D_Search_firstWrong_9 rfl)
 (SJ_sq (p0 := 12) (p1 := 21) (nN := 95) (nB := 101) (nC := 95) (SJ_astore (i := 5) (p0 := 12) (p1 := 19) (EJ_aald (p0 := 12) (p1 := 16) (p2 := 18) (EJ_getR (t := 8) (c := 7) (kf := 9) (r := (RX7, TX7, 11)) (p0 := 12) (p1 := 13) (EJ_aload_n (j := 0) (i := 0) (pc := 12) D_Search_firstWrong_12 rfl) D_Search_firstWrong_13 ⟨rfl, rfl, by decide, q_241⟩ (fun _ _ => rfl)) (EJ_iload (i := 4) (pc := 16) D_Search_firstWrong_16) D_Search_firstWrong_18 (Or.inl ⟨_, rfl⟩)) D_Search_firstWrong_19)
 (SJ_sq (p0 := 21) (p1 := 60) (nN := 95) (nB := 101) (nC := 95) (SJ_istore (i := 6) (p0 := 21) (p1 := 58) (EJ_if (p0 := 21) (pT := 53) (pF := 57) (pE := 54) (p1 := 58) (CJ_or (p0 := 21) (pM := 26) (pT := 53) (pF := 57) (CZ_gt (off := 30) (tgt := 53) (p0 := 21) (p1 := 23) (EJ_iload (i := 4) (pc := 21) D_Search_firstWrong_21) D_Search_firstWrong_23 rfl) (CJ_and (p0 := 26) (pM := 44) (pT := 53) (pF := 57) (CJ_and (p0 := 26) (pM := 36) (pT := 44) (pF := 57) (CL_eq' (off := 24) (tgt := 57) (p0 := 26) (p1 := 31) (p2 := 32) (EJ_getJ (t := 4) (c := 3) (kf := 1) (r := (RX3, TX3, 11)) (p0 := 26) (p1 := 28) (EJ_aload (i := 5) (pc := 26) D_Search_firstWrong_26) D_Search_firstWrong_28 ⟨rfl, rfl, by decide, q_797⟩ (fun _ _ => rfl)) (EJ_lload_n (j := 1) (i := 1) (pc := 31) D_Search_firstWrong_31 rfl) D_Search_firstWrong_32 D_Search_firstWrong_33 rfl) (CZ_eq' (off := 16) (tgt := 57) (p0 := 36) (p1 := 41) (EJ_getI (t := 4) (c := 3) (kf := 4) (r := (RX3, TX3, 11)) (p0 := 36) (p1 := 38) (EJ_aload (i := 5) (pc := 36) D_Search_firstWrong_36) D_Search_firstWrong_38 ⟨rfl, rfl, by decide, q_803⟩ (fun _ _ => rfl)) D_Search_firstWrong_41 rfl)) (CJ_eq' (off := 7) (tgt := 57) (p0 := 44) (p1 := 49) (p2 := 50) (EJ_getI (t := 4) (c := 3) (kf := 5) (r := (RX3, TX3, 11)) (p0 := 44) (p1 := 46) (EJ_aload (i := 5) (pc := 44) D_Search_firstWrong_44) D_Search_firstWrong_46 ⟨rfl, rfl, by decide, q_805⟩ (fun _ _ => rfl)) (EJ_iload_n (j := 3) (i := 3) (pc := 49) D_Search_firstWrong_49 rfl) D_Search_firstWrong_50 rfl))) (EJ_iconst (n := 1) (v := (nI 1)) (pc := 53) D_Search_firstWrong_53 (by decide +kernel)) (Lead.goto (K := K_Search_firstWrong) (pc := 54) (tgt := 58) D_Search_firstWrong_54 rfl) (EJ_iconst (n := 0) (v := (nI 0)) (pc := 57) D_Search_firstWrong_57 (by decide +kernel))) D_Search_firstWrong_58)
 (SJ_if (p0 := 60) (pT := 92) (pF := 95) (nN := 95) (nB := 101) (nC := 95) (CJ_or (p0 := 60) (pM := 83) (pT := 92) (pF := 95) (CJ_or (p0 := 60) (pM := 74) (pT := 92) (pF := 83) (CJ_or (p0 := 60) (pM := 65) (pT := 92) (pF := 74) (CJ_not (p0 := 60) (pT := 92) (pF := 65) (CZ_ne' (off := 30) (tgt := 92) (p0 := 60) (p1 := 62) (EJ_iload (i := 6) (pc := 60) D_Search_firstWrong_60) D_Search_firstWrong_62 rfl)) (CJ_not (p0 := 65) (pT := 92) (pF := 74) (CZ_ne' (off := 21) (tgt := 92) (p0 := 65) (p1 := 71) (EJ_callV (t := 8) (c := 7) (r := (RX7, TX7, 11)) (p0 := 65) (p1 := 66) (p2 := 68) (EJ_aload_n (j := 0) (i := 0) (pc := 65) D_Search_firstWrong_65 rfl) (AJ_R (p0 := 66) (p1 := 68) (p2 := 68) (EJ_aload (i := 5) (pc := 66) D_Search_firstWrong_66) AJ_nil) m_Search_isPlaced E1_I D_Search_firstWrong_68 rfl rfl rfl q_908 q_909 q_31 q_96 ⟨by decide +kernel, by decide +kernel, by decide +kernel⟩ (by decide) (show 1 + 1 ≤ 7 from by decide) (fun _ h => absurd h List.not_mem_nil)) D_Search_firstWrong_71 rfl))) (CJ_not (p0 := 74) (pT := 92) (pF := 83) (CZ_ne' (off := 12) (tgt := 92) (p0 := 74) (p1 := 80) (EJ_callV (t := 8) (c := 7) (r := (RX7, TX7, 11)) (p0 := 74) (p1 := 75) (p2 := 77) (EJ_aload_n (j := 0) (i := 0) (pc := 74) D_Search_firstWrong_74 rfl) (AJ_R (p0 := 75) (p1 := 77) (p2 := 77) (EJ_aload (i := 5) (pc := 75) D_Search_firstWrong_75) AJ_nil) m_Search_isAssigned E1_I D_Search_firstWrong_77 rfl rfl rfl q_911 q_912 q_32 q_96 ⟨by decide +kernel, by decide +kernel, by decide +kernel⟩ (by decide) (show 6 + 1 ≤ 7 from by decide) (show ∀ x_ ∈ ([3, 43, 44, 45, 46, 47, 48] : List Nat), x_ ∈ ([3, 43, 44, 45, 46, 47, 48] : List Nat) from by decide)) D_Search_firstWrong_80 rfl))) (CJ_not (p0 := 83) (pT := 92) (pF := 95) (CZ_ne (off := 6) (tgt := 95) (p0 := 83) (p1 := 89) (EJ_callV (t := 8) (c := 7) (r := (RX7, TX7, 11)) (p0 := 83) (p1 := 84) (p2 := 86) (EJ_aload_n (j := 0) (i := 0) (pc := 83) D_Search_firstWrong_83 rfl) (AJ_R (p0 := 84) (p1 := 86) (p2 := 86) (EJ_aload (i := 5) (pc := 84) D_Search_firstWrong_84) AJ_nil) m_Search_hasItsMembers E1_I D_Search_firstWrong_86 rfl rfl rfl q_919 q_920 q_34 q_96 ⟨by decide +kernel, by decide +kernel, by decide +kernel⟩ (by decide) (show 2 + 1 ≤ 7 from by decide) (fun _ h => absurd h List.not_mem_nil)) D_Search_firstWrong_89 rfl))) (SJ_ret (p0 := 92) (p1 := 94) (EJ_iload (i := 4) (pc := 92) D_Search_firstWrong_92) D_Search_firstWrong_94) SJ_sk)))
 (SJ_post (SJ_iinc (i := 4) (n := 1) (v := (nI 1)) (pc := 95) D_Search_firstWrong_95 (by decide +kernel)) (Lead.goto (K := K_Search_firstWrong) (pc := 98) (tgt := 3) D_Search_firstWrong_98 rfl))))
 (SJ_ret (p0 := 101) (p1 := 102) (EJ_iconst (n := -1) (v := (-1)) (pc := 101) D_Search_firstWrong_101 (by decide +kernel)) D_Search_firstWrong_102))
 RTm_int q_907 (by decide +kernel) rfl (fun h => by cases h) (show 7 ≤ 40 from by decide) (fun _ => trivial)
theorem D_Node_init_0 : decode cX3_init 0 = .ok (.aload_n 0, 1) := by decide +kernel
theorem D_Node_init_1 : decode cX3_init 1 = .ok (.invokespecial 1, 3) := by decide +kernel
theorem D_Node_init_4 : decode cX3_init 4 = .ok (.aload_n 0, 1) := by decide +kernel
theorem D_Node_init_5 : decode cX3_init 5 = .ok (.iconst (2), 1) := by decide +kernel
theorem D_Node_init_6 : decode cX3_init 6 = .ok (.newarray .long, 2) := by decide +kernel
theorem D_Node_init_8 : decode cX3_init 8 = .ok (.putfield 9, 3) := by decide +kernel
theorem D_Node_init_11 : decode cX3_init 11 = .ok (.aload_n 0, 1) := by decide +kernel
theorem D_Node_init_12 : decode cX3_init 12 = .ok (.iload_n 1, 1) := by decide +kernel
theorem D_Node_init_13 : decode cX3_init 13 = .ok (.putfield 15, 3) := by decide +kernel
theorem D_Node_init_16 : decode cX3_init 16 = .ok (.return_, 1) := by decide +kernel
def K_Node_init : SC := (cX3_init, "TwoLevels$Node", 2, 1, true, [4], NoQ)
def d_Node_init : MD Unit := mth tt 2 (sq sObj
 (sq (sh2 (pR 4 10) (lR 0) (nA 49 (eC (nI 2))))
 (sq (sh2 (pI false 4 0) (lR 0) (lI 1))
 rtnU)))
theorem m_Node_init : MJ 1 [4] yX3_init none eU (d_Node_init) := MJ_of (K := K_Node_init) (ri := .return_) (n1 := 0) (n2 := 0) (n3 := 0)
 (SJ_sq (p0 := 0) (p1 := 4) (nN := 0) (nB := 0) (nC := 0) (SJ_obj (pc := 0) (idx := 1) D_Node_init_0 D_Node_init_1 q_794 q_114 q_115 (show 1 ≤ 1 from by decide))
 (SJ_sq (p0 := 4) (p1 := 11) (nN := 0) (nB := 0) (nC := 0) (SJ_putR (t := 4) (c := 3) (kf := 10) (r := (RX3, TX3, 11)) (p0 := 4) (p1 := 5) (p2 := 8) (EJ_aload_n (j := 0) (i := 0) (pc := 4) D_Node_init_4 rfl) (EJ_newarr (atype := .long) (ty := .long) (t := 49) (p0 := 5) (p1 := 6) (EJ_iconst (n := 2) (v := (nI 2)) (pc := 5) D_Node_init_5 (by decide +kernel)) D_Node_init_6 rfl (by decide) q_220 rfl) D_Node_init_8 ⟨rfl, rfl, by decide, q_815⟩ (Or.inr ⟨rfl, rfl⟩) (Or.inr ⟨_, rfl⟩) (fun _ _ => rfl) (show (4 : Nat) ∈ ([4] : List Nat) from by decide))
 (SJ_sq (p0 := 11) (p1 := 16) (nN := 0) (nB := 0) (nC := 0) (SJ_putI (z := false) (t := 4) (c := 3) (kf := 0) (r := (RX3, TX3, 11)) (p0 := 11) (p1 := 12) (p2 := 13) (EJ_aload_n (j := 0) (i := 0) (pc := 11) D_Node_init_11 rfl) (EJ_iload_n (j := 1) (i := 1) (pc := 12) D_Node_init_12 rfl) D_Node_init_13 ⟨rfl, rfl, by decide, q_795⟩ (Or.inr ⟨rfl, rfl⟩) (fun _ _ => ⟨rfl, rfl⟩) (fun _ _ => rfl) (show (4 : Nat) ∈ ([4] : List Nat) from by decide))
 (SJ_retU (pc := 16) D_Node_init_16))))
 RTm_void q_793 (by decide +kernel) rfl (fun _ => rfl) (show 2 ≤ 40 from by decide) (fun _ => trivial)
theorem D_Search_openNode_0 : decode cX7_openNode 0 = .ok (.aload_n 0, 1) := by decide +kernel
theorem D_Search_openNode_1 : decode cX7_openNode 1 = .ok (.getfield 17, 3) := by decide +kernel
theorem D_Search_openNode_4 : decode cX7_openNode 4 = .ok (.aload_n 0, 1) := by decide +kernel
theorem D_Search_openNode_5 : decode cX7_openNode 5 = .ok (.getfield 55, 3) := by decide +kernel
theorem D_Search_openNode_8 : decode cX7_openNode 8 = .ok (.aaload, 1) := by decide +kernel
theorem D_Search_openNode_9 : decode cX7_openNode 9 = .ok (.astore 7, 2) := by decide +kernel
theorem D_Search_openNode_11 : decode cX7_openNode 11 = .ok (.aload 7, 2) := by decide +kernel
theorem D_Search_openNode_13 : decode cX7_openNode 13 = .ok (.ifnonnull (27), 3) := by decide +kernel
theorem D_Search_openNode_16 : decode cX7_openNode 16 = .ok (.new 15, 3) := by decide +kernel
theorem D_Search_openNode_19 : decode cX7_openNode 19 = .ok (.dup, 1) := by decide +kernel
theorem D_Search_openNode_20 : decode cX7_openNode 20 = .ok (.aload_n 0, 1) := by decide +kernel
theorem D_Search_openNode_21 : decode cX7_openNode 21 = .ok (.getfield 55, 3) := by decide +kernel
theorem D_Search_openNode_24 : decode cX7_openNode 24 = .ok (.invokespecial 62, 3) := by decide +kernel
theorem D_Search_openNode_27 : decode cX7_openNode 27 = .ok (.astore 7, 2) := by decide +kernel
theorem D_Search_openNode_29 : decode cX7_openNode 29 = .ok (.aload_n 0, 1) := by decide +kernel
theorem D_Search_openNode_30 : decode cX7_openNode 30 = .ok (.getfield 17, 3) := by decide +kernel
theorem D_Search_openNode_33 : decode cX7_openNode 33 = .ok (.aload_n 0, 1) := by decide +kernel
theorem D_Search_openNode_34 : decode cX7_openNode 34 = .ok (.getfield 55, 3) := by decide +kernel
theorem D_Search_openNode_37 : decode cX7_openNode 37 = .ok (.aload 7, 2) := by decide +kernel
theorem D_Search_openNode_39 : decode cX7_openNode 39 = .ok (.aastore, 1) := by decide +kernel
theorem D_Search_openNode_40 : decode cX7_openNode 40 = .ok (.aload_n 0, 1) := by decide +kernel
theorem D_Search_openNode_41 : decode cX7_openNode 41 = .ok (.dup, 1) := by decide +kernel
theorem D_Search_openNode_42 : decode cX7_openNode 42 = .ok (.getfield 55, 3) := by decide +kernel
theorem D_Search_openNode_45 : decode cX7_openNode 45 = .ok (.iconst (1), 1) := by decide +kernel
theorem D_Search_openNode_46 : decode cX7_openNode 46 = .ok (.iadd, 1) := by decide +kernel
theorem D_Search_openNode_47 : decode cX7_openNode 47 = .ok (.putfield 55, 3) := by decide +kernel
theorem D_Search_openNode_50 : decode cX7_openNode 50 = .ok (.aload 7, 2) := by decide +kernel
theorem D_Search_openNode_52 : decode cX7_openNode 52 = .ok (.iload_n 1, 1) := by decide +kernel
theorem D_Search_openNode_53 : decode cX7_openNode 53 = .ok (.putfield 65, 3) := by decide +kernel
theorem D_Search_openNode_56 : decode cX7_openNode 56 = .ok (.aload 7, 2) := by decide +kernel
theorem D_Search_openNode_58 : decode cX7_openNode 58 = .ok (.lload_n 2, 1) := by decide +kernel
theorem D_Search_openNode_59 : decode cX7_openNode 59 = .ok (.putfield 68, 3) := by decide +kernel
theorem D_Search_openNode_62 : decode cX7_openNode 62 = .ok (.aload 7, 2) := by decide +kernel
theorem D_Search_openNode_64 : decode cX7_openNode 64 = .ok (.iload 4, 2) := by decide +kernel
theorem D_Search_openNode_66 : decode cX7_openNode 66 = .ok (.putfield 72, 3) := by decide +kernel
theorem D_Search_openNode_69 : decode cX7_openNode 69 = .ok (.aload 7, 2) := by decide +kernel
theorem D_Search_openNode_71 : decode cX7_openNode 71 = .ok (.iload 5, 2) := by decide +kernel
theorem D_Search_openNode_73 : decode cX7_openNode 73 = .ok (.putfield 75, 3) := by decide +kernel
theorem D_Search_openNode_76 : decode cX7_openNode 76 = .ok (.aload 7, 2) := by decide +kernel
theorem D_Search_openNode_78 : decode cX7_openNode 78 = .ok (.iload 6, 2) := by decide +kernel
theorem D_Search_openNode_80 : decode cX7_openNode 80 = .ok (.putfield 78, 3) := by decide +kernel
theorem D_Search_openNode_83 : decode cX7_openNode 83 = .ok (.aload 7, 2) := by decide +kernel
theorem D_Search_openNode_85 : decode cX7_openNode 85 = .ok (.areturn, 1) := by decide +kernel
def K_Search_openNode : SC := (cX7_openNode, "TwoLevels$Search", 8, 2, false, [4, 8, 51], NoQ)
def d_Search_openNode : MD (Option Nat) := mth tt 8 (sq (sR1 7 (eh2 (aR (.object "TwoLevels$Node")) (eh1 (gR 8 9) (lR 0)) (eh1 (gI 8 10) (lR 0))))
 (sq (sIf (eh1 n_nul (lR 7)) (sq (sR1 7 (kN 4 11 d_Node_init [vI (eh1 (gI 8 10) (lR 0))]))
 (sh3 (stO [51] "TwoLevels$Node" 4) (eh1 (gR 8 9) (lR 0)) (eh1 (gI 8 10) (lR 0)) (lR 7))) sk)
 (sq (su2 (gI 8 10) (uF false 8 10 (fun x y => x + y)) (lR 0) (eC (nI 1)))
 (sq (sh2 (pI false 4 2) (lR 7) (lI 1))
 (sq (sh2 (pJ 4 1) (lR 7) (lJ 2))
 (sq (sh2 (pI false 4 4) (lR 7) (lI 4))
 (sq (sh2 (pI false 4 5) (lR 7) (lI 5))
 (sq (sh2 (pI false 4 3) (lR 7) (lI 6))
 (rtn (lR 7))))))))))
theorem m_Search_openNode : MJ 2 [4, 8, 51] yX7_openNode (some (.object "TwoLevels$Node")) eR (d_Search_openNode) := MJ_of (K := K_Search_openNode) (ri := .areturn) (n1 := 0) (n2 := 0) (n3 := 0)
 (SJ_sq (p0 := 0) (p1 := 11) (nN := 0) (nB := 0) (nC := 0) (SJ_astore (i := 7) (p0 := 0) (p1 := 9) (EJ_aald (p0 := 0) (p1 := 4) (p2 := 8) (EJ_getR (t := 8) (c := 7) (kf := 9) (r := (RX7, TX7, 11)) (p0 := 0) (p1 := 1) (EJ_aload_n (j := 0) (i := 0) (pc := 0) D_Search_openNode_0 rfl) D_Search_openNode_1 ⟨rfl, rfl, by decide, q_241⟩ (fun _ _ => rfl)) (EJ_getI (t := 8) (c := 7) (kf := 10) (r := (RX7, TX7, 11)) (p0 := 4) (p1 := 5) (EJ_aload_n (j := 0) (i := 0) (pc := 4) D_Search_openNode_4 rfl) D_Search_openNode_5 ⟨rfl, rfl, by decide, q_242⟩ (fun _ _ => rfl)) D_Search_openNode_8 (Or.inl ⟨_, rfl⟩)) D_Search_openNode_9)
 (SJ_sq (p0 := 11) (p1 := 40) (nN := 0) (nB := 0) (nC := 0) (SJ_if (p0 := 11) (pT := 16) (pF := 40) (nN := 40) (nB := 0) (nC := 0) (CN_nul' (off := 27) (tgt := 40) (p0 := 11) (p1 := 13) (EJ_aload (i := 7) (pc := 11) D_Search_openNode_11) D_Search_openNode_13 rfl) (SJ_sq (p0 := 16) (p1 := 29) (nN := 40) (nB := 0) (nC := 0) (SJ_astore (i := 7) (p0 := 16) (p1 := 27) (EJ_new (t := 4) (c := 3) (r := (RX3, TX3, 11)) (p0 := 16) (p1 := 24) D_Search_openNode_16 D_Search_openNode_19 (AJ_I (p0 := 20) (p1 := 24) (p2 := 24) (EJ_getI (t := 8) (c := 7) (kf := 10) (r := (RX7, TX7, 11)) (p0 := 20) (p1 := 21) (EJ_aload_n (j := 0) (i := 0) (pc := 20) D_Search_openNode_20 rfl) D_Search_openNode_21 ⟨rfl, rfl, by decide, q_242⟩ (fun _ _ => rfl)) AJ_nil) m_Node_init D_Search_openNode_24 rfl rfl q_227 q_790 q_107 rfl rfl (Or.inl q_791) q_792 ⟨by decide +kernel, by decide +kernel, by decide +kernel⟩ (by decide) (show 1 + 1 ≤ 2 from by decide) (show ∀ x_ ∈ ([4] : List Nat), x_ ∈ ([4, 8, 51] : List Nat) from by decide)) D_Search_openNode_27)
 (SJ_oast (tv := 4) (cv := 3) (r := (RX3, TX3, 11)) (ws := [51]) (p0 := 29) (p1 := 33) (p2 := 37) (p3 := 39) (EJ_getR (t := 8) (c := 7) (kf := 9) (r := (RX7, TX7, 11)) (p0 := 29) (p1 := 30) (EJ_aload_n (j := 0) (i := 0) (pc := 29) D_Search_openNode_29 rfl) D_Search_openNode_30 ⟨rfl, rfl, by decide, q_241⟩ (fun _ _ => rfl)) (EJ_getI (t := 8) (c := 7) (kf := 10) (r := (RX7, TX7, 11)) (p0 := 33) (p1 := 34) (EJ_aload_n (j := 0) (i := 0) (pc := 33) D_Search_openNode_33 rfl) D_Search_openNode_34 ⟨rfl, rfl, by decide, q_242⟩ (fun _ _ => rfl)) (EJ_aload (i := 7) (pc := 37) D_Search_openNode_37) D_Search_openNode_39 rfl rfl rfl (show ∀ x_ ∈ ([51] : List Nat), x_ ∈ ([4, 8, 51] : List Nat) from by decide))) SJ_sk)
 (SJ_sq (p0 := 40) (p1 := 50) (nN := 0) (nB := 0) (nC := 0) (SJ_upF (z := false) (t := 8) (c := 7) (kf := 10) (r := (RX7, TX7, 11)) (f := (fun x y => x + y)) (p0 := 40) (p1 := 41) (p3 := 46) (EJ_aload_n (j := 0) (i := 0) (pc := 40) D_Search_openNode_40 rfl) D_Search_openNode_41 D_Search_openNode_42 (EJ_iconst (n := 1) (v := (nI 1)) (pc := 45) D_Search_openNode_45 (by decide +kernel)) (Op2_iadd D_Search_openNode_46) D_Search_openNode_47 ⟨rfl, rfl, by decide, q_242⟩ ⟨rfl, rfl, by decide, q_242⟩ (Or.inl rfl) (fun _ _ => ⟨rfl, rfl⟩) (fun _ _ => rfl) (show (8 : Nat) ∈ ([4, 8, 51] : List Nat) from by decide))
 (SJ_sq (p0 := 50) (p1 := 56) (nN := 0) (nB := 0) (nC := 0) (SJ_putI (z := false) (t := 4) (c := 3) (kf := 2) (r := (RX3, TX3, 11)) (p0 := 50) (p1 := 52) (p2 := 53) (EJ_aload (i := 7) (pc := 50) D_Search_openNode_50) (EJ_iload_n (j := 1) (i := 1) (pc := 52) D_Search_openNode_52 rfl) D_Search_openNode_53 ⟨rfl, rfl, by decide, q_799⟩ (Or.inl rfl) (fun _ _ => ⟨rfl, rfl⟩) (fun _ _ => rfl) (show (4 : Nat) ∈ ([4, 8, 51] : List Nat) from by decide))
 (SJ_sq (p0 := 56) (p1 := 62) (nN := 0) (nB := 0) (nC := 0) (SJ_putJ (t := 4) (c := 3) (kf := 1) (r := (RX3, TX3, 11)) (p0 := 56) (p1 := 58) (p2 := 59) (EJ_aload (i := 7) (pc := 56) D_Search_openNode_56) (EJ_lload_n (j := 2) (i := 2) (pc := 58) D_Search_openNode_58 rfl) D_Search_openNode_59 ⟨rfl, rfl, by decide, q_797⟩ (Or.inl rfl) rfl (fun _ _ => rfl) (show (4 : Nat) ∈ ([4, 8, 51] : List Nat) from by decide))
 (SJ_sq (p0 := 62) (p1 := 69) (nN := 0) (nB := 0) (nC := 0) (SJ_putI (z := false) (t := 4) (c := 3) (kf := 4) (r := (RX3, TX3, 11)) (p0 := 62) (p1 := 64) (p2 := 66) (EJ_aload (i := 7) (pc := 62) D_Search_openNode_62) (EJ_iload (i := 4) (pc := 64) D_Search_openNode_64) D_Search_openNode_66 ⟨rfl, rfl, by decide, q_803⟩ (Or.inl rfl) (fun _ _ => ⟨rfl, rfl⟩) (fun _ _ => rfl) (show (4 : Nat) ∈ ([4, 8, 51] : List Nat) from by decide))
 (SJ_sq (p0 := 69) (p1 := 76) (nN := 0) (nB := 0) (nC := 0) (SJ_putI (z := false) (t := 4) (c := 3) (kf := 5) (r := (RX3, TX3, 11)) (p0 := 69) (p1 := 71) (p2 := 73) (EJ_aload (i := 7) (pc := 69) D_Search_openNode_69) (EJ_iload (i := 5) (pc := 71) D_Search_openNode_71) D_Search_openNode_73 ⟨rfl, rfl, by decide, q_805⟩ (Or.inl rfl) (fun _ _ => ⟨rfl, rfl⟩) (fun _ _ => rfl) (show (4 : Nat) ∈ ([4, 8, 51] : List Nat) from by decide))
 (SJ_sq (p0 := 76) (p1 := 83) (nN := 0) (nB := 0) (nC := 0) (SJ_putI (z := false) (t := 4) (c := 3) (kf := 3) (r := (RX3, TX3, 11)) (p0 := 76) (p1 := 78) (p2 := 80) (EJ_aload (i := 7) (pc := 76) D_Search_openNode_76) (EJ_iload (i := 6) (pc := 78) D_Search_openNode_78) D_Search_openNode_80 ⟨rfl, rfl, by decide, q_801⟩ (Or.inl rfl) (fun _ _ => ⟨rfl, rfl⟩) (fun _ _ => rfl) (show (4 : Nat) ∈ ([4, 8, 51] : List Nat) from by decide))
 (SJ_ret (p0 := 83) (p1 := 85) (EJ_aload (i := 7) (pc := 83) D_Search_openNode_83) D_Search_openNode_85)))))))))
 (RTm_ref (Or.inl ⟨_, rfl⟩)) q_789 (by decide +kernel) rfl (fun h => by cases h) (show 8 ≤ 40 from by decide) (fun _ => trivial)
theorem D_Search_opens_0 : decode cX7_opens 0 = .ok (.aload_n 0, 1) := by decide +kernel
theorem D_Search_opens_1 : decode cX7_opens 1 = .ok (.getfield 25, 3) := by decide +kernel
theorem D_Search_opens_4 : decode cX7_opens 4 = .ok (.aload_n 1, 1) := by decide +kernel
theorem D_Search_opens_5 : decode cX7_opens 5 = .ok (.getfield 65, 3) := by decide +kernel
theorem D_Search_opens_8 : decode cX7_opens 8 = .ok (.aaload, 1) := by decide +kernel
theorem D_Search_opens_9 : decode cX7_opens 9 = .ok (.astore 4, 2) := by decide +kernel
theorem D_Search_opens_11 : decode cX7_opens 11 = .ok (.aload_n 2, 1) := by decide +kernel
theorem D_Search_opens_12 : decode cX7_opens 12 = .ok (.getfield 182, 3) := by decide +kernel
theorem D_Search_opens_15 : decode cX7_opens 15 = .ok (.iload_n 3, 1) := by decide +kernel
theorem D_Search_opens_16 : decode cX7_opens 16 = .ok (.iaload, 1) := by decide +kernel
theorem D_Search_opens_17 : decode cX7_opens 17 = .ok (.aload_n 2, 1) := by decide +kernel
theorem D_Search_opens_18 : decode cX7_opens 18 = .ok (.getfield 185, 3) := by decide +kernel
theorem D_Search_opens_21 : decode cX7_opens 21 = .ok (.invokestatic 29, 3) := by decide +kernel
theorem D_Search_opens_24 : decode cX7_opens 24 = .ok (.istore 5, 2) := by decide +kernel
theorem D_Search_opens_26 : decode cX7_opens 26 = .ok (.iconst (0), 1) := by decide +kernel
theorem D_Search_opens_27 : decode cX7_opens 27 = .ok (.istore 6, 2) := by decide +kernel
theorem D_Search_opens_29 : decode cX7_opens 29 = .ok (.iload 6, 2) := by decide +kernel
theorem D_Search_opens_31 : decode cX7_opens 31 = .ok (.iload 5, 2) := by decide +kernel
theorem D_Search_opens_33 : decode cX7_opens 33 = .ok (.if_icmp .ge (41), 3) := by decide +kernel
theorem D_Search_opens_36 : decode cX7_opens 36 = .ok (.aload 4, 2) := by decide +kernel
theorem D_Search_opens_38 : decode cX7_opens 38 = .ok (.aload_n 2, 1) := by decide +kernel
theorem D_Search_opens_39 : decode cX7_opens 39 = .ok (.getfield 188, 3) := by decide +kernel
theorem D_Search_opens_42 : decode cX7_opens 42 = .ok (.iload 6, 2) := by decide +kernel
theorem D_Search_opens_44 : decode cX7_opens 44 = .ok (.aaload, 1) := by decide +kernel
theorem D_Search_opens_45 : decode cX7_opens 45 = .ok (.bipush (6), 2) := by decide +kernel
theorem D_Search_opens_47 : decode cX7_opens 47 = .ok (.invokevirtual 192, 3) := by decide +kernel
theorem D_Search_opens_50 : decode cX7_opens 50 = .ok (.aload_n 0, 1) := by decide +kernel
theorem D_Search_opens_51 : decode cX7_opens 51 = .ok (.getfield 9, 3) := by decide +kernel
theorem D_Search_opens_54 : decode cX7_opens 54 = .ok (.aload_n 1, 1) := by decide +kernel
theorem D_Search_opens_55 : decode cX7_opens 55 = .ok (.getfield 72, 3) := by decide +kernel
theorem D_Search_opens_58 : decode cX7_opens 58 = .ok (.iload 6, 2) := by decide +kernel
theorem D_Search_opens_60 : decode cX7_opens 60 = .ok (.iadd, 1) := by decide +kernel
theorem D_Search_opens_61 : decode cX7_opens 61 = .ok (.laload, 1) := by decide +kernel
theorem D_Search_opens_62 : decode cX7_opens 62 = .ok (.lcmp, 1) := by decide +kernel
theorem D_Search_opens_63 : decode cX7_opens 63 = .ok (.ifCond .eq (5), 3) := by decide +kernel
theorem D_Search_opens_66 : decode cX7_opens 66 = .ok (.iconst (0), 1) := by decide +kernel
theorem D_Search_opens_67 : decode cX7_opens 67 = .ok (.ireturn, 1) := by decide +kernel
theorem D_Search_opens_68 : decode cX7_opens 68 = .ok (.iinc 6 (1), 3) := by decide +kernel
theorem D_Search_opens_71 : decode cX7_opens 71 = .ok (.goto (-42), 3) := by decide +kernel
theorem D_Search_opens_74 : decode cX7_opens 74 = .ok (.iload 5, 2) := by decide +kernel
theorem D_Search_opens_76 : decode cX7_opens 76 = .ok (.aload_n 2, 1) := by decide +kernel
theorem D_Search_opens_77 : decode cX7_opens 77 = .ok (.getfield 182, 3) := by decide +kernel
theorem D_Search_opens_80 : decode cX7_opens 80 = .ok (.iload_n 3, 1) := by decide +kernel
theorem D_Search_opens_81 : decode cX7_opens 81 = .ok (.iaload, 1) := by decide +kernel
theorem D_Search_opens_82 : decode cX7_opens 82 = .ok (.if_icmp .ge (7), 3) := by decide +kernel
theorem D_Search_opens_85 : decode cX7_opens 85 = .ok (.iconst (1), 1) := by decide +kernel
theorem D_Search_opens_86 : decode cX7_opens 86 = .ok (.goto (4), 3) := by decide +kernel
theorem D_Search_opens_89 : decode cX7_opens 89 = .ok (.iconst (0), 1) := by decide +kernel
theorem D_Search_opens_90 : decode cX7_opens 90 = .ok (.istore 6, 2) := by decide +kernel
theorem D_Search_opens_92 : decode cX7_opens 92 = .ok (.aload 4, 2) := by decide +kernel
theorem D_Search_opens_94 : decode cX7_opens 94 = .ok (.aload_n 2, 1) := by decide +kernel
theorem D_Search_opens_95 : decode cX7_opens 95 = .ok (.getfield 188, 3) := by decide +kernel
theorem D_Search_opens_98 : decode cX7_opens 98 = .ok (.iload 5, 2) := by decide +kernel
theorem D_Search_opens_100 : decode cX7_opens 100 = .ok (.aaload, 1) := by decide +kernel
theorem D_Search_opens_101 : decode cX7_opens 101 = .ok (.iload 6, 2) := by decide +kernel
theorem D_Search_opens_103 : decode cX7_opens 103 = .ok (.ifCond .eq (8), 3) := by decide +kernel
theorem D_Search_opens_106 : decode cX7_opens 106 = .ok (.bipush (6), 2) := by decide +kernel
theorem D_Search_opens_108 : decode cX7_opens 108 = .ok (.goto (9), 3) := by decide +kernel
theorem D_Search_opens_111 : decode cX7_opens 111 = .ok (.aload_n 2, 1) := by decide +kernel
theorem D_Search_opens_112 : decode cX7_opens 112 = .ok (.getfield 196, 3) := by decide +kernel
theorem D_Search_opens_115 : decode cX7_opens 115 = .ok (.iload_n 3, 1) := by decide +kernel
theorem D_Search_opens_116 : decode cX7_opens 116 = .ok (.iaload, 1) := by decide +kernel
theorem D_Search_opens_117 : decode cX7_opens 117 = .ok (.invokevirtual 192, 3) := by decide +kernel
theorem D_Search_opens_120 : decode cX7_opens 120 = .ok (.lstore 7, 2) := by decide +kernel
theorem D_Search_opens_122 : decode cX7_opens 122 = .ok (.lload 7, 2) := by decide +kernel
theorem D_Search_opens_124 : decode cX7_opens 124 = .ok (.ldc2_w 201, 3) := by decide +kernel
theorem D_Search_opens_127 : decode cX7_opens 127 = .ok (.lcmp, 1) := by decide +kernel
theorem D_Search_opens_128 : decode cX7_opens 128 = .ok (.ifCond .eq (12), 3) := by decide +kernel
theorem D_Search_opens_131 : decode cX7_opens 131 = .ok (.iload 5, 2) := by decide +kernel
theorem D_Search_opens_133 : decode cX7_opens 133 = .ok (.aload_n 2, 1) := by decide +kernel
theorem D_Search_opens_134 : decode cX7_opens 134 = .ok (.getfield 185, 3) := by decide +kernel
theorem D_Search_opens_137 : decode cX7_opens 137 = .ok (.if_icmp .ne (18), 3) := by decide +kernel
theorem D_Search_opens_140 : decode cX7_opens 140 = .ok (.lload 7, 2) := by decide +kernel
theorem D_Search_opens_142 : decode cX7_opens 142 = .ok (.ldc2_w 201, 3) := by decide +kernel
theorem D_Search_opens_145 : decode cX7_opens 145 = .ok (.lcmp, 1) := by decide +kernel
theorem D_Search_opens_146 : decode cX7_opens 146 = .ok (.ifCond .eq (7), 3) := by decide +kernel
theorem D_Search_opens_149 : decode cX7_opens 149 = .ok (.iconst (1), 1) := by decide +kernel
theorem D_Search_opens_150 : decode cX7_opens 150 = .ok (.goto (4), 3) := by decide +kernel
theorem D_Search_opens_153 : decode cX7_opens 153 = .ok (.iconst (0), 1) := by decide +kernel
theorem D_Search_opens_154 : decode cX7_opens 154 = .ok (.ireturn, 1) := by decide +kernel
theorem D_Search_opens_155 : decode cX7_opens 155 = .ok (.aload_n 0, 1) := by decide +kernel
theorem D_Search_opens_156 : decode cX7_opens 156 = .ok (.getfield 9, 3) := by decide +kernel
theorem D_Search_opens_159 : decode cX7_opens 159 = .ok (.aload_n 1, 1) := by decide +kernel
theorem D_Search_opens_160 : decode cX7_opens 160 = .ok (.getfield 72, 3) := by decide +kernel
theorem D_Search_opens_163 : decode cX7_opens 163 = .ok (.iload 5, 2) := by decide +kernel
theorem D_Search_opens_165 : decode cX7_opens 165 = .ok (.iadd, 1) := by decide +kernel
theorem D_Search_opens_166 : decode cX7_opens 166 = .ok (.laload, 1) := by decide +kernel
theorem D_Search_opens_167 : decode cX7_opens 167 = .ok (.lstore 9, 2) := by decide +kernel
theorem D_Search_opens_169 : decode cX7_opens 169 = .ok (.lload 9, 2) := by decide +kernel
theorem D_Search_opens_171 : decode cX7_opens 171 = .ok (.invokestatic 203, 3) := by decide +kernel
theorem D_Search_opens_174 : decode cX7_opens 174 = .ok (.istore 11, 2) := by decide +kernel
theorem D_Search_opens_176 : decode cX7_opens 176 = .ok (.lload 7, 2) := by decide +kernel
theorem D_Search_opens_178 : decode cX7_opens 178 = .ok (.invokestatic 203, 3) := by decide +kernel
theorem D_Search_opens_181 : decode cX7_opens 181 = .ok (.istore 12, 2) := by decide +kernel
theorem D_Search_opens_183 : decode cX7_opens 183 = .ok (.iload 12, 2) := by decide +kernel
theorem D_Search_opens_185 : decode cX7_opens 185 = .ok (.iload 11, 2) := by decide +kernel
theorem D_Search_opens_187 : decode cX7_opens 187 = .ok (.if_icmp .gt (23), 3) := by decide +kernel
theorem D_Search_opens_190 : decode cX7_opens 190 = .ok (.lload 9, 2) := by decide +kernel
theorem D_Search_opens_192 : decode cX7_opens 192 = .ok (.iload 11, 2) := by decide +kernel
theorem D_Search_opens_194 : decode cX7_opens 194 = .ok (.iconst (0), 1) := by decide +kernel
theorem D_Search_opens_195 : decode cX7_opens 195 = .ok (.iload 12, 2) := by decide +kernel
theorem D_Search_opens_197 : decode cX7_opens 197 = .ok (.invokestatic 206, 3) := by decide +kernel
theorem D_Search_opens_200 : decode cX7_opens 200 = .ok (.lload 7, 2) := by decide +kernel
theorem D_Search_opens_202 : decode cX7_opens 202 = .ok (.lcmp, 1) := by decide +kernel
theorem D_Search_opens_203 : decode cX7_opens 203 = .ok (.ifCond .ne (7), 3) := by decide +kernel
theorem D_Search_opens_206 : decode cX7_opens 206 = .ok (.iconst (1), 1) := by decide +kernel
theorem D_Search_opens_207 : decode cX7_opens 207 = .ok (.goto (4), 3) := by decide +kernel
theorem D_Search_opens_210 : decode cX7_opens 210 = .ok (.iconst (0), 1) := by decide +kernel
theorem D_Search_opens_211 : decode cX7_opens 211 = .ok (.ireturn, 1) := by decide +kernel
def K_Search_opens : SC := (cX7_opens, "TwoLevels$Search", 13, 2, false, [], NoQ)
def d_Search_opens : MD Int32 := mth zz 13 (sq (sR1 4 (eh2 (aR (.object "TwoLevels$Fit")) (eh1 (gR 8 3) (lR 0)) (eh1 (gI 4 2) (lR 1))))
 (sq (sI1 5 (kS d_Math_min [vI (eh2 (aI .int) (eh1 (gR 1 8) (lR 2)) (lI 3)), vI (eh1 (gI 1 10) (lR 2))]))
 (sq (sq (sI1 6 (eC (nI 0)))
 (loop (eh2 c_lt (lI 6) (lI 5))
 (sIf (eh2 j_ne (kV 3 d_Fit_spell (lR 4) [vR (eh2 (aR (.array .int)) (eh1 (gR 1 1) (lR 2)) (lI 6)), vI (eC (nI 6))]) (eh2 aJ (eh1 (gR 8 2) (lR 0)) (eh2 iaddF (eh1 (gI 4 4) (lR 1)) (lI 6)))) (rtn (eC (nI 0))) sk)
 (sInc 6 (nI 1))))
 (sq (sI1 6 (eIf (eh2 c_lt (lI 5) (eh2 (aI .int) (eh1 (gR 1 8) (lR 2)) (lI 3))) (eC (nI 1)) (eC (nI 0))))
 (sq (sJ1 7 (kV 3 d_Fit_spell (lR 4) [vR (eh2 (aR (.array .int)) (eh1 (gR 1 1) (lR 2)) (lI 5)), vI (eIf (eh1 z_ne (lI 6)) (eC (nI 6)) (eh2 (aI .int) (eh1 (gR 1 9) (lR 2)) (lI 3)))]))
 (sq (sIf (cOr (eh2 j_eq (lJ 7) (eC (-1))) (eh2 c_eq (lI 5) (eh1 (gI 1 10) (lR 2)))) (rtn (eIf (eh2 j_ne (lJ 7) (eC (-1))) (eC (nI 1)) (eC (nI 0)))) sk)
 (sq (sJ1 9 (eh2 aJ (eh1 (gR 8 2) (lR 0)) (eh2 iaddF (eh1 (gI 4 4) (lR 1)) (lI 5))))
 (sq (sI1 11 (kS d_Rows_size [vJ (lJ 9)]))
 (sq (sI1 12 (kS d_Rows_size [vJ (lJ 7)]))
 (rtn (eIf (cAnd (eh2 c_le (lI 12) (lI 11)) (eh2 j_eq (kS d_Rows_part [vJ (lJ 9), vI (lI 11), vI (eC (nI 0)), vI (lI 12)]) (lJ 7))) (eC (nI 1)) (eC (nI 0)))))))))))))
theorem m_Search_opens : MJ 2 [] yX7_opens (some .boolean) eI (d_Search_opens) := MJ_of (K := K_Search_opens) (ri := .ireturn) (n1 := 0) (n2 := 0) (n3 := 0)
 (SJ_sq (p0 := 0) (p1 := 11) (nN := 0) (nB := 0) (nC := 0) (SJ_astore (i := 4) (p0 := 0) (p1 := 9) (EJ_aald (p0 := 0) (p1 := 4) (p2 := 8) (EJ_getR (t := 8) (c := 7) (kf := 3) (r := (RX7, TX7, 11)) (p0 := 0) (p1 := 1) (EJ_aload_n (j := 0) (i := 0) (pc := 0) D_Search_opens_0 rfl) D_Search_opens_1 ⟨rfl, rfl, by decide, q_231⟩ (fun _ _ => rfl)) (EJ_getI (t := 4) (c := 3) (kf := 2) (r := (RX3, TX3, 11)) (p0 := 4) (p1 := 5) (EJ_aload_n (j := 1) (i := 1) (pc := 4) D_Search_opens_4 rfl) D_Search_opens_5 ⟨rfl, rfl, by decide, q_799⟩ (fun _ _ => rfl)) D_Search_opens_8 (Or.inl ⟨_, rfl⟩)) D_Search_opens_9)
 (SJ_sq (p0 := 11) (p1 := 26) (nN := 0) (nB := 0) (nC := 0) (SJ_istore (i := 5) (p0 := 11) (p1 := 24) (EJ_callS (p0 := 11) (p1 := 21) (AJ_I (p0 := 11) (p1 := 17) (p2 := 21) (EJ_iald (p0 := 11) (p1 := 15) (p2 := 16) (EJ_getR (t := 1) (c := 0) (kf := 8) (r := (RX0, TX0, 11)) (p0 := 11) (p1 := 12) (EJ_aload_n (j := 2) (i := 2) (pc := 11) D_Search_opens_11 rfl) D_Search_opens_12 ⟨rfl, rfl, by decide, q_436⟩ (fun _ _ => rfl)) (EJ_iload_n (j := 3) (i := 3) (pc := 15) D_Search_opens_15 rfl) D_Search_opens_16) (AJ_I (p0 := 17) (p1 := 21) (p2 := 21) (EJ_getI (t := 1) (c := 0) (kf := 10) (r := (RX0, TX0, 11)) (p0 := 17) (p1 := 18) (EJ_aload_n (j := 2) (i := 2) (pc := 17) D_Search_opens_17 rfl) D_Search_opens_18 ⟨rfl, rfl, by decide, q_440⟩ (fun _ _ => rfl)) AJ_nil)) m_Math_min E1_I D_Search_opens_21 q_780 q_307 q_98 ⟨by decide +kernel, by decide +kernel, by decide +kernel⟩ (by decide) (show 1 + 1 ≤ 2 from by decide) (fun _ h => absurd h List.not_mem_nil)) D_Search_opens_24)
 (SJ_sq (p0 := 26) (p1 := 74) (nN := 0) (nB := 0) (nC := 0) (SJ_sq (p0 := 26) (p1 := 29) (nN := 74) (nB := 0) (nC := 0) (SJ_istore (i := 6) (p0 := 26) (p1 := 27) (EJ_iconst (n := 0) (v := (nI 0)) (pc := 26) D_Search_opens_26 (by decide +kernel)) D_Search_opens_27)
 (SJ_loop (p0 := 29) (pB := 36) (pS := 68) (pE := 74) (CJ_lt' (off := 41) (tgt := 74) (p0 := 29) (p1 := 31) (p2 := 33) (EJ_iload (i := 6) (pc := 29) D_Search_opens_29) (EJ_iload (i := 5) (pc := 31) D_Search_opens_31) D_Search_opens_33 rfl)
 (SJ_if (p0 := 36) (pT := 66) (pF := 68) (nN := 68) (nB := 74) (nC := 68) (CL_ne' (off := 5) (tgt := 68) (p0 := 36) (p1 := 50) (p2 := 62) (EJ_callV (t := 3) (c := 2) (r := (RX2, TX2, 12)) (p0 := 36) (p1 := 38) (p2 := 47) (EJ_aload (i := 4) (pc := 36) D_Search_opens_36) (AJ_R (p0 := 38) (p1 := 45) (p2 := 47) (EJ_aald (p0 := 38) (p1 := 42) (p2 := 44) (EJ_getR (t := 1) (c := 0) (kf := 1) (r := (RX0, TX0, 11)) (p0 := 38) (p1 := 39) (EJ_aload_n (j := 2) (i := 2) (pc := 38) D_Search_opens_38 rfl) D_Search_opens_39 ⟨rfl, rfl, by decide, q_421⟩ (fun _ _ => rfl)) (EJ_iload (i := 6) (pc := 42) D_Search_opens_42) D_Search_opens_44 (Or.inr ⟨_, rfl⟩)) (AJ_I (p0 := 45) (p1 := 47) (p2 := 47) (EJ_bipush (n := 6) (v := (nI 6)) (pc := 45) D_Search_opens_45 (by decide +kernel)) AJ_nil)) m_Fit_spell E1_J D_Search_opens_47 rfl rfl rfl q_850 q_851 q_852 q_95 ⟨by decide +kernel, by decide +kernel, by decide +kernel⟩ (by decide) (show 1 + 1 ≤ 2 from by decide) (fun _ h => absurd h List.not_mem_nil)) (EJ_lald (p0 := 50) (p1 := 54) (p2 := 61) (EJ_getR (t := 8) (c := 7) (kf := 2) (r := (RX7, TX7, 11)) (p0 := 50) (p1 := 51) (EJ_aload_n (j := 0) (i := 0) (pc := 50) D_Search_opens_50 rfl) D_Search_opens_51 ⟨rfl, rfl, by decide, q_230⟩ (fun _ _ => rfl)) (EJ_iadd (p0 := 54) (p1 := 58) (p2 := 60) (EJ_getI (t := 4) (c := 3) (kf := 4) (r := (RX3, TX3, 11)) (p0 := 54) (p1 := 55) (EJ_aload_n (j := 1) (i := 1) (pc := 54) D_Search_opens_54 rfl) D_Search_opens_55 ⟨rfl, rfl, by decide, q_803⟩ (fun _ _ => rfl)) (EJ_iload (i := 6) (pc := 58) D_Search_opens_58) D_Search_opens_60) D_Search_opens_61) D_Search_opens_62 D_Search_opens_63 rfl) (SJ_ret (p0 := 66) (p1 := 67) (EJ_iconst (n := 0) (v := (nI 0)) (pc := 66) D_Search_opens_66 (by decide +kernel)) D_Search_opens_67) SJ_sk)
 (SJ_post (SJ_iinc (i := 6) (n := 1) (v := (nI 1)) (pc := 68) D_Search_opens_68 (by decide +kernel)) (Lead.goto (K := K_Search_opens) (pc := 71) (tgt := 29) D_Search_opens_71 rfl))))
 (SJ_sq (p0 := 74) (p1 := 92) (nN := 0) (nB := 0) (nC := 0) (SJ_istore (i := 6) (p0 := 74) (p1 := 90) (EJ_if (p0 := 74) (pT := 85) (pF := 89) (pE := 86) (p1 := 90) (CJ_lt' (off := 7) (tgt := 89) (p0 := 74) (p1 := 76) (p2 := 82) (EJ_iload (i := 5) (pc := 74) D_Search_opens_74) (EJ_iald (p0 := 76) (p1 := 80) (p2 := 81) (EJ_getR (t := 1) (c := 0) (kf := 8) (r := (RX0, TX0, 11)) (p0 := 76) (p1 := 77) (EJ_aload_n (j := 2) (i := 2) (pc := 76) D_Search_opens_76 rfl) D_Search_opens_77 ⟨rfl, rfl, by decide, q_436⟩ (fun _ _ => rfl)) (EJ_iload_n (j := 3) (i := 3) (pc := 80) D_Search_opens_80 rfl) D_Search_opens_81) D_Search_opens_82 rfl) (EJ_iconst (n := 1) (v := (nI 1)) (pc := 85) D_Search_opens_85 (by decide +kernel)) (Lead.goto (K := K_Search_opens) (pc := 86) (tgt := 90) D_Search_opens_86 rfl) (EJ_iconst (n := 0) (v := (nI 0)) (pc := 89) D_Search_opens_89 (by decide +kernel))) D_Search_opens_90)
 (SJ_sq (p0 := 92) (p1 := 122) (nN := 0) (nB := 0) (nC := 0) (SJ_lstore (i := 7) (p0 := 92) (p1 := 120) (EJ_callV (t := 3) (c := 2) (r := (RX2, TX2, 12)) (p0 := 92) (p1 := 94) (p2 := 117) (EJ_aload (i := 4) (pc := 92) D_Search_opens_92) (AJ_R (p0 := 94) (p1 := 101) (p2 := 117) (EJ_aald (p0 := 94) (p1 := 98) (p2 := 100) (EJ_getR (t := 1) (c := 0) (kf := 1) (r := (RX0, TX0, 11)) (p0 := 94) (p1 := 95) (EJ_aload_n (j := 2) (i := 2) (pc := 94) D_Search_opens_94 rfl) D_Search_opens_95 ⟨rfl, rfl, by decide, q_421⟩ (fun _ _ => rfl)) (EJ_iload (i := 5) (pc := 98) D_Search_opens_98) D_Search_opens_100 (Or.inr ⟨_, rfl⟩)) (AJ_I (p0 := 101) (p1 := 117) (p2 := 117) (EJ_if (p0 := 101) (pT := 106) (pF := 111) (pE := 108) (p1 := 117) (CZ_ne' (off := 8) (tgt := 111) (p0 := 101) (p1 := 103) (EJ_iload (i := 6) (pc := 101) D_Search_opens_101) D_Search_opens_103 rfl) (EJ_bipush (n := 6) (v := (nI 6)) (pc := 106) D_Search_opens_106 (by decide +kernel)) (Lead.goto (K := K_Search_opens) (pc := 108) (tgt := 117) D_Search_opens_108 rfl) (EJ_iald (p0 := 111) (p1 := 115) (p2 := 116) (EJ_getR (t := 1) (c := 0) (kf := 9) (r := (RX0, TX0, 11)) (p0 := 111) (p1 := 112) (EJ_aload_n (j := 2) (i := 2) (pc := 111) D_Search_opens_111 rfl) D_Search_opens_112 ⟨rfl, rfl, by decide, q_438⟩ (fun _ _ => rfl)) (EJ_iload_n (j := 3) (i := 3) (pc := 115) D_Search_opens_115 rfl) D_Search_opens_116)) AJ_nil)) m_Fit_spell E1_J D_Search_opens_117 rfl rfl rfl q_850 q_851 q_852 q_95 ⟨by decide +kernel, by decide +kernel, by decide +kernel⟩ (by decide) (show 1 + 1 ≤ 2 from by decide) (fun _ h => absurd h List.not_mem_nil)) D_Search_opens_120)
 (SJ_sq (p0 := 122) (p1 := 155) (nN := 0) (nB := 0) (nC := 0) (SJ_if (p0 := 122) (pT := 140) (pF := 155) (nN := 155) (nB := 0) (nC := 0) (CJ_or (p0 := 122) (pM := 131) (pT := 140) (pF := 155) (CL_eq (off := 12) (tgt := 140) (p0 := 122) (p1 := 124) (p2 := 127) (EJ_lload (i := 7) (pc := 122) D_Search_opens_122) (EJ_ldc2 (i := 201) (v := (-1)) (pc := 124) D_Search_opens_124 q_855) D_Search_opens_127 D_Search_opens_128 rfl) (CJ_eq' (off := 18) (tgt := 155) (p0 := 131) (p1 := 133) (p2 := 137) (EJ_iload (i := 5) (pc := 131) D_Search_opens_131) (EJ_getI (t := 1) (c := 0) (kf := 10) (r := (RX0, TX0, 11)) (p0 := 133) (p1 := 134) (EJ_aload_n (j := 2) (i := 2) (pc := 133) D_Search_opens_133 rfl) D_Search_opens_134 ⟨rfl, rfl, by decide, q_440⟩ (fun _ _ => rfl)) D_Search_opens_137 rfl)) (SJ_ret (p0 := 140) (p1 := 154) (EJ_if (p0 := 140) (pT := 149) (pF := 153) (pE := 150) (p1 := 154) (CL_ne' (off := 7) (tgt := 153) (p0 := 140) (p1 := 142) (p2 := 145) (EJ_lload (i := 7) (pc := 140) D_Search_opens_140) (EJ_ldc2 (i := 201) (v := (-1)) (pc := 142) D_Search_opens_142 q_855) D_Search_opens_145 D_Search_opens_146 rfl) (EJ_iconst (n := 1) (v := (nI 1)) (pc := 149) D_Search_opens_149 (by decide +kernel)) (Lead.goto (K := K_Search_opens) (pc := 150) (tgt := 154) D_Search_opens_150 rfl) (EJ_iconst (n := 0) (v := (nI 0)) (pc := 153) D_Search_opens_153 (by decide +kernel))) D_Search_opens_154) SJ_sk)
 (SJ_sq (p0 := 155) (p1 := 169) (nN := 0) (nB := 0) (nC := 0) (SJ_lstore (i := 9) (p0 := 155) (p1 := 167) (EJ_lald (p0 := 155) (p1 := 159) (p2 := 166) (EJ_getR (t := 8) (c := 7) (kf := 2) (r := (RX7, TX7, 11)) (p0 := 155) (p1 := 156) (EJ_aload_n (j := 0) (i := 0) (pc := 155) D_Search_opens_155 rfl) D_Search_opens_156 ⟨rfl, rfl, by decide, q_230⟩ (fun _ _ => rfl)) (EJ_iadd (p0 := 159) (p1 := 163) (p2 := 165) (EJ_getI (t := 4) (c := 3) (kf := 4) (r := (RX3, TX3, 11)) (p0 := 159) (p1 := 160) (EJ_aload_n (j := 1) (i := 1) (pc := 159) D_Search_opens_159 rfl) D_Search_opens_160 ⟨rfl, rfl, by decide, q_803⟩ (fun _ _ => rfl)) (EJ_iload (i := 5) (pc := 163) D_Search_opens_163) D_Search_opens_165) D_Search_opens_166) D_Search_opens_167)
 (SJ_sq (p0 := 169) (p1 := 176) (nN := 0) (nB := 0) (nC := 0) (SJ_istore (i := 11) (p0 := 169) (p1 := 174) (EJ_callS (p0 := 169) (p1 := 171) (AJ_J (p0 := 169) (p1 := 171) (p2 := 171) (EJ_lload (i := 9) (pc := 169) D_Search_opens_169) AJ_nil) m_Rows_size E1_I D_Search_opens_171 q_859 q_504 q_104 ⟨by decide +kernel, by decide +kernel, by decide +kernel⟩ (by decide) (show 1 + 1 ≤ 2 from by decide) (fun _ h => absurd h List.not_mem_nil)) D_Search_opens_174)
 (SJ_sq (p0 := 176) (p1 := 183) (nN := 0) (nB := 0) (nC := 0) (SJ_istore (i := 12) (p0 := 176) (p1 := 181) (EJ_callS (p0 := 176) (p1 := 178) (AJ_J (p0 := 176) (p1 := 178) (p2 := 178) (EJ_lload (i := 7) (pc := 176) D_Search_opens_176) AJ_nil) m_Rows_size E1_I D_Search_opens_178 q_859 q_504 q_104 ⟨by decide +kernel, by decide +kernel, by decide +kernel⟩ (by decide) (show 1 + 1 ≤ 2 from by decide) (fun _ h => absurd h List.not_mem_nil)) D_Search_opens_181)
 (SJ_ret (p0 := 183) (p1 := 211) (EJ_if (p0 := 183) (pT := 206) (pF := 210) (pE := 207) (p1 := 211) (CJ_and (p0 := 183) (pM := 190) (pT := 206) (pF := 210) (CJ_le' (off := 23) (tgt := 210) (p0 := 183) (p1 := 185) (p2 := 187) (EJ_iload (i := 12) (pc := 183) D_Search_opens_183) (EJ_iload (i := 11) (pc := 185) D_Search_opens_185) D_Search_opens_187 rfl) (CL_eq' (off := 7) (tgt := 210) (p0 := 190) (p1 := 200) (p2 := 202) (EJ_callS (p0 := 190) (p1 := 197) (AJ_J (p0 := 190) (p1 := 192) (p2 := 197) (EJ_lload (i := 9) (pc := 190) D_Search_opens_190) (AJ_I (p0 := 192) (p1 := 194) (p2 := 197) (EJ_iload (i := 11) (pc := 192) D_Search_opens_192) (AJ_I (p0 := 194) (p1 := 195) (p2 := 197) (EJ_iconst (n := 0) (v := (nI 0)) (pc := 194) D_Search_opens_194 (by decide +kernel)) (AJ_I (p0 := 195) (p1 := 197) (p2 := 197) (EJ_iload (i := 12) (pc := 195) D_Search_opens_195) AJ_nil)))) m_Rows_part E1_J D_Search_opens_197 q_860 q_742 q_104 ⟨by decide +kernel, by decide +kernel, by decide +kernel⟩ (by decide) (show 1 + 1 ≤ 2 from by decide) (fun _ h => absurd h List.not_mem_nil)) (EJ_lload (i := 7) (pc := 200) D_Search_opens_200) D_Search_opens_202 D_Search_opens_203 rfl)) (EJ_iconst (n := 1) (v := (nI 1)) (pc := 206) D_Search_opens_206 (by decide +kernel)) (Lead.goto (K := K_Search_opens) (pc := 207) (tgt := 211) D_Search_opens_207 rfl) (EJ_iconst (n := 0) (v := (nI 0)) (pc := 210) D_Search_opens_210 (by decide +kernel))) D_Search_opens_211))))))))))
 RTm_bool q_858 (by decide +kernel) rfl (fun h => by cases h) (show 13 ≤ 40 from by decide) (fun _ => trivial)
theorem D_Search_ask_0 : decode cX7_ask 0 = .ok (.aload_n 0, 1) := by decide +kernel
theorem D_Search_ask_1 : decode cX7_ask 1 = .ok (.getfield 43, 3) := by decide +kernel
theorem D_Search_ask_4 : decode cX7_ask 4 = .ok (.sipush (500), 3) := by decide +kernel
theorem D_Search_ask_7 : decode cX7_ask 7 = .ok (.if_icmp .eq (13), 3) := by decide +kernel
theorem D_Search_ask_10 : decode cX7_ask 10 = .ok (.aload_n 0, 1) := by decide +kernel
theorem D_Search_ask_11 : decode cX7_ask 11 = .ok (.getfield 55, 3) := by decide +kernel
theorem D_Search_ask_14 : decode cX7_ask 14 = .ok (.sipush (500), 3) := by decide +kernel
theorem D_Search_ask_17 : decode cX7_ask 17 = .ok (.if_icmp .ne (10), 3) := by decide +kernel
theorem D_Search_ask_20 : decode cX7_ask 20 = .ok (.aload_n 0, 1) := by decide +kernel
theorem D_Search_ask_21 : decode cX7_ask 21 = .ok (.iconst (1), 1) := by decide +kernel
theorem D_Search_ask_22 : decode cX7_ask 22 = .ok (.putfield 39, 3) := by decide +kernel
theorem D_Search_ask_25 : decode cX7_ask 25 = .ok (.iconst (0), 1) := by decide +kernel
theorem D_Search_ask_26 : decode cX7_ask 26 = .ok (.ireturn, 1) := by decide +kernel
theorem D_Search_ask_27 : decode cX7_ask 27 = .ok (.aload_n 0, 1) := by decide +kernel
theorem D_Search_ask_28 : decode cX7_ask 28 = .ok (.dup, 1) := by decide +kernel
theorem D_Search_ask_29 : decode cX7_ask 29 = .ok (.getfield 43, 3) := by decide +kernel
theorem D_Search_ask_32 : decode cX7_ask 32 = .ok (.iconst (1), 1) := by decide +kernel
theorem D_Search_ask_33 : decode cX7_ask 33 = .ok (.iadd, 1) := by decide +kernel
theorem D_Search_ask_34 : decode cX7_ask 34 = .ok (.putfield 43, 3) := by decide +kernel
theorem D_Search_ask_37 : decode cX7_ask 37 = .ok (.aload_n 0, 1) := by decide +kernel
theorem D_Search_ask_38 : decode cX7_ask 38 = .ok (.aload_n 0, 1) := by decide +kernel
theorem D_Search_ask_39 : decode cX7_ask 39 = .ok (.getfield 52, 3) := by decide +kernel
theorem D_Search_ask_42 : decode cX7_ask 42 = .ok (.iload_n 1, 1) := by decide +kernel
theorem D_Search_ask_43 : decode cX7_ask 43 = .ok (.invokestatic 81, 3) := by decide +kernel
theorem D_Search_ask_46 : decode cX7_ask 46 = .ok (.putfield 52, 3) := by decide +kernel
theorem D_Search_ask_49 : decode cX7_ask 49 = .ok (.iload_n 1, 1) := by decide +kernel
theorem D_Search_ask_50 : decode cX7_ask 50 = .ok (.aload_n 0, 1) := by decide +kernel
theorem D_Search_ask_51 : decode cX7_ask 51 = .ok (.getfield 35, 3) := by decide +kernel
theorem D_Search_ask_54 : decode cX7_ask 54 = .ok (.if_icmp .lt (15), 3) := by decide +kernel
theorem D_Search_ask_57 : decode cX7_ask 57 = .ok (.aload_n 0, 1) := by decide +kernel
theorem D_Search_ask_58 : decode cX7_ask 58 = .ok (.dup, 1) := by decide +kernel
theorem D_Search_ask_59 : decode cX7_ask 59 = .ok (.getfield 49, 3) := by decide +kernel
theorem D_Search_ask_62 : decode cX7_ask 62 = .ok (.iconst (1), 1) := by decide +kernel
theorem D_Search_ask_63 : decode cX7_ask 63 = .ok (.iadd, 1) := by decide +kernel
theorem D_Search_ask_64 : decode cX7_ask 64 = .ok (.putfield 49, 3) := by decide +kernel
theorem D_Search_ask_67 : decode cX7_ask 67 = .ok (.iconst (0), 1) := by decide +kernel
theorem D_Search_ask_68 : decode cX7_ask 68 = .ok (.ireturn, 1) := by decide +kernel
theorem D_Search_ask_69 : decode cX7_ask 69 = .ok (.aload_n 0, 1) := by decide +kernel
theorem D_Search_ask_70 : decode cX7_ask 70 = .ok (.iload_n 1, 1) := by decide +kernel
theorem D_Search_ask_71 : decode cX7_ask 71 = .ok (.lload_n 2, 1) := by decide +kernel
theorem D_Search_ask_72 : decode cX7_ask 72 = .ok (.iload 4, 2) := by decide +kernel
theorem D_Search_ask_74 : decode cX7_ask 74 = .ok (.iload 5, 2) := by decide +kernel
theorem D_Search_ask_76 : decode cX7_ask 76 = .ok (.iload 6, 2) := by decide +kernel
theorem D_Search_ask_78 : decode cX7_ask 78 = .ok (.invokevirtual 84, 3) := by decide +kernel
theorem D_Search_ask_81 : decode cX7_ask 81 = .ok (.astore 7, 2) := by decide +kernel
theorem D_Search_ask_83 : decode cX7_ask 83 = .ok (.aload_n 0, 1) := by decide +kernel
theorem D_Search_ask_84 : decode cX7_ask 84 = .ok (.getfield 25, 3) := by decide +kernel
theorem D_Search_ask_87 : decode cX7_ask 87 = .ok (.iload_n 1, 1) := by decide +kernel
theorem D_Search_ask_88 : decode cX7_ask 88 = .ok (.aaload, 1) := by decide +kernel
theorem D_Search_ask_89 : decode cX7_ask 89 = .ok (.astore 8, 2) := by decide +kernel
theorem D_Search_ask_91 : decode cX7_ask 91 = .ok (.aload 8, 2) := by decide +kernel
theorem D_Search_ask_93 : decode cX7_ask 93 = .ok (.aload_n 0, 1) := by decide +kernel
theorem D_Search_ask_94 : decode cX7_ask 94 = .ok (.getfield 21, 3) := by decide +kernel
theorem D_Search_ask_97 : decode cX7_ask 97 = .ok (.getfield 88, 3) := by decide +kernel
theorem D_Search_ask_100 : decode cX7_ask 100 = .ok (.lload_n 2, 1) := by decide +kernel
theorem D_Search_ask_101 : decode cX7_ask 101 = .ok (.invokevirtual 94, 3) := by decide +kernel
theorem D_Search_ask_104 : decode cX7_ask 104 = .ok (.iconst (0), 1) := by decide +kernel
theorem D_Search_ask_105 : decode cX7_ask 105 = .ok (.istore 9, 2) := by decide +kernel
theorem D_Search_ask_107 : decode cX7_ask 107 = .ok (.iconst (0), 1) := by decide +kernel
theorem D_Search_ask_108 : decode cX7_ask 108 = .ok (.istore 10, 2) := by decide +kernel
theorem D_Search_ask_110 : decode cX7_ask 110 = .ok (.iload 10, 2) := by decide +kernel
theorem D_Search_ask_112 : decode cX7_ask 112 = .ok (.aload_n 0, 1) := by decide +kernel
theorem D_Search_ask_113 : decode cX7_ask 113 = .ok (.getfield 21, 3) := by decide +kernel
theorem D_Search_ask_116 : decode cX7_ask 116 = .ok (.getfield 100, 3) := by decide +kernel
theorem D_Search_ask_119 : decode cX7_ask 119 = .ok (.arraylength, 1) := by decide +kernel
theorem D_Search_ask_120 : decode cX7_ask 120 = .ok (.if_icmp .ge (96), 3) := by decide +kernel
theorem D_Search_ask_123 : decode cX7_ask 123 = .ok (.aload_n 0, 1) := by decide +kernel
theorem D_Search_ask_124 : decode cX7_ask 124 = .ok (.getfield 39, 3) := by decide +kernel
theorem D_Search_ask_127 : decode cX7_ask 127 = .ok (.ifCond .ne (89), 3) := by decide +kernel
theorem D_Search_ask_130 : decode cX7_ask 130 = .ok (.aload_n 0, 1) := by decide +kernel
theorem D_Search_ask_131 : decode cX7_ask 131 = .ok (.getfield 21, 3) := by decide +kernel
theorem D_Search_ask_134 : decode cX7_ask 134 = .ok (.getfield 100, 3) := by decide +kernel
theorem D_Search_ask_137 : decode cX7_ask 137 = .ok (.iload 10, 2) := by decide +kernel
theorem D_Search_ask_139 : decode cX7_ask 139 = .ok (.aaload, 1) := by decide +kernel
theorem D_Search_ask_140 : decode cX7_ask 140 = .ok (.astore 11, 2) := by decide +kernel
theorem D_Search_ask_142 : decode cX7_ask 142 = .ok (.aload 7, 2) := by decide +kernel
theorem D_Search_ask_144 : decode cX7_ask 144 = .ok (.iload 10, 2) := by decide +kernel
theorem D_Search_ask_146 : decode cX7_ask 146 = .ok (.putfield 104, 3) := by decide +kernel
theorem D_Search_ask_149 : decode cX7_ask 149 = .ok (.aload 8, 2) := by decide +kernel
theorem D_Search_ask_151 : decode cX7_ask 151 = .ok (.aload 11, 2) := by decide +kernel
theorem D_Search_ask_153 : decode cX7_ask 153 = .ok (.invokevirtual 107, 3) := by decide +kernel
theorem D_Search_ask_156 : decode cX7_ask 156 = .ok (.iconst (0), 1) := by decide +kernel
theorem D_Search_ask_157 : decode cX7_ask 157 = .ok (.istore 12, 2) := by decide +kernel
theorem D_Search_ask_159 : decode cX7_ask 159 = .ok (.aload_n 0, 1) := by decide +kernel
theorem D_Search_ask_160 : decode cX7_ask 160 = .ok (.getfield 39, 3) := by decide +kernel
theorem D_Search_ask_163 : decode cX7_ask 163 = .ok (.ifCond .ne (47), 3) := by decide +kernel
theorem D_Search_ask_166 : decode cX7_ask 166 = .ok (.iload 12, 2) := by decide +kernel
theorem D_Search_ask_168 : decode cX7_ask 168 = .ok (.ldc 111, 2) := by decide +kernel
theorem D_Search_ask_170 : decode cX7_ask 170 = .ok (.if_icmp .ge (40), 3) := by decide +kernel
theorem D_Search_ask_173 : decode cX7_ask 173 = .ok (.aload 8, 2) := by decide +kernel
theorem D_Search_ask_175 : decode cX7_ask 175 = .ok (.invokevirtual 112, 3) := by decide +kernel
theorem D_Search_ask_178 : decode cX7_ask 178 = .ok (.ifCond .eq (32), 3) := by decide +kernel
theorem D_Search_ask_181 : decode cX7_ask 181 = .ok (.iconst (1), 1) := by decide +kernel
theorem D_Search_ask_182 : decode cX7_ask 182 = .ok (.istore 9, 2) := by decide +kernel
theorem D_Search_ask_184 : decode cX7_ask 184 = .ok (.aload 7, 2) := by decide +kernel
theorem D_Search_ask_186 : decode cX7_ask 186 = .ok (.iload 12, 2) := by decide +kernel
theorem D_Search_ask_188 : decode cX7_ask 188 = .ok (.putfield 116, 3) := by decide +kernel
theorem D_Search_ask_191 : decode cX7_ask 191 = .ok (.aload_n 0, 1) := by decide +kernel
theorem D_Search_ask_192 : decode cX7_ask 192 = .ok (.aload 7, 2) := by decide +kernel
theorem D_Search_ask_194 : decode cX7_ask 194 = .ok (.aload 11, 2) := by decide +kernel
theorem D_Search_ask_196 : decode cX7_ask 196 = .ok (.invokevirtual 119, 3) := by decide +kernel
theorem D_Search_ask_199 : decode cX7_ask 199 = .ok (.ifCond .eq (5), 3) := by decide +kernel
theorem D_Search_ask_202 : decode cX7_ask 202 = .ok (.iconst (1), 1) := by decide +kernel
theorem D_Search_ask_203 : decode cX7_ask 203 = .ok (.ireturn, 1) := by decide +kernel
theorem D_Search_ask_204 : decode cX7_ask 204 = .ok (.iinc 12 (1), 3) := by decide +kernel
theorem D_Search_ask_207 : decode cX7_ask 207 = .ok (.goto (-48), 3) := by decide +kernel
theorem D_Search_ask_210 : decode cX7_ask 210 = .ok (.iinc 10 (1), 3) := by decide +kernel
theorem D_Search_ask_213 : decode cX7_ask 213 = .ok (.goto (-103), 3) := by decide +kernel
theorem D_Search_ask_216 : decode cX7_ask 216 = .ok (.aload_n 0, 1) := by decide +kernel
theorem D_Search_ask_217 : decode cX7_ask 217 = .ok (.dup, 1) := by decide +kernel
theorem D_Search_ask_218 : decode cX7_ask 218 = .ok (.getfield 46, 3) := by decide +kernel
theorem D_Search_ask_221 : decode cX7_ask 221 = .ok (.iload 9, 2) := by decide +kernel
theorem D_Search_ask_223 : decode cX7_ask 223 = .ok (.ifCond .eq (7), 3) := by decide +kernel
theorem D_Search_ask_226 : decode cX7_ask 226 = .ok (.iconst (0), 1) := by decide +kernel
theorem D_Search_ask_227 : decode cX7_ask 227 = .ok (.goto (4), 3) := by decide +kernel
theorem D_Search_ask_230 : decode cX7_ask 230 = .ok (.iconst (1), 1) := by decide +kernel
theorem D_Search_ask_231 : decode cX7_ask 231 = .ok (.iadd, 1) := by decide +kernel
theorem D_Search_ask_232 : decode cX7_ask 232 = .ok (.putfield 46, 3) := by decide +kernel
theorem D_Search_ask_235 : decode cX7_ask 235 = .ok (.aload_n 0, 1) := by decide +kernel
theorem D_Search_ask_236 : decode cX7_ask 236 = .ok (.aload 7, 2) := by decide +kernel
theorem D_Search_ask_238 : decode cX7_ask 238 = .ok (.getfield 123, 3) := by decide +kernel
theorem D_Search_ask_241 : decode cX7_ask 241 = .ok (.putfield 55, 3) := by decide +kernel
theorem D_Search_ask_244 : decode cX7_ask 244 = .ok (.iconst (0), 1) := by decide +kernel
theorem D_Search_ask_245 : decode cX7_ask 245 = .ok (.ireturn, 1) := by decide +kernel
def K_Search_ask (n : Nat) : SC := (cX7_ask, "TwoLevels$Search", 13, 4 + n + 1, false, [3, 4, 8, 43, 44, 45, 46, 47, 48, 49, 51], NoQ)
def b_Search_ask (R : Nat → MD Int32) : MD Int32 := mth zz 13 (sq (sIf (cOr (eh2 c_eq (eh1 (gI 8 5) (lR 0)) (eC (nI 500))) (eh2 c_eq (eh1 (gI 8 10) (lR 0)) (eC (nI 500)))) (sq (sh2 (pI true 8 4) (lR 0) (eC (nI 1)))
 (rtn (eC (nI 0)))) sk)
 (sq (su2 (gI 8 5) (uF false 8 5 (fun x y => x + y)) (lR 0) (eC (nI 1)))
 (sq (sh2 (pI false 8 8) (lR 0) (kS d_Math_max [vI (eh1 (gI 8 8) (lR 0)), vI (lI 1)]))
 (sq (sIf (eh2 c_ge (lI 1) (eh1 (gI 8 1) (lR 0))) (sq (su2 (gI 8 7) (uF false 8 7 (fun x y => x + y)) (lR 0) (eC (nI 1)))
 (rtn (eC (nI 0)))) sk)
 (sq (sR1 7 (kV 8 d_Search_openNode (lR 0) [vI (lI 1), vJ (lJ 2), vI (lI 4), vI (lI 5), vI (lI 6)]))
 (sq (sR1 8 (eh2 (aR (.object "TwoLevels$Fit")) (eh1 (gR 8 3) (lR 0)) (lI 1)))
 (sq (sE (kV 3 d_Fit_load (lR 8) [vR (eh1 (gR 10 0) (eh1 (gR 8 0) (lR 0))), vJ (lJ 2)]))
 (sq (sI1 9 (eC (nI 0)))
 (sq (sq (sI1 10 (eC (nI 0)))
 (loop (cAnd (eh2 c_lt (lI 10) (eh1 aL (eh1 (gR 10 1) (eh1 (gR 8 0) (lR 0))))) (cNot (eh1 z_ne (eh1 (gI 8 4) (lR 0)))))
 (sq (sR1 11 (eh2 (aR (.object "TwoLevels$Rule")) (eh1 (gR 10 1) (eh1 (gR 8 0) (lR 0))) (lI 10)))
 (sq (sh2 (pI false 4 6) (lR 7) (lI 10))
 (sq (sE (kV 3 d_Fit_begin (lR 8) [vR (lR 11)]))
 (sq (sI1 12 (eC (nI 0)))
 (loop (cAnd (cAnd (cNot (eh1 z_ne (eh1 (gI 8 4) (lR 0)))) (eh2 c_lt (lI 12) (eC (nI 1000000)))) (eh1 z_ne (kV 3 d_Fit_next (lR 8) [])))
 (sq (sI1 9 (eC (nI 1)))
 (sq (sh2 (pI false 4 7) (lR 7) (lI 12))
 (sIf (eh1 z_ne (kV 8 (R 1) (lR 0) [vR (lR 7), vR (lR 11)])) (rtn (eC (nI 1))) sk)))
 (sInc 12 (nI 1)))))))
 (sInc 10 (nI 1))))
 (sq (su2 (gI 8 6) (uF false 8 6 (fun x y => x + y)) (lR 0) (eIf (eh1 z_ne (lI 9)) (eC (nI 0)) (eC (nI 1))))
 (sq (sh2 (pI false 8 10) (lR 0) (eh1 (gI 4 0) (lR 7)))
 (rtn (eC (nI 0))))))))))))))
theorem s_Search_ask (n : Nat) (R : Nat → MD Int32) (h1 : MJ (4 + n) [3, 4, 8, 43, 44, 45, 46, 47, 48, 49, 51] yX7_triesChoices (some .boolean) eI (R 1)) : MJ (4 + n + 1) [3, 4, 8, 43, 44, 45, 46, 47, 48, 49, 51] yX7_ask (some .boolean) eI (b_Search_ask R) := MJ_of (K := K_Search_ask n) (ri := .ireturn) (n1 := 0) (n2 := 0) (n3 := 0)
 (SJ_sq (p0 := 0) (p1 := 27) (nN := 0) (nB := 0) (nC := 0) (SJ_if (p0 := 0) (pT := 20) (pF := 27) (nN := 27) (nB := 0) (nC := 0) (CJ_or (p0 := 0) (pM := 10) (pT := 20) (pF := 27) (CJ_eq (off := 13) (tgt := 20) (p0 := 0) (p1 := 4) (p2 := 7) (EJ_getI (t := 8) (c := 7) (kf := 5) (r := (RX7, TX7, 11)) (p0 := 0) (p1 := 1) (EJ_aload_n (j := 0) (i := 0) (pc := 0) D_Search_ask_0 rfl) D_Search_ask_1 ⟨rfl, rfl, by decide, q_233⟩ (fun _ _ => rfl)) (EJ_sipush (n := 500) (v := (nI 500)) (pc := 4) D_Search_ask_4 (by decide +kernel)) D_Search_ask_7 rfl) (CJ_eq' (off := 10) (tgt := 27) (p0 := 10) (p1 := 14) (p2 := 17) (EJ_getI (t := 8) (c := 7) (kf := 10) (r := (RX7, TX7, 11)) (p0 := 10) (p1 := 11) (EJ_aload_n (j := 0) (i := 0) (pc := 10) D_Search_ask_10 rfl) D_Search_ask_11 ⟨rfl, rfl, by decide, q_242⟩ (fun _ _ => rfl)) (EJ_sipush (n := 500) (v := (nI 500)) (pc := 14) D_Search_ask_14 (by decide +kernel)) D_Search_ask_17 rfl)) (SJ_sq (p0 := 20) (p1 := 25) (nN := 27) (nB := 0) (nC := 0) (SJ_putI (z := true) (t := 8) (c := 7) (kf := 4) (r := (RX7, TX7, 11)) (p0 := 20) (p1 := 21) (p2 := 22) (EJ_aload_n (j := 0) (i := 0) (pc := 20) D_Search_ask_20 rfl) (EJ_iconst (n := 1) (v := (nI 1)) (pc := 21) D_Search_ask_21 (by decide +kernel)) D_Search_ask_22 ⟨rfl, rfl, by decide, q_232⟩ (Or.inl rfl) (okZ_bool rfl) (fun _ _ => rfl) (show (8 : Nat) ∈ ([3, 4, 8, 43, 44, 45, 46, 47, 48, 49, 51] : List Nat) from by decide))
 (SJ_ret (p0 := 25) (p1 := 26) (EJ_iconst (n := 0) (v := (nI 0)) (pc := 25) D_Search_ask_25 (by decide +kernel)) D_Search_ask_26)) SJ_sk)
 (SJ_sq (p0 := 27) (p1 := 37) (nN := 0) (nB := 0) (nC := 0) (SJ_upF (z := false) (t := 8) (c := 7) (kf := 5) (r := (RX7, TX7, 11)) (f := (fun x y => x + y)) (p0 := 27) (p1 := 28) (p3 := 33) (EJ_aload_n (j := 0) (i := 0) (pc := 27) D_Search_ask_27 rfl) D_Search_ask_28 D_Search_ask_29 (EJ_iconst (n := 1) (v := (nI 1)) (pc := 32) D_Search_ask_32 (by decide +kernel)) (Op2_iadd D_Search_ask_33) D_Search_ask_34 ⟨rfl, rfl, by decide, q_233⟩ ⟨rfl, rfl, by decide, q_233⟩ (Or.inl rfl) (fun _ _ => ⟨rfl, rfl⟩) (fun _ _ => rfl) (show (8 : Nat) ∈ ([3, 4, 8, 43, 44, 45, 46, 47, 48, 49, 51] : List Nat) from by decide))
 (SJ_sq (p0 := 37) (p1 := 49) (nN := 0) (nB := 0) (nC := 0) (SJ_putI (z := false) (t := 8) (c := 7) (kf := 8) (r := (RX7, TX7, 11)) (p0 := 37) (p1 := 38) (p2 := 46) (EJ_aload_n (j := 0) (i := 0) (pc := 37) D_Search_ask_37 rfl) (EJ_callS (p0 := 38) (p1 := 43) (AJ_I (p0 := 38) (p1 := 42) (p2 := 43) (EJ_getI (t := 8) (c := 7) (kf := 8) (r := (RX7, TX7, 11)) (p0 := 38) (p1 := 39) (EJ_aload_n (j := 0) (i := 0) (pc := 38) D_Search_ask_38 rfl) D_Search_ask_39 ⟨rfl, rfl, by decide, q_239⟩ (fun _ _ => rfl)) (AJ_I (p0 := 42) (p1 := 43) (p2 := 43) (EJ_iload_n (j := 1) (i := 1) (pc := 42) D_Search_ask_42 rfl) AJ_nil)) m_Math_max E1_I D_Search_ask_43 q_784 q_785 q_98 ⟨by decide +kernel, by decide +kernel, by decide +kernel⟩ (by decide) (show 1 + 1 ≤ 4 + n + 1 from by omega) (fun _ h => absurd h List.not_mem_nil)) D_Search_ask_46 ⟨rfl, rfl, by decide, q_239⟩ (Or.inl rfl) (fun _ _ => ⟨rfl, rfl⟩) (fun _ _ => rfl) (show (8 : Nat) ∈ ([3, 4, 8, 43, 44, 45, 46, 47, 48, 49, 51] : List Nat) from by decide))
 (SJ_sq (p0 := 49) (p1 := 69) (nN := 0) (nB := 0) (nC := 0) (SJ_if (p0 := 49) (pT := 57) (pF := 69) (nN := 69) (nB := 0) (nC := 0) (CJ_ge' (off := 15) (tgt := 69) (p0 := 49) (p1 := 50) (p2 := 54) (EJ_iload_n (j := 1) (i := 1) (pc := 49) D_Search_ask_49 rfl) (EJ_getI (t := 8) (c := 7) (kf := 1) (r := (RX7, TX7, 11)) (p0 := 50) (p1 := 51) (EJ_aload_n (j := 0) (i := 0) (pc := 50) D_Search_ask_50 rfl) D_Search_ask_51 ⟨rfl, rfl, by decide, q_229⟩ (fun _ _ => rfl)) D_Search_ask_54 rfl) (SJ_sq (p0 := 57) (p1 := 67) (nN := 69) (nB := 0) (nC := 0) (SJ_upF (z := false) (t := 8) (c := 7) (kf := 7) (r := (RX7, TX7, 11)) (f := (fun x y => x + y)) (p0 := 57) (p1 := 58) (p3 := 63) (EJ_aload_n (j := 0) (i := 0) (pc := 57) D_Search_ask_57 rfl) D_Search_ask_58 D_Search_ask_59 (EJ_iconst (n := 1) (v := (nI 1)) (pc := 62) D_Search_ask_62 (by decide +kernel)) (Op2_iadd D_Search_ask_63) D_Search_ask_64 ⟨rfl, rfl, by decide, q_237⟩ ⟨rfl, rfl, by decide, q_237⟩ (Or.inl rfl) (fun _ _ => ⟨rfl, rfl⟩) (fun _ _ => rfl) (show (8 : Nat) ∈ ([3, 4, 8, 43, 44, 45, 46, 47, 48, 49, 51] : List Nat) from by decide))
 (SJ_ret (p0 := 67) (p1 := 68) (EJ_iconst (n := 0) (v := (nI 0)) (pc := 67) D_Search_ask_67 (by decide +kernel)) D_Search_ask_68)) SJ_sk)
 (SJ_sq (p0 := 69) (p1 := 83) (nN := 0) (nB := 0) (nC := 0) (SJ_astore (i := 7) (p0 := 69) (p1 := 81) (EJ_callV (t := 8) (c := 7) (r := (RX7, TX7, 11)) (p0 := 69) (p1 := 70) (p2 := 78) (EJ_aload_n (j := 0) (i := 0) (pc := 69) D_Search_ask_69 rfl) (AJ_I (p0 := 70) (p1 := 71) (p2 := 78) (EJ_iload_n (j := 1) (i := 1) (pc := 70) D_Search_ask_70 rfl) (AJ_J (p0 := 71) (p1 := 72) (p2 := 78) (EJ_lload_n (j := 2) (i := 2) (pc := 71) D_Search_ask_71 rfl) (AJ_I (p0 := 72) (p1 := 74) (p2 := 78) (EJ_iload (i := 4) (pc := 72) D_Search_ask_72) (AJ_I (p0 := 74) (p1 := 76) (p2 := 78) (EJ_iload (i := 5) (pc := 74) D_Search_ask_74) (AJ_I (p0 := 76) (p1 := 78) (p2 := 78) (EJ_iload (i := 6) (pc := 76) D_Search_ask_76) AJ_nil))))) m_Search_openNode E1_R D_Search_ask_78 rfl rfl rfl q_787 q_788 q_25 q_96 ⟨by decide +kernel, by decide +kernel, by decide +kernel⟩ (by decide) (show 2 + 1 ≤ 4 + n + 1 from by omega) (show ∀ x_ ∈ ([4, 8, 51] : List Nat), x_ ∈ ([3, 4, 8, 43, 44, 45, 46, 47, 48, 49, 51] : List Nat) from by decide)) D_Search_ask_81)
 (SJ_sq (p0 := 83) (p1 := 91) (nN := 0) (nB := 0) (nC := 0) (SJ_astore (i := 8) (p0 := 83) (p1 := 89) (EJ_aald (p0 := 83) (p1 := 87) (p2 := 88) (EJ_getR (t := 8) (c := 7) (kf := 3) (r := (RX7, TX7, 11)) (p0 := 83) (p1 := 84) (EJ_aload_n (j := 0) (i := 0) (pc := 83) D_Search_ask_83 rfl) D_Search_ask_84 ⟨rfl, rfl, by decide, q_231⟩ (fun _ _ => rfl)) (EJ_iload_n (j := 1) (i := 1) (pc := 87) D_Search_ask_87 rfl) D_Search_ask_88 (Or.inl ⟨_, rfl⟩)) D_Search_ask_89)
 (SJ_sq (p0 := 91) (p1 := 104) (nN := 0) (nB := 0) (nC := 0) (SJ_void (p0 := 91) (p1 := 104) (EJ_callV (t := 3) (c := 2) (r := (RX2, TX2, 12)) (p0 := 91) (p1 := 93) (p2 := 101) (EJ_aload (i := 8) (pc := 91) D_Search_ask_91) (AJ_R (p0 := 93) (p1 := 100) (p2 := 101) (EJ_getR (t := 10) (c := 9) (kf := 0) (r := (RX9, TX9, 4)) (p0 := 93) (p1 := 97) (EJ_getR (t := 8) (c := 7) (kf := 0) (r := (RX7, TX7, 11)) (p0 := 93) (p1 := 94) (EJ_aload_n (j := 0) (i := 0) (pc := 93) D_Search_ask_93 rfl) D_Search_ask_94 ⟨rfl, rfl, by decide, q_228⟩ (fun _ _ => rfl)) D_Search_ask_97 ⟨rfl, rfl, by decide, q_175⟩ (fun _ _ => rfl)) (AJ_J (p0 := 100) (p1 := 101) (p2 := 101) (EJ_lload_n (j := 2) (i := 2) (pc := 100) D_Search_ask_100 rfl) AJ_nil)) m_Fit_load E1_U D_Search_ask_101 rfl rfl rfl q_829 q_668 q_669 q_95 ⟨by decide +kernel, by decide +kernel, by decide +kernel⟩ (by decide) (show 2 + 1 ≤ 4 + n + 1 from by omega) (show ∀ x_ ∈ ([3, 43, 44, 46] : List Nat), x_ ∈ ([3, 4, 8, 43, 44, 45, 46, 47, 48, 49, 51] : List Nat) from by decide)))
 (SJ_sq (p0 := 104) (p1 := 107) (nN := 0) (nB := 0) (nC := 0) (SJ_istore (i := 9) (p0 := 104) (p1 := 105) (EJ_iconst (n := 0) (v := (nI 0)) (pc := 104) D_Search_ask_104 (by decide +kernel)) D_Search_ask_105)
 (SJ_sq (p0 := 107) (p1 := 216) (nN := 0) (nB := 0) (nC := 0) (SJ_sq (p0 := 107) (p1 := 110) (nN := 216) (nB := 0) (nC := 0) (SJ_istore (i := 10) (p0 := 107) (p1 := 108) (EJ_iconst (n := 0) (v := (nI 0)) (pc := 107) D_Search_ask_107 (by decide +kernel)) D_Search_ask_108)
 (SJ_loop (p0 := 110) (pB := 130) (pS := 210) (pE := 216) (CJ_and (p0 := 110) (pM := 123) (pT := 130) (pF := 216) (CJ_lt' (off := 96) (tgt := 216) (p0 := 110) (p1 := 112) (p2 := 120) (EJ_iload (i := 10) (pc := 110) D_Search_ask_110) (EJ_alen (p0 := 112) (p1 := 119) (EJ_getR (t := 10) (c := 9) (kf := 1) (r := (RX9, TX9, 4)) (p0 := 112) (p1 := 116) (EJ_getR (t := 8) (c := 7) (kf := 0) (r := (RX7, TX7, 11)) (p0 := 112) (p1 := 113) (EJ_aload_n (j := 0) (i := 0) (pc := 112) D_Search_ask_112 rfl) D_Search_ask_113 ⟨rfl, rfl, by decide, q_228⟩ (fun _ _ => rfl)) D_Search_ask_116 ⟨rfl, rfl, by decide, q_178⟩ (fun _ _ => rfl)) D_Search_ask_119) D_Search_ask_120 rfl) (CJ_not (p0 := 123) (pT := 130) (pF := 216) (CZ_ne (off := 89) (tgt := 216) (p0 := 123) (p1 := 127) (EJ_getI (t := 8) (c := 7) (kf := 4) (r := (RX7, TX7, 11)) (p0 := 123) (p1 := 124) (EJ_aload_n (j := 0) (i := 0) (pc := 123) D_Search_ask_123 rfl) D_Search_ask_124 ⟨rfl, rfl, by decide, q_232⟩ (fun _ _ => rfl)) D_Search_ask_127 rfl)))
 (SJ_sq (p0 := 130) (p1 := 142) (nN := 210) (nB := 216) (nC := 210) (SJ_astore (i := 11) (p0 := 130) (p1 := 140) (EJ_aald (p0 := 130) (p1 := 137) (p2 := 139) (EJ_getR (t := 10) (c := 9) (kf := 1) (r := (RX9, TX9, 4)) (p0 := 130) (p1 := 134) (EJ_getR (t := 8) (c := 7) (kf := 0) (r := (RX7, TX7, 11)) (p0 := 130) (p1 := 131) (EJ_aload_n (j := 0) (i := 0) (pc := 130) D_Search_ask_130 rfl) D_Search_ask_131 ⟨rfl, rfl, by decide, q_228⟩ (fun _ _ => rfl)) D_Search_ask_134 ⟨rfl, rfl, by decide, q_178⟩ (fun _ _ => rfl)) (EJ_iload (i := 10) (pc := 137) D_Search_ask_137) D_Search_ask_139 (Or.inl ⟨_, rfl⟩)) D_Search_ask_140)
 (SJ_sq (p0 := 142) (p1 := 149) (nN := 210) (nB := 216) (nC := 210) (SJ_putI (z := false) (t := 4) (c := 3) (kf := 6) (r := (RX3, TX3, 11)) (p0 := 142) (p1 := 144) (p2 := 146) (EJ_aload (i := 7) (pc := 142) D_Search_ask_142) (EJ_iload (i := 10) (pc := 144) D_Search_ask_144) D_Search_ask_146 ⟨rfl, rfl, by decide, q_807⟩ (Or.inl rfl) (fun _ _ => ⟨rfl, rfl⟩) (fun _ _ => rfl) (show (4 : Nat) ∈ ([3, 4, 8, 43, 44, 45, 46, 47, 48, 49, 51] : List Nat) from by decide))
 (SJ_sq (p0 := 149) (p1 := 156) (nN := 210) (nB := 216) (nC := 210) (SJ_void (p0 := 149) (p1 := 156) (EJ_callV (t := 3) (c := 2) (r := (RX2, TX2, 12)) (p0 := 149) (p1 := 151) (p2 := 153) (EJ_aload (i := 8) (pc := 149) D_Search_ask_149) (AJ_R (p0 := 151) (p1 := 153) (p2 := 153) (EJ_aload (i := 11) (pc := 151) D_Search_ask_151) AJ_nil) m_Fit_begin E1_U D_Search_ask_153 rfl rfl rfl q_830 q_730 q_731 q_95 ⟨by decide +kernel, by decide +kernel, by decide +kernel⟩ (by decide) (show 4 + 1 ≤ 4 + n + 1 from by omega) (show ∀ x_ ∈ ([3, 43, 44, 46] : List Nat), x_ ∈ ([3, 4, 8, 43, 44, 45, 46, 47, 48, 49, 51] : List Nat) from by decide)))
 (SJ_sq (p0 := 156) (p1 := 159) (nN := 210) (nB := 216) (nC := 210) (SJ_istore (i := 12) (p0 := 156) (p1 := 157) (EJ_iconst (n := 0) (v := (nI 0)) (pc := 156) D_Search_ask_156 (by decide +kernel)) D_Search_ask_157)
 (SJ_loop (p0 := 159) (pB := 181) (pS := 204) (pE := 210) (CJ_and (p0 := 159) (pM := 173) (pT := 181) (pF := 210) (CJ_and (p0 := 159) (pM := 166) (pT := 173) (pF := 210) (CJ_not (p0 := 159) (pT := 166) (pF := 210) (CZ_ne (off := 47) (tgt := 210) (p0 := 159) (p1 := 163) (EJ_getI (t := 8) (c := 7) (kf := 4) (r := (RX7, TX7, 11)) (p0 := 159) (p1 := 160) (EJ_aload_n (j := 0) (i := 0) (pc := 159) D_Search_ask_159 rfl) D_Search_ask_160 ⟨rfl, rfl, by decide, q_232⟩ (fun _ _ => rfl)) D_Search_ask_163 rfl)) (CJ_lt' (off := 40) (tgt := 210) (p0 := 166) (p1 := 168) (p2 := 170) (EJ_iload (i := 12) (pc := 166) D_Search_ask_166) (EJ_ldc (i := 111) (v := (nI 1000000)) (pc := 168) D_Search_ask_168 q_831) D_Search_ask_170 rfl)) (CZ_ne' (off := 32) (tgt := 210) (p0 := 173) (p1 := 178) (EJ_callV (t := 3) (c := 2) (r := (RX2, TX2, 12)) (p0 := 173) (p1 := 175) (p2 := 175) (EJ_aload (i := 8) (pc := 173) D_Search_ask_173) AJ_nil m_Fit_next E1_I D_Search_ask_175 rfl rfl rfl q_832 q_735 q_736 q_95 ⟨by decide +kernel, by decide +kernel, by decide +kernel⟩ (by decide) (show 4 + 1 ≤ 4 + n + 1 from by omega) (show ∀ x_ ∈ ([3, 45, 46, 47, 48] : List Nat), x_ ∈ ([3, 4, 8, 43, 44, 45, 46, 47, 48, 49, 51] : List Nat) from by decide)) D_Search_ask_178 rfl))
 (SJ_sq (p0 := 181) (p1 := 184) (nN := 204) (nB := 210) (nC := 204) (SJ_istore (i := 9) (p0 := 181) (p1 := 182) (EJ_iconst (n := 1) (v := (nI 1)) (pc := 181) D_Search_ask_181 (by decide +kernel)) D_Search_ask_182)
 (SJ_sq (p0 := 184) (p1 := 191) (nN := 204) (nB := 210) (nC := 204) (SJ_putI (z := false) (t := 4) (c := 3) (kf := 7) (r := (RX3, TX3, 11)) (p0 := 184) (p1 := 186) (p2 := 188) (EJ_aload (i := 7) (pc := 184) D_Search_ask_184) (EJ_iload (i := 12) (pc := 186) D_Search_ask_186) D_Search_ask_188 ⟨rfl, rfl, by decide, q_809⟩ (Or.inl rfl) (fun _ _ => ⟨rfl, rfl⟩) (fun _ _ => rfl) (show (4 : Nat) ∈ ([3, 4, 8, 43, 44, 45, 46, 47, 48, 49, 51] : List Nat) from by decide))
 (SJ_if (p0 := 191) (pT := 202) (pF := 204) (nN := 204) (nB := 210) (nC := 204) (CZ_ne' (off := 5) (tgt := 204) (p0 := 191) (p1 := 199) (EJ_callV (t := 8) (c := 7) (r := (RX7, TX7, 11)) (p0 := 191) (p1 := 192) (p2 := 196) (EJ_aload_n (j := 0) (i := 0) (pc := 191) D_Search_ask_191 rfl) (AJ_R (p0 := 192) (p1 := 194) (p2 := 196) (EJ_aload (i := 7) (pc := 192) D_Search_ask_192) (AJ_R (p0 := 194) (p1 := 196) (p2 := 196) (EJ_aload (i := 11) (pc := 194) D_Search_ask_194) AJ_nil)) h1 E1_I D_Search_ask_196 rfl rfl rfl q_833 q_834 q_26 q_96 ⟨by decide +kernel, by decide +kernel, by decide +kernel⟩ (by decide) (Nat.le_refl _) (show ∀ x_ ∈ ([3, 4, 8, 43, 44, 45, 46, 47, 48, 49, 51] : List Nat), x_ ∈ ([3, 4, 8, 43, 44, 45, 46, 47, 48, 49, 51] : List Nat) from by decide)) D_Search_ask_199 rfl) (SJ_ret (p0 := 202) (p1 := 203) (EJ_iconst (n := 1) (v := (nI 1)) (pc := 202) D_Search_ask_202 (by decide +kernel)) D_Search_ask_203) SJ_sk)))
 (SJ_post (SJ_iinc (i := 12) (n := 1) (v := (nI 1)) (pc := 204) D_Search_ask_204 (by decide +kernel)) (Lead.goto (K := (K_Search_ask n)) (pc := 207) (tgt := 159) D_Search_ask_207 rfl)))))))
 (SJ_post (SJ_iinc (i := 10) (n := 1) (v := (nI 1)) (pc := 210) D_Search_ask_210 (by decide +kernel)) (Lead.goto (K := (K_Search_ask n)) (pc := 213) (tgt := 110) D_Search_ask_213 rfl))))
 (SJ_sq (p0 := 216) (p1 := 235) (nN := 0) (nB := 0) (nC := 0) (SJ_upF (z := false) (t := 8) (c := 7) (kf := 6) (r := (RX7, TX7, 11)) (f := (fun x y => x + y)) (p0 := 216) (p1 := 217) (p3 := 231) (EJ_aload_n (j := 0) (i := 0) (pc := 216) D_Search_ask_216 rfl) D_Search_ask_217 D_Search_ask_218 (EJ_if (p0 := 221) (pT := 226) (pF := 230) (pE := 227) (p1 := 231) (CZ_ne' (off := 7) (tgt := 230) (p0 := 221) (p1 := 223) (EJ_iload (i := 9) (pc := 221) D_Search_ask_221) D_Search_ask_223 rfl) (EJ_iconst (n := 0) (v := (nI 0)) (pc := 226) D_Search_ask_226 (by decide +kernel)) (Lead.goto (K := (K_Search_ask n)) (pc := 227) (tgt := 231) D_Search_ask_227 rfl) (EJ_iconst (n := 1) (v := (nI 1)) (pc := 230) D_Search_ask_230 (by decide +kernel))) (Op2_iadd D_Search_ask_231) D_Search_ask_232 ⟨rfl, rfl, by decide, q_235⟩ ⟨rfl, rfl, by decide, q_235⟩ (Or.inl rfl) (fun _ _ => ⟨rfl, rfl⟩) (fun _ _ => rfl) (show (8 : Nat) ∈ ([3, 4, 8, 43, 44, 45, 46, 47, 48, 49, 51] : List Nat) from by decide))
 (SJ_sq (p0 := 235) (p1 := 244) (nN := 0) (nB := 0) (nC := 0) (SJ_putI (z := false) (t := 8) (c := 7) (kf := 10) (r := (RX7, TX7, 11)) (p0 := 235) (p1 := 236) (p2 := 241) (EJ_aload_n (j := 0) (i := 0) (pc := 235) D_Search_ask_235 rfl) (EJ_getI (t := 4) (c := 3) (kf := 0) (r := (RX3, TX3, 11)) (p0 := 236) (p1 := 238) (EJ_aload (i := 7) (pc := 236) D_Search_ask_236) D_Search_ask_238 ⟨rfl, rfl, by decide, q_796⟩ (fun _ _ => rfl)) D_Search_ask_241 ⟨rfl, rfl, by decide, q_242⟩ (Or.inl rfl) (fun _ _ => ⟨rfl, rfl⟩) (fun _ _ => rfl) (show (8 : Nat) ∈ ([3, 4, 8, 43, 44, 45, 46, 47, 48, 49, 51] : List Nat) from by decide))
 (SJ_ret (p0 := 244) (p1 := 245) (EJ_iconst (n := 0) (v := (nI 0)) (pc := 244) D_Search_ask_244 (by decide +kernel)) D_Search_ask_245))))))))))))
 RTm_bool q_783 (by decide +kernel) rfl (fun h => by cases h) (show 13 ≤ 40 from by decide) (fun _ => trivial)
theorem D_Search_triesChoices_0 : decode cX7_triesChoices 0 = .ok (.iconst (0), 1) := by decide +kernel
theorem D_Search_triesChoices_1 : decode cX7_triesChoices 1 = .ok (.istore_n 3, 1) := by decide +kernel
theorem D_Search_triesChoices_2 : decode cX7_triesChoices 2 = .ok (.iload_n 3, 1) := by decide +kernel
theorem D_Search_triesChoices_3 : decode cX7_triesChoices 3 = .ok (.aload_n 2, 1) := by decide +kernel
theorem D_Search_triesChoices_4 : decode cX7_triesChoices 4 = .ok (.getfield 126, 3) := by decide +kernel
theorem D_Search_triesChoices_7 : decode cX7_triesChoices 7 = .ok (.if_icmp .ge (60), 3) := by decide +kernel
theorem D_Search_triesChoices_10 : decode cX7_triesChoices 10 = .ok (.aload_n 0, 1) := by decide +kernel
theorem D_Search_triesChoices_11 : decode cX7_triesChoices 11 = .ok (.getfield 39, 3) := by decide +kernel
theorem D_Search_triesChoices_14 : decode cX7_triesChoices 14 = .ok (.ifCond .ne (53), 3) := by decide +kernel
theorem D_Search_triesChoices_17 : decode cX7_triesChoices 17 = .ok (.aload_n 1, 1) := by decide +kernel
theorem D_Search_triesChoices_18 : decode cX7_triesChoices 18 = .ok (.iload_n 3, 1) := by decide +kernel
theorem D_Search_triesChoices_19 : decode cX7_triesChoices 19 = .ok (.putfield 129, 3) := by decide +kernel
theorem D_Search_triesChoices_22 : decode cX7_triesChoices 22 = .ok (.aload_n 1, 1) := by decide +kernel
theorem D_Search_triesChoices_23 : decode cX7_triesChoices 23 = .ok (.aload_n 2, 1) := by decide +kernel
theorem D_Search_triesChoices_24 : decode cX7_triesChoices 24 = .ok (.getfield 132, 3) := by decide +kernel
theorem D_Search_triesChoices_27 : decode cX7_triesChoices 27 = .ok (.iload_n 3, 1) := by decide +kernel
theorem D_Search_triesChoices_28 : decode cX7_triesChoices 28 = .ok (.aaload, 1) := by decide +kernel
theorem D_Search_triesChoices_29 : decode cX7_triesChoices 29 = .ok (.putfield 136, 3) := by decide +kernel
theorem D_Search_triesChoices_32 : decode cX7_triesChoices 32 = .ok (.aload_n 1, 1) := by decide +kernel
theorem D_Search_triesChoices_33 : decode cX7_triesChoices 33 = .ok (.getfield 136, 3) := by decide +kernel
theorem D_Search_triesChoices_36 : decode cX7_triesChoices 36 = .ok (.aload_n 1, 1) := by decide +kernel
theorem D_Search_triesChoices_37 : decode cX7_triesChoices 37 = .ok (.getfield 75, 3) := by decide +kernel
theorem D_Search_triesChoices_40 : decode cX7_triesChoices 40 = .ok (.invokevirtual 140, 3) := by decide +kernel
theorem D_Search_triesChoices_43 : decode cX7_triesChoices 43 = .ok (.ifCond .eq (18), 3) := by decide +kernel
theorem D_Search_triesChoices_46 : decode cX7_triesChoices 46 = .ok (.aload_n 0, 1) := by decide +kernel
theorem D_Search_triesChoices_47 : decode cX7_triesChoices 47 = .ok (.aload_n 1, 1) := by decide +kernel
theorem D_Search_triesChoices_48 : decode cX7_triesChoices 48 = .ok (.aload_n 1, 1) := by decide +kernel
theorem D_Search_triesChoices_49 : decode cX7_triesChoices 49 = .ok (.getfield 136, 3) := by decide +kernel
theorem D_Search_triesChoices_52 : decode cX7_triesChoices 52 = .ok (.iconst (0), 1) := by decide +kernel
theorem D_Search_triesChoices_53 : decode cX7_triesChoices 53 = .ok (.invokevirtual 146, 3) := by decide +kernel
theorem D_Search_triesChoices_56 : decode cX7_triesChoices 56 = .ok (.ifCond .eq (5), 3) := by decide +kernel
theorem D_Search_triesChoices_59 : decode cX7_triesChoices 59 = .ok (.iconst (1), 1) := by decide +kernel
theorem D_Search_triesChoices_60 : decode cX7_triesChoices 60 = .ok (.ireturn, 1) := by decide +kernel
theorem D_Search_triesChoices_61 : decode cX7_triesChoices 61 = .ok (.iinc 3 (1), 3) := by decide +kernel
theorem D_Search_triesChoices_64 : decode cX7_triesChoices 64 = .ok (.goto (-62), 3) := by decide +kernel
theorem D_Search_triesChoices_67 : decode cX7_triesChoices 67 = .ok (.iconst (0), 1) := by decide +kernel
theorem D_Search_triesChoices_68 : decode cX7_triesChoices 68 = .ok (.ireturn, 1) := by decide +kernel
def K_Search_triesChoices (n : Nat) : SC := (cX7_triesChoices, "TwoLevels$Search", 4, 4 + n + 1, false, [3, 4, 8, 43, 44, 45, 46, 47, 48, 49, 51], NoQ)
def b_Search_triesChoices (R : Nat → MD Int32) : MD Int32 := mth zz 4 (sq (sq (sI1 3 (eC (nI 0)))
 (loop (cAnd (eh2 c_lt (lI 3) (eh1 (gI 7 4) (lR 2))) (cNot (eh1 z_ne (eh1 (gI 8 4) (lR 0)))))
 (sq (sh2 (pI false 4 8) (lR 1) (lI 3))
 (sq (sh2 (pR 4 9) (lR 1) (eh2 (aR (.object "TwoLevels$Choice")) (eh1 (gR 7 3) (lR 2)) (lI 3)))
 (sIf (cAnd (eh1 z_ne (kV 1 d_Choice_suits (eh1 (gR 4 9) (lR 1)) [vI (eh1 (gI 4 5) (lR 1))])) (eh1 z_ne (kV 8 (R 2) (lR 0) [vR (lR 1), vR (eh1 (gR 4 9) (lR 1)), vI (eC (nI 0))]))) (rtn (eC (nI 1))) sk)))
 (sInc 3 (nI 1))))
 (rtn (eC (nI 0))))
theorem s_Search_triesChoices (n : Nat) (R : Nat → MD Int32) (h2 : MJ (4 + n) [3, 4, 8, 43, 44, 45, 46, 47, 48, 49, 51] yX7_triesFrees (some .boolean) eI (R 2)) : MJ (4 + n + 1) [3, 4, 8, 43, 44, 45, 46, 47, 48, 49, 51] yX7_triesChoices (some .boolean) eI (b_Search_triesChoices R) := MJ_of (K := K_Search_triesChoices n) (ri := .ireturn) (n1 := 0) (n2 := 0) (n3 := 0)
 (SJ_sq (p0 := 0) (p1 := 67) (nN := 0) (nB := 0) (nC := 0) (SJ_sq (p0 := 0) (p1 := 2) (nN := 67) (nB := 0) (nC := 0) (SJ_istore_n (i := 3) (j := 3) (p0 := 0) (p1 := 1) (EJ_iconst (n := 0) (v := (nI 0)) (pc := 0) D_Search_triesChoices_0 (by decide +kernel)) D_Search_triesChoices_1 rfl)
 (SJ_loop (p0 := 2) (pB := 17) (pS := 61) (pE := 67) (CJ_and (p0 := 2) (pM := 10) (pT := 17) (pF := 67) (CJ_lt' (off := 60) (tgt := 67) (p0 := 2) (p1 := 3) (p2 := 7) (EJ_iload_n (j := 3) (i := 3) (pc := 2) D_Search_triesChoices_2 rfl) (EJ_getI (t := 7) (c := 6) (kf := 4) (r := (RX6, TX6, 5)) (p0 := 3) (p1 := 4) (EJ_aload_n (j := 2) (i := 2) (pc := 3) D_Search_triesChoices_3 rfl) D_Search_triesChoices_4 ⟨rfl, rfl, by decide, q_401⟩ (fun _ _ => rfl)) D_Search_triesChoices_7 rfl) (CJ_not (p0 := 10) (pT := 17) (pF := 67) (CZ_ne (off := 53) (tgt := 67) (p0 := 10) (p1 := 14) (EJ_getI (t := 8) (c := 7) (kf := 4) (r := (RX7, TX7, 11)) (p0 := 10) (p1 := 11) (EJ_aload_n (j := 0) (i := 0) (pc := 10) D_Search_triesChoices_10 rfl) D_Search_triesChoices_11 ⟨rfl, rfl, by decide, q_232⟩ (fun _ _ => rfl)) D_Search_triesChoices_14 rfl)))
 (SJ_sq (p0 := 17) (p1 := 22) (nN := 61) (nB := 67) (nC := 61) (SJ_putI (z := false) (t := 4) (c := 3) (kf := 8) (r := (RX3, TX3, 11)) (p0 := 17) (p1 := 18) (p2 := 19) (EJ_aload_n (j := 1) (i := 1) (pc := 17) D_Search_triesChoices_17 rfl) (EJ_iload_n (j := 3) (i := 3) (pc := 18) D_Search_triesChoices_18 rfl) D_Search_triesChoices_19 ⟨rfl, rfl, by decide, q_811⟩ (Or.inl rfl) (fun _ _ => ⟨rfl, rfl⟩) (fun _ _ => rfl) (show (4 : Nat) ∈ ([3, 4, 8, 43, 44, 45, 46, 47, 48, 49, 51] : List Nat) from by decide))
 (SJ_sq (p0 := 22) (p1 := 32) (nN := 61) (nB := 67) (nC := 61) (SJ_putR (t := 4) (c := 3) (kf := 9) (r := (RX3, TX3, 11)) (p0 := 22) (p1 := 23) (p2 := 29) (EJ_aload_n (j := 1) (i := 1) (pc := 22) D_Search_triesChoices_22 rfl) (EJ_aald (p0 := 23) (p1 := 27) (p2 := 28) (EJ_getR (t := 7) (c := 6) (kf := 3) (r := (RX6, TX6, 5)) (p0 := 23) (p1 := 24) (EJ_aload_n (j := 2) (i := 2) (pc := 23) D_Search_triesChoices_23 rfl) D_Search_triesChoices_24 ⟨rfl, rfl, by decide, q_398⟩ (fun _ _ => rfl)) (EJ_iload_n (j := 3) (i := 3) (pc := 27) D_Search_triesChoices_27 rfl) D_Search_triesChoices_28 (Or.inl ⟨_, rfl⟩)) D_Search_triesChoices_29 ⟨rfl, rfl, by decide, q_813⟩ (Or.inl rfl) (Or.inl ⟨_, rfl⟩) (fun _ _ => rfl) (show (4 : Nat) ∈ ([3, 4, 8, 43, 44, 45, 46, 47, 48, 49, 51] : List Nat) from by decide))
 (SJ_if (p0 := 32) (pT := 59) (pF := 61) (nN := 61) (nB := 67) (nC := 61) (CJ_and (p0 := 32) (pM := 46) (pT := 59) (pF := 61) (CZ_ne' (off := 18) (tgt := 61) (p0 := 32) (p1 := 43) (EJ_callV (t := 1) (c := 0) (r := (RX0, TX0, 11)) (p0 := 32) (p1 := 36) (p2 := 40) (EJ_getR (t := 4) (c := 3) (kf := 9) (r := (RX3, TX3, 11)) (p0 := 32) (p1 := 33) (EJ_aload_n (j := 1) (i := 1) (pc := 32) D_Search_triesChoices_32 rfl) D_Search_triesChoices_33 ⟨rfl, rfl, by decide, q_813⟩ (fun _ _ => rfl)) (AJ_I (p0 := 36) (p1 := 40) (p2 := 40) (EJ_getI (t := 4) (c := 3) (kf := 5) (r := (RX3, TX3, 11)) (p0 := 36) (p1 := 37) (EJ_aload_n (j := 1) (i := 1) (pc := 36) D_Search_triesChoices_36 rfl) D_Search_triesChoices_37 ⟨rfl, rfl, by decide, q_805⟩ (fun _ _ => rfl)) AJ_nil) m_Choice_suits E1_I D_Search_triesChoices_40 rfl rfl rfl q_836 q_837 q_838 q_103 ⟨by decide +kernel, by decide +kernel, by decide +kernel⟩ (by decide) (show 1 + 1 ≤ 4 + n + 1 from by omega) (fun _ h => absurd h List.not_mem_nil)) D_Search_triesChoices_43 rfl) (CZ_ne' (off := 5) (tgt := 61) (p0 := 46) (p1 := 56) (EJ_callV (t := 8) (c := 7) (r := (RX7, TX7, 11)) (p0 := 46) (p1 := 47) (p2 := 53) (EJ_aload_n (j := 0) (i := 0) (pc := 46) D_Search_triesChoices_46 rfl) (AJ_R (p0 := 47) (p1 := 48) (p2 := 53) (EJ_aload_n (j := 1) (i := 1) (pc := 47) D_Search_triesChoices_47 rfl) (AJ_R (p0 := 48) (p1 := 52) (p2 := 53) (EJ_getR (t := 4) (c := 3) (kf := 9) (r := (RX3, TX3, 11)) (p0 := 48) (p1 := 49) (EJ_aload_n (j := 1) (i := 1) (pc := 48) D_Search_triesChoices_48 rfl) D_Search_triesChoices_49 ⟨rfl, rfl, by decide, q_813⟩ (fun _ _ => rfl)) (AJ_I (p0 := 52) (p1 := 53) (p2 := 53) (EJ_iconst (n := 0) (v := (nI 0)) (pc := 52) D_Search_triesChoices_52 (by decide +kernel)) AJ_nil))) h2 E1_I D_Search_triesChoices_53 rfl rfl rfl q_840 q_841 q_27 q_96 ⟨by decide +kernel, by decide +kernel, by decide +kernel⟩ (by decide) (Nat.le_refl _) (show ∀ x_ ∈ ([3, 4, 8, 43, 44, 45, 46, 47, 48, 49, 51] : List Nat), x_ ∈ ([3, 4, 8, 43, 44, 45, 46, 47, 48, 49, 51] : List Nat) from by decide)) D_Search_triesChoices_56 rfl)) (SJ_ret (p0 := 59) (p1 := 60) (EJ_iconst (n := 1) (v := (nI 1)) (pc := 59) D_Search_triesChoices_59 (by decide +kernel)) D_Search_triesChoices_60) SJ_sk)))
 (SJ_post (SJ_iinc (i := 3) (n := 1) (v := (nI 1)) (pc := 61) D_Search_triesChoices_61 (by decide +kernel)) (Lead.goto (K := (K_Search_triesChoices n)) (pc := 64) (tgt := 2) D_Search_triesChoices_64 rfl))))
 (SJ_ret (p0 := 67) (p1 := 68) (EJ_iconst (n := 0) (v := (nI 0)) (pc := 67) D_Search_triesChoices_67 (by decide +kernel)) D_Search_triesChoices_68))
 RTm_bool q_835 (by decide +kernel) rfl (fun h => by cases h) (show 4 ≤ 40 from by decide) (fun _ => trivial)
theorem D_Search_triesFrees_0 : decode cX7_triesFrees 0 = .ok (.iload_n 3, 1) := by decide +kernel
theorem D_Search_triesFrees_1 : decode cX7_triesFrees 1 = .ok (.aload_n 2, 1) := by decide +kernel
theorem D_Search_triesFrees_2 : decode cX7_triesFrees 2 = .ok (.getfield 150, 3) := by decide +kernel
theorem D_Search_triesFrees_5 : decode cX7_triesFrees 5 = .ok (.if_icmp .lt (29), 3) := by decide +kernel
theorem D_Search_triesFrees_8 : decode cX7_triesFrees 8 = .ok (.aload_n 0, 1) := by decide +kernel
theorem D_Search_triesFrees_9 : decode cX7_triesFrees 9 = .ok (.aload_n 1, 1) := by decide +kernel
theorem D_Search_triesFrees_10 : decode cX7_triesFrees 10 = .ok (.getfield 123, 3) := by decide +kernel
theorem D_Search_triesFrees_13 : decode cX7_triesFrees 13 = .ok (.iconst (1), 1) := by decide +kernel
theorem D_Search_triesFrees_14 : decode cX7_triesFrees 14 = .ok (.iadd, 1) := by decide +kernel
theorem D_Search_triesFrees_15 : decode cX7_triesFrees 15 = .ok (.putfield 55, 3) := by decide +kernel
theorem D_Search_triesFrees_18 : decode cX7_triesFrees 18 = .ok (.aload_n 0, 1) := by decide +kernel
theorem D_Search_triesFrees_19 : decode cX7_triesFrees 19 = .ok (.aload_n 1, 1) := by decide +kernel
theorem D_Search_triesFrees_20 : decode cX7_triesFrees 20 = .ok (.aload_n 2, 1) := by decide +kernel
theorem D_Search_triesFrees_21 : decode cX7_triesFrees 21 = .ok (.iconst (0), 1) := by decide +kernel
theorem D_Search_triesFrees_22 : decode cX7_triesFrees 22 = .ok (.aload_n 1, 1) := by decide +kernel
theorem D_Search_triesFrees_23 : decode cX7_triesFrees 23 = .ok (.getfield 72, 3) := by decide +kernel
theorem D_Search_triesFrees_26 : decode cX7_triesFrees 26 = .ok (.aload_n 1, 1) := by decide +kernel
theorem D_Search_triesFrees_27 : decode cX7_triesFrees 27 = .ok (.getfield 75, 3) := by decide +kernel
theorem D_Search_triesFrees_30 : decode cX7_triesFrees 30 = .ok (.invokevirtual 153, 3) := by decide +kernel
theorem D_Search_triesFrees_33 : decode cX7_triesFrees 33 = .ok (.ireturn, 1) := by decide +kernel
theorem D_Search_triesFrees_34 : decode cX7_triesFrees 34 = .ok (.aload_n 0, 1) := by decide +kernel
theorem D_Search_triesFrees_35 : decode cX7_triesFrees 35 = .ok (.aload_n 1, 1) := by decide +kernel
theorem D_Search_triesFrees_36 : decode cX7_triesFrees 36 = .ok (.aload_n 2, 1) := by decide +kernel
theorem D_Search_triesFrees_37 : decode cX7_triesFrees 37 = .ok (.iload_n 3, 1) := by decide +kernel
theorem D_Search_triesFrees_38 : decode cX7_triesFrees 38 = .ok (.invokevirtual 157, 3) := by decide +kernel
theorem D_Search_triesFrees_41 : decode cX7_triesFrees 41 = .ok (.ifCond .ne (5), 3) := by decide +kernel
theorem D_Search_triesFrees_44 : decode cX7_triesFrees 44 = .ok (.iconst (0), 1) := by decide +kernel
theorem D_Search_triesFrees_45 : decode cX7_triesFrees 45 = .ok (.ireturn, 1) := by decide +kernel
theorem D_Search_triesFrees_46 : decode cX7_triesFrees 46 = .ok (.aload_n 2, 1) := by decide +kernel
theorem D_Search_triesFrees_47 : decode cX7_triesFrees 47 = .ok (.getfield 160, 3) := by decide +kernel
theorem D_Search_triesFrees_50 : decode cX7_triesFrees 50 = .ok (.iload_n 3, 1) := by decide +kernel
theorem D_Search_triesFrees_51 : decode cX7_triesFrees 51 = .ok (.iaload, 1) := by decide +kernel
theorem D_Search_triesFrees_52 : decode cX7_triesFrees 52 = .ok (.istore 4, 2) := by decide +kernel
theorem D_Search_triesFrees_54 : decode cX7_triesFrees 54 = .ok (.aload_n 0, 1) := by decide +kernel
theorem D_Search_triesFrees_55 : decode cX7_triesFrees 55 = .ok (.getfield 21, 3) := by decide +kernel
theorem D_Search_triesFrees_58 : decode cX7_triesFrees 58 = .ok (.getfield 88, 3) := by decide +kernel
theorem D_Search_triesFrees_61 : decode cX7_triesFrees 61 = .ok (.iload 4, 2) := by decide +kernel
theorem D_Search_triesFrees_63 : decode cX7_triesFrees 63 = .ok (.aload_n 0, 1) := by decide +kernel
theorem D_Search_triesFrees_64 : decode cX7_triesFrees 64 = .ok (.getfield 21, 3) := by decide +kernel
theorem D_Search_triesFrees_67 : decode cX7_triesFrees 67 = .ok (.getfield 164, 3) := by decide +kernel
theorem D_Search_triesFrees_70 : decode cX7_triesFrees 70 = .ok (.invokevirtual 167, 3) := by decide +kernel
theorem D_Search_triesFrees_73 : decode cX7_triesFrees 73 = .ok (.istore 5, 2) := by decide +kernel
theorem D_Search_triesFrees_75 : decode cX7_triesFrees 75 = .ok (.iconst (0), 1) := by decide +kernel
theorem D_Search_triesFrees_76 : decode cX7_triesFrees 76 = .ok (.istore 6, 2) := by decide +kernel
theorem D_Search_triesFrees_78 : decode cX7_triesFrees 78 = .ok (.iload 6, 2) := by decide +kernel
theorem D_Search_triesFrees_80 : decode cX7_triesFrees 80 = .ok (.iload 5, 2) := by decide +kernel
theorem D_Search_triesFrees_82 : decode cX7_triesFrees 82 = .ok (.if_icmp .ge (71), 3) := by decide +kernel
theorem D_Search_triesFrees_85 : decode cX7_triesFrees 85 = .ok (.aload_n 0, 1) := by decide +kernel
theorem D_Search_triesFrees_86 : decode cX7_triesFrees 86 = .ok (.getfield 39, 3) := by decide +kernel
theorem D_Search_triesFrees_89 : decode cX7_triesFrees 89 = .ok (.ifCond .ne (64), 3) := by decide +kernel
theorem D_Search_triesFrees_92 : decode cX7_triesFrees 92 = .ok (.aload_n 1, 1) := by decide +kernel
theorem D_Search_triesFrees_93 : decode cX7_triesFrees 93 = .ok (.getfield 172, 3) := by decide +kernel
theorem D_Search_triesFrees_96 : decode cX7_triesFrees 96 = .ok (.iload_n 3, 1) := by decide +kernel
theorem D_Search_triesFrees_97 : decode cX7_triesFrees 97 = .ok (.aload_n 0, 1) := by decide +kernel
theorem D_Search_triesFrees_98 : decode cX7_triesFrees 98 = .ok (.getfield 21, 3) := by decide +kernel
theorem D_Search_triesFrees_101 : decode cX7_triesFrees 101 = .ok (.getfield 88, 3) := by decide +kernel
theorem D_Search_triesFrees_104 : decode cX7_triesFrees 104 = .ok (.iload 4, 2) := by decide +kernel
theorem D_Search_triesFrees_106 : decode cX7_triesFrees 106 = .ok (.iload 6, 2) := by decide +kernel
theorem D_Search_triesFrees_108 : decode cX7_triesFrees 108 = .ok (.invokevirtual 175, 3) := by decide +kernel
theorem D_Search_triesFrees_111 : decode cX7_triesFrees 111 = .ok (.i2l, 1) := by decide +kernel
theorem D_Search_triesFrees_112 : decode cX7_triesFrees 112 = .ok (.lastore, 1) := by decide +kernel
theorem D_Search_triesFrees_113 : decode cX7_triesFrees 113 = .ok (.aload_n 0, 1) := by decide +kernel
theorem D_Search_triesFrees_114 : decode cX7_triesFrees 114 = .ok (.getfield 25, 3) := by decide +kernel
theorem D_Search_triesFrees_117 : decode cX7_triesFrees 117 = .ok (.aload_n 1, 1) := by decide +kernel
theorem D_Search_triesFrees_118 : decode cX7_triesFrees 118 = .ok (.getfield 65, 3) := by decide +kernel
theorem D_Search_triesFrees_121 : decode cX7_triesFrees 121 = .ok (.aaload, 1) := by decide +kernel
theorem D_Search_triesFrees_122 : decode cX7_triesFrees 122 = .ok (.iload 4, 2) := by decide +kernel
theorem D_Search_triesFrees_124 : decode cX7_triesFrees 124 = .ok (.aload_n 1, 1) := by decide +kernel
theorem D_Search_triesFrees_125 : decode cX7_triesFrees 125 = .ok (.getfield 172, 3) := by decide +kernel
theorem D_Search_triesFrees_128 : decode cX7_triesFrees 128 = .ok (.iload_n 3, 1) := by decide +kernel
theorem D_Search_triesFrees_129 : decode cX7_triesFrees 129 = .ok (.laload, 1) := by decide +kernel
theorem D_Search_triesFrees_130 : decode cX7_triesFrees 130 = .ok (.invokevirtual 178, 3) := by decide +kernel
theorem D_Search_triesFrees_133 : decode cX7_triesFrees 133 = .ok (.aload_n 0, 1) := by decide +kernel
theorem D_Search_triesFrees_134 : decode cX7_triesFrees 134 = .ok (.aload_n 1, 1) := by decide +kernel
theorem D_Search_triesFrees_135 : decode cX7_triesFrees 135 = .ok (.aload_n 2, 1) := by decide +kernel
theorem D_Search_triesFrees_136 : decode cX7_triesFrees 136 = .ok (.iload_n 3, 1) := by decide +kernel
theorem D_Search_triesFrees_137 : decode cX7_triesFrees 137 = .ok (.iconst (1), 1) := by decide +kernel
theorem D_Search_triesFrees_138 : decode cX7_triesFrees 138 = .ok (.iadd, 1) := by decide +kernel
theorem D_Search_triesFrees_139 : decode cX7_triesFrees 139 = .ok (.invokevirtual 146, 3) := by decide +kernel
theorem D_Search_triesFrees_142 : decode cX7_triesFrees 142 = .ok (.ifCond .eq (5), 3) := by decide +kernel
theorem D_Search_triesFrees_145 : decode cX7_triesFrees 145 = .ok (.iconst (1), 1) := by decide +kernel
theorem D_Search_triesFrees_146 : decode cX7_triesFrees 146 = .ok (.ireturn, 1) := by decide +kernel
theorem D_Search_triesFrees_147 : decode cX7_triesFrees 147 = .ok (.iinc 6 (1), 3) := by decide +kernel
theorem D_Search_triesFrees_150 : decode cX7_triesFrees 150 = .ok (.goto (-72), 3) := by decide +kernel
theorem D_Search_triesFrees_153 : decode cX7_triesFrees 153 = .ok (.iconst (0), 1) := by decide +kernel
theorem D_Search_triesFrees_154 : decode cX7_triesFrees 154 = .ok (.ireturn, 1) := by decide +kernel
def K_Search_triesFrees (n : Nat) : SC := (cX7_triesFrees, "TwoLevels$Search", 7, 4 + n + 1, false, [3, 4, 8, 43, 44, 45, 46, 47, 48, 49, 51], NoQ)
def b_Search_triesFrees (R : Nat → MD Int32) : MD Int32 := mth zz 7 (sq (sIf (eh2 c_ge (lI 3) (eh1 (gI 1 6) (lR 2))) (sq (sh2 (pI false 8 10) (lR 0) (eh2 iaddF (eh1 (gI 4 0) (lR 1)) (eC (nI 1))))
 (rtn (kV 8 (R 3) (lR 0) [vR (lR 1), vR (lR 2), vI (eC (nI 0)), vI (eh1 (gI 4 4) (lR 1)), vI (eh1 (gI 4 5) (lR 1))]))) sk)
 (sq (sIf (cNot (eh1 z_ne (kV 8 d_Search_opens (lR 0) [vR (lR 1), vR (lR 2), vI (lI 3)]))) (rtn (eC (nI 0))) sk)
 (sq (sI1 4 (eh2 (aI .int) (eh1 (gR 1 5) (lR 2)) (lI 3)))
 (sq (sI1 5 (kV 11 d_Upper_hasMany (eh1 (gR 10 0) (eh1 (gR 8 0) (lR 0))) [vI (lI 4), vI (eh1 (gI 10 3) (eh1 (gR 8 0) (lR 0)))]))
 (sq (sq (sI1 6 (eC (nI 0)))
 (loop (cAnd (eh2 c_lt (lI 6) (lI 5)) (cNot (eh1 z_ne (eh1 (gI 8 4) (lR 0)))))
 (sq (sh3 (stJ [49]) (eh1 (gR 4 10) (lR 1)) (lI 3) (eh1 i2lF (kV 11 d_Upper_hasWord (eh1 (gR 10 0) (eh1 (gR 8 0) (lR 0))) [vI (lI 4), vI (lI 6)])))
 (sq (sE (kV 3 d_Fit_put (eh2 (aR (.object "TwoLevels$Fit")) (eh1 (gR 8 3) (lR 0)) (eh1 (gI 4 2) (lR 1))) [vI (lI 4), vJ (eh2 aJ (eh1 (gR 4 10) (lR 1)) (lI 3))]))
 (sIf (eh1 z_ne (kV 8 (R 2) (lR 0) [vR (lR 1), vR (lR 2), vI (eh2 iaddF (lI 3) (eC (nI 1)))])) (rtn (eC (nI 1))) sk)))
 (sInc 6 (nI 1))))
 (rtn (eC (nI 0))))))))
theorem s_Search_triesFrees (n : Nat) (R : Nat → MD Int32) (h2 : MJ (4 + n) [3, 4, 8, 43, 44, 45, 46, 47, 48, 49, 51] yX7_triesFrees (some .boolean) eI (R 2)) (h3 : MJ (4 + n) [3, 4, 8, 43, 44, 45, 46, 47, 48, 49, 51] yX7_triesMembers (some .boolean) eI (R 3)) : MJ (4 + n + 1) [3, 4, 8, 43, 44, 45, 46, 47, 48, 49, 51] yX7_triesFrees (some .boolean) eI (b_Search_triesFrees R) := MJ_of (K := K_Search_triesFrees n) (ri := .ireturn) (n1 := 0) (n2 := 0) (n3 := 0)
 (SJ_sq (p0 := 0) (p1 := 34) (nN := 0) (nB := 0) (nC := 0) (SJ_if (p0 := 0) (pT := 8) (pF := 34) (nN := 34) (nB := 0) (nC := 0) (CJ_ge' (off := 29) (tgt := 34) (p0 := 0) (p1 := 1) (p2 := 5) (EJ_iload_n (j := 3) (i := 3) (pc := 0) D_Search_triesFrees_0 rfl) (EJ_getI (t := 1) (c := 0) (kf := 6) (r := (RX0, TX0, 11)) (p0 := 1) (p1 := 2) (EJ_aload_n (j := 2) (i := 2) (pc := 1) D_Search_triesFrees_1 rfl) D_Search_triesFrees_2 ⟨rfl, rfl, by decide, q_432⟩ (fun _ _ => rfl)) D_Search_triesFrees_5 rfl) (SJ_sq (p0 := 8) (p1 := 18) (nN := 34) (nB := 0) (nC := 0) (SJ_putI (z := false) (t := 8) (c := 7) (kf := 10) (r := (RX7, TX7, 11)) (p0 := 8) (p1 := 9) (p2 := 15) (EJ_aload_n (j := 0) (i := 0) (pc := 8) D_Search_triesFrees_8 rfl) (EJ_iadd (p0 := 9) (p1 := 13) (p2 := 14) (EJ_getI (t := 4) (c := 3) (kf := 0) (r := (RX3, TX3, 11)) (p0 := 9) (p1 := 10) (EJ_aload_n (j := 1) (i := 1) (pc := 9) D_Search_triesFrees_9 rfl) D_Search_triesFrees_10 ⟨rfl, rfl, by decide, q_796⟩ (fun _ _ => rfl)) (EJ_iconst (n := 1) (v := (nI 1)) (pc := 13) D_Search_triesFrees_13 (by decide +kernel)) D_Search_triesFrees_14) D_Search_triesFrees_15 ⟨rfl, rfl, by decide, q_242⟩ (Or.inl rfl) (fun _ _ => ⟨rfl, rfl⟩) (fun _ _ => rfl) (show (8 : Nat) ∈ ([3, 4, 8, 43, 44, 45, 46, 47, 48, 49, 51] : List Nat) from by decide))
 (SJ_ret (p0 := 18) (p1 := 33) (EJ_callV (t := 8) (c := 7) (r := (RX7, TX7, 11)) (p0 := 18) (p1 := 19) (p2 := 30) (EJ_aload_n (j := 0) (i := 0) (pc := 18) D_Search_triesFrees_18 rfl) (AJ_R (p0 := 19) (p1 := 20) (p2 := 30) (EJ_aload_n (j := 1) (i := 1) (pc := 19) D_Search_triesFrees_19 rfl) (AJ_R (p0 := 20) (p1 := 21) (p2 := 30) (EJ_aload_n (j := 2) (i := 2) (pc := 20) D_Search_triesFrees_20 rfl) (AJ_I (p0 := 21) (p1 := 22) (p2 := 30) (EJ_iconst (n := 0) (v := (nI 0)) (pc := 21) D_Search_triesFrees_21 (by decide +kernel)) (AJ_I (p0 := 22) (p1 := 26) (p2 := 30) (EJ_getI (t := 4) (c := 3) (kf := 4) (r := (RX3, TX3, 11)) (p0 := 22) (p1 := 23) (EJ_aload_n (j := 1) (i := 1) (pc := 22) D_Search_triesFrees_22 rfl) D_Search_triesFrees_23 ⟨rfl, rfl, by decide, q_803⟩ (fun _ _ => rfl)) (AJ_I (p0 := 26) (p1 := 30) (p2 := 30) (EJ_getI (t := 4) (c := 3) (kf := 5) (r := (RX3, TX3, 11)) (p0 := 26) (p1 := 27) (EJ_aload_n (j := 1) (i := 1) (pc := 26) D_Search_triesFrees_26 rfl) D_Search_triesFrees_27 ⟨rfl, rfl, by decide, q_805⟩ (fun _ _ => rfl)) AJ_nil))))) h3 E1_I D_Search_triesFrees_30 rfl rfl rfl q_843 q_844 q_28 q_96 ⟨by decide +kernel, by decide +kernel, by decide +kernel⟩ (by decide) (Nat.le_refl _) (show ∀ x_ ∈ ([3, 4, 8, 43, 44, 45, 46, 47, 48, 49, 51] : List Nat), x_ ∈ ([3, 4, 8, 43, 44, 45, 46, 47, 48, 49, 51] : List Nat) from by decide)) D_Search_triesFrees_33)) SJ_sk)
 (SJ_sq (p0 := 34) (p1 := 46) (nN := 0) (nB := 0) (nC := 0) (SJ_if (p0 := 34) (pT := 44) (pF := 46) (nN := 46) (nB := 0) (nC := 0) (CJ_not (p0 := 34) (pT := 44) (pF := 46) (CZ_ne (off := 5) (tgt := 46) (p0 := 34) (p1 := 41) (EJ_callV (t := 8) (c := 7) (r := (RX7, TX7, 11)) (p0 := 34) (p1 := 35) (p2 := 38) (EJ_aload_n (j := 0) (i := 0) (pc := 34) D_Search_triesFrees_34 rfl) (AJ_R (p0 := 35) (p1 := 36) (p2 := 38) (EJ_aload_n (j := 1) (i := 1) (pc := 35) D_Search_triesFrees_35 rfl) (AJ_R (p0 := 36) (p1 := 37) (p2 := 38) (EJ_aload_n (j := 2) (i := 2) (pc := 36) D_Search_triesFrees_36 rfl) (AJ_I (p0 := 37) (p1 := 38) (p2 := 38) (EJ_iload_n (j := 3) (i := 3) (pc := 37) D_Search_triesFrees_37 rfl) AJ_nil))) m_Search_opens E1_I D_Search_triesFrees_38 rfl rfl rfl q_856 q_857 q_29 q_96 ⟨by decide +kernel, by decide +kernel, by decide +kernel⟩ (by decide) (show 2 + 1 ≤ 4 + n + 1 from by omega) (fun _ h => absurd h List.not_mem_nil)) D_Search_triesFrees_41 rfl)) (SJ_ret (p0 := 44) (p1 := 45) (EJ_iconst (n := 0) (v := (nI 0)) (pc := 44) D_Search_triesFrees_44 (by decide +kernel)) D_Search_triesFrees_45) SJ_sk)
 (SJ_sq (p0 := 46) (p1 := 54) (nN := 0) (nB := 0) (nC := 0) (SJ_istore (i := 4) (p0 := 46) (p1 := 52) (EJ_iald (p0 := 46) (p1 := 50) (p2 := 51) (EJ_getR (t := 1) (c := 0) (kf := 5) (r := (RX0, TX0, 11)) (p0 := 46) (p1 := 47) (EJ_aload_n (j := 2) (i := 2) (pc := 46) D_Search_triesFrees_46 rfl) D_Search_triesFrees_47 ⟨rfl, rfl, by decide, q_430⟩ (fun _ _ => rfl)) (EJ_iload_n (j := 3) (i := 3) (pc := 50) D_Search_triesFrees_50 rfl) D_Search_triesFrees_51) D_Search_triesFrees_52)
 (SJ_sq (p0 := 54) (p1 := 75) (nN := 0) (nB := 0) (nC := 0) (SJ_istore (i := 5) (p0 := 54) (p1 := 73) (EJ_callV (t := 11) (c := 10) (r := (RX10, TX10, 7)) (p0 := 54) (p1 := 61) (p2 := 70) (EJ_getR (t := 10) (c := 9) (kf := 0) (r := (RX9, TX9, 4)) (p0 := 54) (p1 := 58) (EJ_getR (t := 8) (c := 7) (kf := 0) (r := (RX7, TX7, 11)) (p0 := 54) (p1 := 55) (EJ_aload_n (j := 0) (i := 0) (pc := 54) D_Search_triesFrees_54 rfl) D_Search_triesFrees_55 ⟨rfl, rfl, by decide, q_228⟩ (fun _ _ => rfl)) D_Search_triesFrees_58 ⟨rfl, rfl, by decide, q_175⟩ (fun _ _ => rfl)) (AJ_I (p0 := 61) (p1 := 63) (p2 := 70) (EJ_iload (i := 4) (pc := 61) D_Search_triesFrees_61) (AJ_I (p0 := 63) (p1 := 70) (p2 := 70) (EJ_getI (t := 10) (c := 9) (kf := 3) (r := (RX9, TX9, 4)) (p0 := 63) (p1 := 67) (EJ_getR (t := 8) (c := 7) (kf := 0) (r := (RX7, TX7, 11)) (p0 := 63) (p1 := 64) (EJ_aload_n (j := 0) (i := 0) (pc := 63) D_Search_triesFrees_63 rfl) D_Search_triesFrees_64 ⟨rfl, rfl, by decide, q_228⟩ (fun _ _ => rfl)) D_Search_triesFrees_67 ⟨rfl, rfl, by decide, q_183⟩ (fun _ _ => rfl)) AJ_nil)) m_Upper_hasMany E1_I D_Search_triesFrees_70 rfl rfl rfl q_861 q_633 q_634 q_93 ⟨by decide +kernel, by decide +kernel, by decide +kernel⟩ (by decide) (show 1 + 1 ≤ 4 + n + 1 from by omega) (fun _ h => absurd h List.not_mem_nil)) D_Search_triesFrees_73)
 (SJ_sq (p0 := 75) (p1 := 153) (nN := 0) (nB := 0) (nC := 0) (SJ_sq (p0 := 75) (p1 := 78) (nN := 153) (nB := 0) (nC := 0) (SJ_istore (i := 6) (p0 := 75) (p1 := 76) (EJ_iconst (n := 0) (v := (nI 0)) (pc := 75) D_Search_triesFrees_75 (by decide +kernel)) D_Search_triesFrees_76)
 (SJ_loop (p0 := 78) (pB := 92) (pS := 147) (pE := 153) (CJ_and (p0 := 78) (pM := 85) (pT := 92) (pF := 153) (CJ_lt' (off := 71) (tgt := 153) (p0 := 78) (p1 := 80) (p2 := 82) (EJ_iload (i := 6) (pc := 78) D_Search_triesFrees_78) (EJ_iload (i := 5) (pc := 80) D_Search_triesFrees_80) D_Search_triesFrees_82 rfl) (CJ_not (p0 := 85) (pT := 92) (pF := 153) (CZ_ne (off := 64) (tgt := 153) (p0 := 85) (p1 := 89) (EJ_getI (t := 8) (c := 7) (kf := 4) (r := (RX7, TX7, 11)) (p0 := 85) (p1 := 86) (EJ_aload_n (j := 0) (i := 0) (pc := 85) D_Search_triesFrees_85 rfl) D_Search_triesFrees_86 ⟨rfl, rfl, by decide, q_232⟩ (fun _ _ => rfl)) D_Search_triesFrees_89 rfl)))
 (SJ_sq (p0 := 92) (p1 := 113) (nN := 147) (nB := 153) (nC := 147) (SJ_last (ws := [49]) (p0 := 92) (p1 := 96) (p2 := 97) (p3 := 112) (EJ_getR (t := 4) (c := 3) (kf := 10) (r := (RX3, TX3, 11)) (p0 := 92) (p1 := 93) (EJ_aload_n (j := 1) (i := 1) (pc := 92) D_Search_triesFrees_92 rfl) D_Search_triesFrees_93 ⟨rfl, rfl, by decide, q_816⟩ (fun _ _ => rfl)) (EJ_iload_n (j := 3) (i := 3) (pc := 96) D_Search_triesFrees_96 rfl) (EJ_i2l (p0 := 97) (p1 := 111) (EJ_callV (t := 11) (c := 10) (r := (RX10, TX10, 7)) (p0 := 97) (p1 := 104) (p2 := 108) (EJ_getR (t := 10) (c := 9) (kf := 0) (r := (RX9, TX9, 4)) (p0 := 97) (p1 := 101) (EJ_getR (t := 8) (c := 7) (kf := 0) (r := (RX7, TX7, 11)) (p0 := 97) (p1 := 98) (EJ_aload_n (j := 0) (i := 0) (pc := 97) D_Search_triesFrees_97 rfl) D_Search_triesFrees_98 ⟨rfl, rfl, by decide, q_228⟩ (fun _ _ => rfl)) D_Search_triesFrees_101 ⟨rfl, rfl, by decide, q_175⟩ (fun _ _ => rfl)) (AJ_I (p0 := 104) (p1 := 106) (p2 := 108) (EJ_iload (i := 4) (pc := 104) D_Search_triesFrees_104) (AJ_I (p0 := 106) (p1 := 108) (p2 := 108) (EJ_iload (i := 6) (pc := 106) D_Search_triesFrees_106) AJ_nil)) m_Upper_hasWord E1_I D_Search_triesFrees_108 rfl rfl rfl q_862 q_654 q_655 q_93 ⟨by decide +kernel, by decide +kernel, by decide +kernel⟩ (by decide) (show 1 + 1 ≤ 4 + n + 1 from by omega) (fun _ h => absurd h List.not_mem_nil)) D_Search_triesFrees_111) D_Search_triesFrees_112 (show ∀ x_ ∈ ([49] : List Nat), x_ ∈ ([3, 4, 8, 43, 44, 45, 46, 47, 48, 49, 51] : List Nat) from by decide))
 (SJ_sq (p0 := 113) (p1 := 133) (nN := 147) (nB := 153) (nC := 147) (SJ_void (p0 := 113) (p1 := 133) (EJ_callV (t := 3) (c := 2) (r := (RX2, TX2, 12)) (p0 := 113) (p1 := 122) (p2 := 130) (EJ_aald (p0 := 113) (p1 := 117) (p2 := 121) (EJ_getR (t := 8) (c := 7) (kf := 3) (r := (RX7, TX7, 11)) (p0 := 113) (p1 := 114) (EJ_aload_n (j := 0) (i := 0) (pc := 113) D_Search_triesFrees_113 rfl) D_Search_triesFrees_114 ⟨rfl, rfl, by decide, q_231⟩ (fun _ _ => rfl)) (EJ_getI (t := 4) (c := 3) (kf := 2) (r := (RX3, TX3, 11)) (p0 := 117) (p1 := 118) (EJ_aload_n (j := 1) (i := 1) (pc := 117) D_Search_triesFrees_117 rfl) D_Search_triesFrees_118 ⟨rfl, rfl, by decide, q_799⟩ (fun _ _ => rfl)) D_Search_triesFrees_121 (Or.inl ⟨_, rfl⟩)) (AJ_I (p0 := 122) (p1 := 124) (p2 := 130) (EJ_iload (i := 4) (pc := 122) D_Search_triesFrees_122) (AJ_J (p0 := 124) (p1 := 130) (p2 := 130) (EJ_lald (p0 := 124) (p1 := 128) (p2 := 129) (EJ_getR (t := 4) (c := 3) (kf := 10) (r := (RX3, TX3, 11)) (p0 := 124) (p1 := 125) (EJ_aload_n (j := 1) (i := 1) (pc := 124) D_Search_triesFrees_124 rfl) D_Search_triesFrees_125 ⟨rfl, rfl, by decide, q_816⟩ (fun _ _ => rfl)) (EJ_iload_n (j := 3) (i := 3) (pc := 128) D_Search_triesFrees_128 rfl) D_Search_triesFrees_129) AJ_nil)) m_Fit_put E1_U D_Search_triesFrees_130 rfl rfl rfl q_863 q_745 q_746 q_95 ⟨by decide +kernel, by decide +kernel, by decide +kernel⟩ (by decide) (show 2 + 1 ≤ 4 + n + 1 from by omega) (show ∀ x_ ∈ ([47, 48] : List Nat), x_ ∈ ([3, 4, 8, 43, 44, 45, 46, 47, 48, 49, 51] : List Nat) from by decide)))
 (SJ_if (p0 := 133) (pT := 145) (pF := 147) (nN := 147) (nB := 153) (nC := 147) (CZ_ne' (off := 5) (tgt := 147) (p0 := 133) (p1 := 142) (EJ_callV (t := 8) (c := 7) (r := (RX7, TX7, 11)) (p0 := 133) (p1 := 134) (p2 := 139) (EJ_aload_n (j := 0) (i := 0) (pc := 133) D_Search_triesFrees_133 rfl) (AJ_R (p0 := 134) (p1 := 135) (p2 := 139) (EJ_aload_n (j := 1) (i := 1) (pc := 134) D_Search_triesFrees_134 rfl) (AJ_R (p0 := 135) (p1 := 136) (p2 := 139) (EJ_aload_n (j := 2) (i := 2) (pc := 135) D_Search_triesFrees_135 rfl) (AJ_I (p0 := 136) (p1 := 139) (p2 := 139) (EJ_iadd (p0 := 136) (p1 := 137) (p2 := 138) (EJ_iload_n (j := 3) (i := 3) (pc := 136) D_Search_triesFrees_136 rfl) (EJ_iconst (n := 1) (v := (nI 1)) (pc := 137) D_Search_triesFrees_137 (by decide +kernel)) D_Search_triesFrees_138) AJ_nil))) h2 E1_I D_Search_triesFrees_139 rfl rfl rfl q_840 q_841 q_27 q_96 ⟨by decide +kernel, by decide +kernel, by decide +kernel⟩ (by decide) (Nat.le_refl _) (show ∀ x_ ∈ ([3, 4, 8, 43, 44, 45, 46, 47, 48, 49, 51] : List Nat), x_ ∈ ([3, 4, 8, 43, 44, 45, 46, 47, 48, 49, 51] : List Nat) from by decide)) D_Search_triesFrees_142 rfl) (SJ_ret (p0 := 145) (p1 := 146) (EJ_iconst (n := 1) (v := (nI 1)) (pc := 145) D_Search_triesFrees_145 (by decide +kernel)) D_Search_triesFrees_146) SJ_sk)))
 (SJ_post (SJ_iinc (i := 6) (n := 1) (v := (nI 1)) (pc := 147) D_Search_triesFrees_147 (by decide +kernel)) (Lead.goto (K := (K_Search_triesFrees n)) (pc := 150) (tgt := 78) D_Search_triesFrees_150 rfl))))
 (SJ_ret (p0 := 153) (p1 := 154) (EJ_iconst (n := 0) (v := (nI 0)) (pc := 153) D_Search_triesFrees_153 (by decide +kernel)) D_Search_triesFrees_154))))))
 RTm_bool q_842 (by decide +kernel) rfl (fun h => by cases h) (show 7 ≤ 40 from by decide) (fun _ => trivial)
theorem D_Search_triesMembers_0 : decode cX7_triesMembers 0 = .ok (.iload_n 3, 1) := by decide +kernel
theorem D_Search_triesMembers_1 : decode cX7_triesMembers 1 = .ok (.aload_n 2, 1) := by decide +kernel
theorem D_Search_triesMembers_2 : decode cX7_triesMembers 2 = .ok (.getfield 210, 3) := by decide +kernel
theorem D_Search_triesMembers_5 : decode cX7_triesMembers 5 = .ok (.if_icmp .lt (14), 3) := by decide +kernel
theorem D_Search_triesMembers_8 : decode cX7_triesMembers 8 = .ok (.iload 5, 2) := by decide +kernel
theorem D_Search_triesMembers_10 : decode cX7_triesMembers 10 = .ok (.ifCond .ne (7), 3) := by decide +kernel
theorem D_Search_triesMembers_13 : decode cX7_triesMembers 13 = .ok (.iconst (1), 1) := by decide +kernel
theorem D_Search_triesMembers_14 : decode cX7_triesMembers 14 = .ok (.goto (4), 3) := by decide +kernel
theorem D_Search_triesMembers_17 : decode cX7_triesMembers 17 = .ok (.iconst (0), 1) := by decide +kernel
theorem D_Search_triesMembers_18 : decode cX7_triesMembers 18 = .ok (.ireturn, 1) := by decide +kernel
theorem D_Search_triesMembers_19 : decode cX7_triesMembers 19 = .ok (.aload_n 2, 1) := by decide +kernel
theorem D_Search_triesMembers_20 : decode cX7_triesMembers 20 = .ok (.iload_n 3, 1) := by decide +kernel
theorem D_Search_triesMembers_21 : decode cX7_triesMembers 21 = .ok (.invokevirtual 211, 3) := by decide +kernel
theorem D_Search_triesMembers_24 : decode cX7_triesMembers 24 = .ok (.istore 6, 2) := by decide +kernel
theorem D_Search_triesMembers_26 : decode cX7_triesMembers 26 = .ok (.iload 6, 2) := by decide +kernel
theorem D_Search_triesMembers_28 : decode cX7_triesMembers 28 = .ok (.ifCond .eq (10), 3) := by decide +kernel
theorem D_Search_triesMembers_31 : decode cX7_triesMembers 31 = .ok (.iload 5, 2) := by decide +kernel
theorem D_Search_triesMembers_33 : decode cX7_triesMembers 33 = .ok (.ifCond .ne (5), 3) := by decide +kernel
theorem D_Search_triesMembers_36 : decode cX7_triesMembers 36 = .ok (.iconst (0), 1) := by decide +kernel
theorem D_Search_triesMembers_37 : decode cX7_triesMembers 37 = .ok (.ireturn, 1) := by decide +kernel
theorem D_Search_triesMembers_38 : decode cX7_triesMembers 38 = .ok (.aload_n 0, 1) := by decide +kernel
theorem D_Search_triesMembers_39 : decode cX7_triesMembers 39 = .ok (.getfield 25, 3) := by decide +kernel
theorem D_Search_triesMembers_42 : decode cX7_triesMembers 42 = .ok (.aload_n 1, 1) := by decide +kernel
theorem D_Search_triesMembers_43 : decode cX7_triesMembers 43 = .ok (.getfield 65, 3) := by decide +kernel
theorem D_Search_triesMembers_46 : decode cX7_triesMembers 46 = .ok (.aaload, 1) := by decide +kernel
theorem D_Search_triesMembers_47 : decode cX7_triesMembers 47 = .ok (.aload_n 2, 1) := by decide +kernel
theorem D_Search_triesMembers_48 : decode cX7_triesMembers 48 = .ok (.getfield 188, 3) := by decide +kernel
theorem D_Search_triesMembers_51 : decode cX7_triesMembers 51 = .ok (.iload_n 3, 1) := by decide +kernel
theorem D_Search_triesMembers_52 : decode cX7_triesMembers 52 = .ok (.aaload, 1) := by decide +kernel
theorem D_Search_triesMembers_53 : decode cX7_triesMembers 53 = .ok (.bipush (6), 2) := by decide +kernel
theorem D_Search_triesMembers_55 : decode cX7_triesMembers 55 = .ok (.invokevirtual 192, 3) := by decide +kernel
theorem D_Search_triesMembers_58 : decode cX7_triesMembers 58 = .ok (.lstore 7, 2) := by decide +kernel
theorem D_Search_triesMembers_60 : decode cX7_triesMembers 60 = .ok (.lload 7, 2) := by decide +kernel
theorem D_Search_triesMembers_62 : decode cX7_triesMembers 62 = .ok (.ldc2_w 201, 3) := by decide +kernel
theorem D_Search_triesMembers_65 : decode cX7_triesMembers 65 = .ok (.lcmp, 1) := by decide +kernel
theorem D_Search_triesMembers_66 : decode cX7_triesMembers 66 = .ok (.ifCond .ne (5), 3) := by decide +kernel
theorem D_Search_triesMembers_69 : decode cX7_triesMembers 69 = .ok (.iconst (0), 1) := by decide +kernel
theorem D_Search_triesMembers_70 : decode cX7_triesMembers 70 = .ok (.ireturn, 1) := by decide +kernel
theorem D_Search_triesMembers_71 : decode cX7_triesMembers 71 = .ok (.iload 6, 2) := by decide +kernel
theorem D_Search_triesMembers_73 : decode cX7_triesMembers 73 = .ok (.ifCond .eq (42), 3) := by decide +kernel
theorem D_Search_triesMembers_76 : decode cX7_triesMembers 76 = .ok (.aload_n 0, 1) := by decide +kernel
theorem D_Search_triesMembers_77 : decode cX7_triesMembers 77 = .ok (.getfield 9, 3) := by decide +kernel
theorem D_Search_triesMembers_80 : decode cX7_triesMembers 80 = .ok (.iload 4, 2) := by decide +kernel
theorem D_Search_triesMembers_82 : decode cX7_triesMembers 82 = .ok (.laload, 1) := by decide +kernel
theorem D_Search_triesMembers_83 : decode cX7_triesMembers 83 = .ok (.lload 7, 2) := by decide +kernel
theorem D_Search_triesMembers_85 : decode cX7_triesMembers 85 = .ok (.lcmp, 1) := by decide +kernel
theorem D_Search_triesMembers_86 : decode cX7_triesMembers 86 = .ok (.ifCond .ne (27), 3) := by decide +kernel
theorem D_Search_triesMembers_89 : decode cX7_triesMembers 89 = .ok (.aload_n 0, 1) := by decide +kernel
theorem D_Search_triesMembers_90 : decode cX7_triesMembers 90 = .ok (.aload_n 1, 1) := by decide +kernel
theorem D_Search_triesMembers_91 : decode cX7_triesMembers 91 = .ok (.aload_n 2, 1) := by decide +kernel
theorem D_Search_triesMembers_92 : decode cX7_triesMembers 92 = .ok (.iload_n 3, 1) := by decide +kernel
theorem D_Search_triesMembers_93 : decode cX7_triesMembers 93 = .ok (.iconst (1), 1) := by decide +kernel
theorem D_Search_triesMembers_94 : decode cX7_triesMembers 94 = .ok (.iadd, 1) := by decide +kernel
theorem D_Search_triesMembers_95 : decode cX7_triesMembers 95 = .ok (.iload 4, 2) := by decide +kernel
theorem D_Search_triesMembers_97 : decode cX7_triesMembers 97 = .ok (.iconst (1), 1) := by decide +kernel
theorem D_Search_triesMembers_98 : decode cX7_triesMembers 98 = .ok (.iadd, 1) := by decide +kernel
theorem D_Search_triesMembers_99 : decode cX7_triesMembers 99 = .ok (.iload 5, 2) := by decide +kernel
theorem D_Search_triesMembers_101 : decode cX7_triesMembers 101 = .ok (.iconst (1), 1) := by decide +kernel
theorem D_Search_triesMembers_102 : decode cX7_triesMembers 102 = .ok (.isub, 1) := by decide +kernel
theorem D_Search_triesMembers_103 : decode cX7_triesMembers 103 = .ok (.invokevirtual 153, 3) := by decide +kernel
theorem D_Search_triesMembers_106 : decode cX7_triesMembers 106 = .ok (.ifCond .eq (7), 3) := by decide +kernel
theorem D_Search_triesMembers_109 : decode cX7_triesMembers 109 = .ok (.iconst (1), 1) := by decide +kernel
theorem D_Search_triesMembers_110 : decode cX7_triesMembers 110 = .ok (.goto (4), 3) := by decide +kernel
theorem D_Search_triesMembers_113 : decode cX7_triesMembers 113 = .ok (.iconst (0), 1) := by decide +kernel
theorem D_Search_triesMembers_114 : decode cX7_triesMembers 114 = .ok (.ireturn, 1) := by decide +kernel
theorem D_Search_triesMembers_115 : decode cX7_triesMembers 115 = .ok (.aload_n 0, 1) := by decide +kernel
theorem D_Search_triesMembers_116 : decode cX7_triesMembers 116 = .ok (.getfield 55, 3) := by decide +kernel
theorem D_Search_triesMembers_119 : decode cX7_triesMembers 119 = .ok (.istore 9, 2) := by decide +kernel
theorem D_Search_triesMembers_121 : decode cX7_triesMembers 121 = .ok (.iload_n 3, 1) := by decide +kernel
theorem D_Search_triesMembers_122 : decode cX7_triesMembers 122 = .ok (.aload_n 2, 1) := by decide +kernel
theorem D_Search_triesMembers_123 : decode cX7_triesMembers 123 = .ok (.getfield 210, 3) := by decide +kernel
theorem D_Search_triesMembers_126 : decode cX7_triesMembers 126 = .ok (.iconst (1), 1) := by decide +kernel
theorem D_Search_triesMembers_127 : decode cX7_triesMembers 127 = .ok (.isub, 1) := by decide +kernel
theorem D_Search_triesMembers_128 : decode cX7_triesMembers 128 = .ok (.if_icmp .ne (8), 3) := by decide +kernel
theorem D_Search_triesMembers_131 : decode cX7_triesMembers 131 = .ok (.iload 5, 2) := by decide +kernel
theorem D_Search_triesMembers_133 : decode cX7_triesMembers 133 = .ok (.goto (4), 3) := by decide +kernel
theorem D_Search_triesMembers_136 : decode cX7_triesMembers 136 = .ok (.iconst (0), 1) := by decide +kernel
theorem D_Search_triesMembers_137 : decode cX7_triesMembers 137 = .ok (.istore 10, 2) := by decide +kernel
theorem D_Search_triesMembers_139 : decode cX7_triesMembers 139 = .ok (.iload 10, 2) := by decide +kernel
theorem D_Search_triesMembers_141 : decode cX7_triesMembers 141 = .ok (.iload 5, 2) := by decide +kernel
theorem D_Search_triesMembers_143 : decode cX7_triesMembers 143 = .ok (.if_icmp .gt (69), 3) := by decide +kernel
theorem D_Search_triesMembers_146 : decode cX7_triesMembers 146 = .ok (.aload_n 0, 1) := by decide +kernel
theorem D_Search_triesMembers_147 : decode cX7_triesMembers 147 = .ok (.getfield 39, 3) := by decide +kernel
theorem D_Search_triesMembers_150 : decode cX7_triesMembers 150 = .ok (.ifCond .ne (62), 3) := by decide +kernel
theorem D_Search_triesMembers_153 : decode cX7_triesMembers 153 = .ok (.aload_n 0, 1) := by decide +kernel
theorem D_Search_triesMembers_154 : decode cX7_triesMembers 154 = .ok (.iload 9, 2) := by decide +kernel
theorem D_Search_triesMembers_156 : decode cX7_triesMembers 156 = .ok (.putfield 55, 3) := by decide +kernel
theorem D_Search_triesMembers_159 : decode cX7_triesMembers 159 = .ok (.aload_n 0, 1) := by decide +kernel
theorem D_Search_triesMembers_160 : decode cX7_triesMembers 160 = .ok (.aload_n 1, 1) := by decide +kernel
theorem D_Search_triesMembers_161 : decode cX7_triesMembers 161 = .ok (.getfield 65, 3) := by decide +kernel
theorem D_Search_triesMembers_164 : decode cX7_triesMembers 164 = .ok (.iconst (1), 1) := by decide +kernel
theorem D_Search_triesMembers_165 : decode cX7_triesMembers 165 = .ok (.iadd, 1) := by decide +kernel
theorem D_Search_triesMembers_166 : decode cX7_triesMembers 166 = .ok (.lload 7, 2) := by decide +kernel
theorem D_Search_triesMembers_168 : decode cX7_triesMembers 168 = .ok (.iload 4, 2) := by decide +kernel
theorem D_Search_triesMembers_170 : decode cX7_triesMembers 170 = .ok (.iload 10, 2) := by decide +kernel
theorem D_Search_triesMembers_172 : decode cX7_triesMembers 172 = .ok (.aload_n 1, 1) := by decide +kernel
theorem D_Search_triesMembers_173 : decode cX7_triesMembers 173 = .ok (.getfield 123, 3) := by decide +kernel
theorem D_Search_triesMembers_176 : decode cX7_triesMembers 176 = .ok (.invokevirtual 58, 3) := by decide +kernel
theorem D_Search_triesMembers_179 : decode cX7_triesMembers 179 = .ok (.ifCond .eq (27), 3) := by decide +kernel
theorem D_Search_triesMembers_182 : decode cX7_triesMembers 182 = .ok (.aload_n 0, 1) := by decide +kernel
theorem D_Search_triesMembers_183 : decode cX7_triesMembers 183 = .ok (.aload_n 1, 1) := by decide +kernel
theorem D_Search_triesMembers_184 : decode cX7_triesMembers 184 = .ok (.aload_n 2, 1) := by decide +kernel
theorem D_Search_triesMembers_185 : decode cX7_triesMembers 185 = .ok (.iload_n 3, 1) := by decide +kernel
theorem D_Search_triesMembers_186 : decode cX7_triesMembers 186 = .ok (.iconst (1), 1) := by decide +kernel
theorem D_Search_triesMembers_187 : decode cX7_triesMembers 187 = .ok (.iadd, 1) := by decide +kernel
theorem D_Search_triesMembers_188 : decode cX7_triesMembers 188 = .ok (.iload 4, 2) := by decide +kernel
theorem D_Search_triesMembers_190 : decode cX7_triesMembers 190 = .ok (.iload 10, 2) := by decide +kernel
theorem D_Search_triesMembers_192 : decode cX7_triesMembers 192 = .ok (.iadd, 1) := by decide +kernel
theorem D_Search_triesMembers_193 : decode cX7_triesMembers 193 = .ok (.iload 5, 2) := by decide +kernel
theorem D_Search_triesMembers_195 : decode cX7_triesMembers 195 = .ok (.iload 10, 2) := by decide +kernel
theorem D_Search_triesMembers_197 : decode cX7_triesMembers 197 = .ok (.isub, 1) := by decide +kernel
theorem D_Search_triesMembers_198 : decode cX7_triesMembers 198 = .ok (.invokevirtual 153, 3) := by decide +kernel
theorem D_Search_triesMembers_201 : decode cX7_triesMembers 201 = .ok (.ifCond .eq (5), 3) := by decide +kernel
theorem D_Search_triesMembers_204 : decode cX7_triesMembers 204 = .ok (.iconst (1), 1) := by decide +kernel
theorem D_Search_triesMembers_205 : decode cX7_triesMembers 205 = .ok (.ireturn, 1) := by decide +kernel
theorem D_Search_triesMembers_206 : decode cX7_triesMembers 206 = .ok (.iinc 10 (1), 3) := by decide +kernel
theorem D_Search_triesMembers_209 : decode cX7_triesMembers 209 = .ok (.goto (-70), 3) := by decide +kernel
theorem D_Search_triesMembers_212 : decode cX7_triesMembers 212 = .ok (.iconst (0), 1) := by decide +kernel
theorem D_Search_triesMembers_213 : decode cX7_triesMembers 213 = .ok (.ireturn, 1) := by decide +kernel
def K_Search_triesMembers (n : Nat) : SC := (cX7_triesMembers, "TwoLevels$Search", 11, 4 + n + 1, false, [3, 4, 8, 43, 44, 45, 46, 47, 48, 49, 51], NoQ)
def b_Search_triesMembers (R : Nat → MD Int32) : MD Int32 := mth zz 11 (sq (sIf (eh2 c_ge (lI 3) (eh1 (gI 1 2) (lR 2))) (rtn (eIf (eh1 z_eq (lI 5)) (eC (nI 1)) (eC (nI 0)))) sk)
 (sq (sI1 6 (kV 1 d_Choice_isToken (lR 2) [vI (lI 3)]))
 (sq (sIf (cAnd (eh1 z_ne (lI 6)) (eh1 z_eq (lI 5))) (rtn (eC (nI 0))) sk)
 (sq (sJ1 7 (kV 3 d_Fit_spell (eh2 (aR (.object "TwoLevels$Fit")) (eh1 (gR 8 3) (lR 0)) (eh1 (gI 4 2) (lR 1))) [vR (eh2 (aR (.array .int)) (eh1 (gR 1 1) (lR 2)) (lI 3)), vI (eC (nI 6))]))
 (sq (sIf (eh2 j_eq (lJ 7) (eC (-1))) (rtn (eC (nI 0))) sk)
 (sq (sIf (eh1 z_ne (lI 6)) (rtn (eIf (cAnd (eh2 j_eq (eh2 aJ (eh1 (gR 8 2) (lR 0)) (lI 4)) (lJ 7)) (eh1 z_ne (kV 8 (R 3) (lR 0) [vR (lR 1), vR (lR 2), vI (eh2 iaddF (lI 3) (eC (nI 1))), vI (eh2 iaddF (lI 4) (eC (nI 1))), vI (eh2 isubF (lI 5) (eC (nI 1)))]))) (eC (nI 1)) (eC (nI 0)))) sk)
 (sq (sI1 9 (eh1 (gI 8 10) (lR 0)))
 (sq (sq (sI1 10 (eIf (eh2 c_eq (lI 3) (eh2 isubF (eh1 (gI 1 2) (lR 2)) (eC (nI 1)))) (lI 5) (eC (nI 0))))
 (loop (cAnd (eh2 c_le (lI 10) (lI 5)) (cNot (eh1 z_ne (eh1 (gI 8 4) (lR 0)))))
 (sq (sh2 (pI false 8 10) (lR 0) (lI 9))
 (sIf (cAnd (eh1 z_ne (kV 8 (R 0) (lR 0) [vI (eh2 iaddF (eh1 (gI 4 2) (lR 1)) (eC (nI 1))), vJ (lJ 7), vI (lI 4), vI (lI 10), vI (eh1 (gI 4 0) (lR 1))])) (eh1 z_ne (kV 8 (R 3) (lR 0) [vR (lR 1), vR (lR 2), vI (eh2 iaddF (lI 3) (eC (nI 1))), vI (eh2 iaddF (lI 4) (lI 10)), vI (eh2 isubF (lI 5) (lI 10))]))) (rtn (eC (nI 1))) sk))
 (sInc 10 (nI 1))))
 (rtn (eC (nI 0)))))))))))
theorem s_Search_triesMembers (n : Nat) (R : Nat → MD Int32) (h0 : MJ (4 + n) [3, 4, 8, 43, 44, 45, 46, 47, 48, 49, 51] yX7_ask (some .boolean) eI (R 0)) (h3 : MJ (4 + n) [3, 4, 8, 43, 44, 45, 46, 47, 48, 49, 51] yX7_triesMembers (some .boolean) eI (R 3)) : MJ (4 + n + 1) [3, 4, 8, 43, 44, 45, 46, 47, 48, 49, 51] yX7_triesMembers (some .boolean) eI (b_Search_triesMembers R) := MJ_of (K := K_Search_triesMembers n) (ri := .ireturn) (n1 := 0) (n2 := 0) (n3 := 0)
 (SJ_sq (p0 := 0) (p1 := 19) (nN := 0) (nB := 0) (nC := 0) (SJ_if (p0 := 0) (pT := 8) (pF := 19) (nN := 19) (nB := 0) (nC := 0) (CJ_ge' (off := 14) (tgt := 19) (p0 := 0) (p1 := 1) (p2 := 5) (EJ_iload_n (j := 3) (i := 3) (pc := 0) D_Search_triesMembers_0 rfl) (EJ_getI (t := 1) (c := 0) (kf := 2) (r := (RX0, TX0, 11)) (p0 := 1) (p1 := 2) (EJ_aload_n (j := 2) (i := 2) (pc := 1) D_Search_triesMembers_1 rfl) D_Search_triesMembers_2 ⟨rfl, rfl, by decide, q_423⟩ (fun _ _ => rfl)) D_Search_triesMembers_5 rfl) (SJ_ret (p0 := 8) (p1 := 18) (EJ_if (p0 := 8) (pT := 13) (pF := 17) (pE := 14) (p1 := 18) (CZ_eq' (off := 7) (tgt := 17) (p0 := 8) (p1 := 10) (EJ_iload (i := 5) (pc := 8) D_Search_triesMembers_8) D_Search_triesMembers_10 rfl) (EJ_iconst (n := 1) (v := (nI 1)) (pc := 13) D_Search_triesMembers_13 (by decide +kernel)) (Lead.goto (K := (K_Search_triesMembers n)) (pc := 14) (tgt := 18) D_Search_triesMembers_14 rfl) (EJ_iconst (n := 0) (v := (nI 0)) (pc := 17) D_Search_triesMembers_17 (by decide +kernel))) D_Search_triesMembers_18) SJ_sk)
 (SJ_sq (p0 := 19) (p1 := 26) (nN := 0) (nB := 0) (nC := 0) (SJ_istore (i := 6) (p0 := 19) (p1 := 24) (EJ_callV (t := 1) (c := 0) (r := (RX0, TX0, 11)) (p0 := 19) (p1 := 20) (p2 := 21) (EJ_aload_n (j := 2) (i := 2) (pc := 19) D_Search_triesMembers_19 rfl) (AJ_I (p0 := 20) (p1 := 21) (p2 := 21) (EJ_iload_n (j := 3) (i := 3) (pc := 20) D_Search_triesMembers_20 rfl) AJ_nil) m_Choice_isToken E1_I D_Search_triesMembers_21 rfl rfl rfl q_846 q_847 q_848 q_103 ⟨by decide +kernel, by decide +kernel, by decide +kernel⟩ (by decide) (show 1 + 1 ≤ 4 + n + 1 from by omega) (fun _ h => absurd h List.not_mem_nil)) D_Search_triesMembers_24)
 (SJ_sq (p0 := 26) (p1 := 38) (nN := 0) (nB := 0) (nC := 0) (SJ_if (p0 := 26) (pT := 36) (pF := 38) (nN := 38) (nB := 0) (nC := 0) (CJ_and (p0 := 26) (pM := 31) (pT := 36) (pF := 38) (CZ_ne' (off := 10) (tgt := 38) (p0 := 26) (p1 := 28) (EJ_iload (i := 6) (pc := 26) D_Search_triesMembers_26) D_Search_triesMembers_28 rfl) (CZ_eq' (off := 5) (tgt := 38) (p0 := 31) (p1 := 33) (EJ_iload (i := 5) (pc := 31) D_Search_triesMembers_31) D_Search_triesMembers_33 rfl)) (SJ_ret (p0 := 36) (p1 := 37) (EJ_iconst (n := 0) (v := (nI 0)) (pc := 36) D_Search_triesMembers_36 (by decide +kernel)) D_Search_triesMembers_37) SJ_sk)
 (SJ_sq (p0 := 38) (p1 := 60) (nN := 0) (nB := 0) (nC := 0) (SJ_lstore (i := 7) (p0 := 38) (p1 := 58) (EJ_callV (t := 3) (c := 2) (r := (RX2, TX2, 12)) (p0 := 38) (p1 := 47) (p2 := 55) (EJ_aald (p0 := 38) (p1 := 42) (p2 := 46) (EJ_getR (t := 8) (c := 7) (kf := 3) (r := (RX7, TX7, 11)) (p0 := 38) (p1 := 39) (EJ_aload_n (j := 0) (i := 0) (pc := 38) D_Search_triesMembers_38 rfl) D_Search_triesMembers_39 ⟨rfl, rfl, by decide, q_231⟩ (fun _ _ => rfl)) (EJ_getI (t := 4) (c := 3) (kf := 2) (r := (RX3, TX3, 11)) (p0 := 42) (p1 := 43) (EJ_aload_n (j := 1) (i := 1) (pc := 42) D_Search_triesMembers_42 rfl) D_Search_triesMembers_43 ⟨rfl, rfl, by decide, q_799⟩ (fun _ _ => rfl)) D_Search_triesMembers_46 (Or.inl ⟨_, rfl⟩)) (AJ_R (p0 := 47) (p1 := 53) (p2 := 55) (EJ_aald (p0 := 47) (p1 := 51) (p2 := 52) (EJ_getR (t := 1) (c := 0) (kf := 1) (r := (RX0, TX0, 11)) (p0 := 47) (p1 := 48) (EJ_aload_n (j := 2) (i := 2) (pc := 47) D_Search_triesMembers_47 rfl) D_Search_triesMembers_48 ⟨rfl, rfl, by decide, q_421⟩ (fun _ _ => rfl)) (EJ_iload_n (j := 3) (i := 3) (pc := 51) D_Search_triesMembers_51 rfl) D_Search_triesMembers_52 (Or.inr ⟨_, rfl⟩)) (AJ_I (p0 := 53) (p1 := 55) (p2 := 55) (EJ_bipush (n := 6) (v := (nI 6)) (pc := 53) D_Search_triesMembers_53 (by decide +kernel)) AJ_nil)) m_Fit_spell E1_J D_Search_triesMembers_55 rfl rfl rfl q_850 q_851 q_852 q_95 ⟨by decide +kernel, by decide +kernel, by decide +kernel⟩ (by decide) (show 1 + 1 ≤ 4 + n + 1 from by omega) (fun _ h => absurd h List.not_mem_nil)) D_Search_triesMembers_58)
 (SJ_sq (p0 := 60) (p1 := 71) (nN := 0) (nB := 0) (nC := 0) (SJ_if (p0 := 60) (pT := 69) (pF := 71) (nN := 71) (nB := 0) (nC := 0) (CL_eq' (off := 5) (tgt := 71) (p0 := 60) (p1 := 62) (p2 := 65) (EJ_lload (i := 7) (pc := 60) D_Search_triesMembers_60) (EJ_ldc2 (i := 201) (v := (-1)) (pc := 62) D_Search_triesMembers_62 q_855) D_Search_triesMembers_65 D_Search_triesMembers_66 rfl) (SJ_ret (p0 := 69) (p1 := 70) (EJ_iconst (n := 0) (v := (nI 0)) (pc := 69) D_Search_triesMembers_69 (by decide +kernel)) D_Search_triesMembers_70) SJ_sk)
 (SJ_sq (p0 := 71) (p1 := 115) (nN := 0) (nB := 0) (nC := 0) (SJ_if (p0 := 71) (pT := 76) (pF := 115) (nN := 115) (nB := 0) (nC := 0) (CZ_ne' (off := 42) (tgt := 115) (p0 := 71) (p1 := 73) (EJ_iload (i := 6) (pc := 71) D_Search_triesMembers_71) D_Search_triesMembers_73 rfl) (SJ_ret (p0 := 76) (p1 := 114) (EJ_if (p0 := 76) (pT := 109) (pF := 113) (pE := 110) (p1 := 114) (CJ_and (p0 := 76) (pM := 89) (pT := 109) (pF := 113) (CL_eq' (off := 27) (tgt := 113) (p0 := 76) (p1 := 83) (p2 := 85) (EJ_lald (p0 := 76) (p1 := 80) (p2 := 82) (EJ_getR (t := 8) (c := 7) (kf := 2) (r := (RX7, TX7, 11)) (p0 := 76) (p1 := 77) (EJ_aload_n (j := 0) (i := 0) (pc := 76) D_Search_triesMembers_76 rfl) D_Search_triesMembers_77 ⟨rfl, rfl, by decide, q_230⟩ (fun _ _ => rfl)) (EJ_iload (i := 4) (pc := 80) D_Search_triesMembers_80) D_Search_triesMembers_82) (EJ_lload (i := 7) (pc := 83) D_Search_triesMembers_83) D_Search_triesMembers_85 D_Search_triesMembers_86 rfl) (CZ_ne' (off := 7) (tgt := 113) (p0 := 89) (p1 := 106) (EJ_callV (t := 8) (c := 7) (r := (RX7, TX7, 11)) (p0 := 89) (p1 := 90) (p2 := 103) (EJ_aload_n (j := 0) (i := 0) (pc := 89) D_Search_triesMembers_89 rfl) (AJ_R (p0 := 90) (p1 := 91) (p2 := 103) (EJ_aload_n (j := 1) (i := 1) (pc := 90) D_Search_triesMembers_90 rfl) (AJ_R (p0 := 91) (p1 := 92) (p2 := 103) (EJ_aload_n (j := 2) (i := 2) (pc := 91) D_Search_triesMembers_91 rfl) (AJ_I (p0 := 92) (p1 := 95) (p2 := 103) (EJ_iadd (p0 := 92) (p1 := 93) (p2 := 94) (EJ_iload_n (j := 3) (i := 3) (pc := 92) D_Search_triesMembers_92 rfl) (EJ_iconst (n := 1) (v := (nI 1)) (pc := 93) D_Search_triesMembers_93 (by decide +kernel)) D_Search_triesMembers_94) (AJ_I (p0 := 95) (p1 := 99) (p2 := 103) (EJ_iadd (p0 := 95) (p1 := 97) (p2 := 98) (EJ_iload (i := 4) (pc := 95) D_Search_triesMembers_95) (EJ_iconst (n := 1) (v := (nI 1)) (pc := 97) D_Search_triesMembers_97 (by decide +kernel)) D_Search_triesMembers_98) (AJ_I (p0 := 99) (p1 := 103) (p2 := 103) (EJ_isub (p0 := 99) (p1 := 101) (p2 := 102) (EJ_iload (i := 5) (pc := 99) D_Search_triesMembers_99) (EJ_iconst (n := 1) (v := (nI 1)) (pc := 101) D_Search_triesMembers_101 (by decide +kernel)) D_Search_triesMembers_102) AJ_nil))))) h3 E1_I D_Search_triesMembers_103 rfl rfl rfl q_843 q_844 q_28 q_96 ⟨by decide +kernel, by decide +kernel, by decide +kernel⟩ (by decide) (Nat.le_refl _) (show ∀ x_ ∈ ([3, 4, 8, 43, 44, 45, 46, 47, 48, 49, 51] : List Nat), x_ ∈ ([3, 4, 8, 43, 44, 45, 46, 47, 48, 49, 51] : List Nat) from by decide)) D_Search_triesMembers_106 rfl)) (EJ_iconst (n := 1) (v := (nI 1)) (pc := 109) D_Search_triesMembers_109 (by decide +kernel)) (Lead.goto (K := (K_Search_triesMembers n)) (pc := 110) (tgt := 114) D_Search_triesMembers_110 rfl) (EJ_iconst (n := 0) (v := (nI 0)) (pc := 113) D_Search_triesMembers_113 (by decide +kernel))) D_Search_triesMembers_114) SJ_sk)
 (SJ_sq (p0 := 115) (p1 := 121) (nN := 0) (nB := 0) (nC := 0) (SJ_istore (i := 9) (p0 := 115) (p1 := 119) (EJ_getI (t := 8) (c := 7) (kf := 10) (r := (RX7, TX7, 11)) (p0 := 115) (p1 := 116) (EJ_aload_n (j := 0) (i := 0) (pc := 115) D_Search_triesMembers_115 rfl) D_Search_triesMembers_116 ⟨rfl, rfl, by decide, q_242⟩ (fun _ _ => rfl)) D_Search_triesMembers_119)
 (SJ_sq (p0 := 121) (p1 := 212) (nN := 0) (nB := 0) (nC := 0) (SJ_sq (p0 := 121) (p1 := 139) (nN := 212) (nB := 0) (nC := 0) (SJ_istore (i := 10) (p0 := 121) (p1 := 137) (EJ_if (p0 := 121) (pT := 131) (pF := 136) (pE := 133) (p1 := 137) (CJ_eq' (off := 8) (tgt := 136) (p0 := 121) (p1 := 122) (p2 := 128) (EJ_iload_n (j := 3) (i := 3) (pc := 121) D_Search_triesMembers_121 rfl) (EJ_isub (p0 := 122) (p1 := 126) (p2 := 127) (EJ_getI (t := 1) (c := 0) (kf := 2) (r := (RX0, TX0, 11)) (p0 := 122) (p1 := 123) (EJ_aload_n (j := 2) (i := 2) (pc := 122) D_Search_triesMembers_122 rfl) D_Search_triesMembers_123 ⟨rfl, rfl, by decide, q_423⟩ (fun _ _ => rfl)) (EJ_iconst (n := 1) (v := (nI 1)) (pc := 126) D_Search_triesMembers_126 (by decide +kernel)) D_Search_triesMembers_127) D_Search_triesMembers_128 rfl) (EJ_iload (i := 5) (pc := 131) D_Search_triesMembers_131) (Lead.goto (K := (K_Search_triesMembers n)) (pc := 133) (tgt := 137) D_Search_triesMembers_133 rfl) (EJ_iconst (n := 0) (v := (nI 0)) (pc := 136) D_Search_triesMembers_136 (by decide +kernel))) D_Search_triesMembers_137)
 (SJ_loop (p0 := 139) (pB := 153) (pS := 206) (pE := 212) (CJ_and (p0 := 139) (pM := 146) (pT := 153) (pF := 212) (CJ_le' (off := 69) (tgt := 212) (p0 := 139) (p1 := 141) (p2 := 143) (EJ_iload (i := 10) (pc := 139) D_Search_triesMembers_139) (EJ_iload (i := 5) (pc := 141) D_Search_triesMembers_141) D_Search_triesMembers_143 rfl) (CJ_not (p0 := 146) (pT := 153) (pF := 212) (CZ_ne (off := 62) (tgt := 212) (p0 := 146) (p1 := 150) (EJ_getI (t := 8) (c := 7) (kf := 4) (r := (RX7, TX7, 11)) (p0 := 146) (p1 := 147) (EJ_aload_n (j := 0) (i := 0) (pc := 146) D_Search_triesMembers_146 rfl) D_Search_triesMembers_147 ⟨rfl, rfl, by decide, q_232⟩ (fun _ _ => rfl)) D_Search_triesMembers_150 rfl)))
 (SJ_sq (p0 := 153) (p1 := 159) (nN := 206) (nB := 212) (nC := 206) (SJ_putI (z := false) (t := 8) (c := 7) (kf := 10) (r := (RX7, TX7, 11)) (p0 := 153) (p1 := 154) (p2 := 156) (EJ_aload_n (j := 0) (i := 0) (pc := 153) D_Search_triesMembers_153 rfl) (EJ_iload (i := 9) (pc := 154) D_Search_triesMembers_154) D_Search_triesMembers_156 ⟨rfl, rfl, by decide, q_242⟩ (Or.inl rfl) (fun _ _ => ⟨rfl, rfl⟩) (fun _ _ => rfl) (show (8 : Nat) ∈ ([3, 4, 8, 43, 44, 45, 46, 47, 48, 49, 51] : List Nat) from by decide))
 (SJ_if (p0 := 159) (pT := 204) (pF := 206) (nN := 206) (nB := 212) (nC := 206) (CJ_and (p0 := 159) (pM := 182) (pT := 204) (pF := 206) (CZ_ne' (off := 27) (tgt := 206) (p0 := 159) (p1 := 179) (EJ_callV (t := 8) (c := 7) (r := (RX7, TX7, 11)) (p0 := 159) (p1 := 160) (p2 := 176) (EJ_aload_n (j := 0) (i := 0) (pc := 159) D_Search_triesMembers_159 rfl) (AJ_I (p0 := 160) (p1 := 166) (p2 := 176) (EJ_iadd (p0 := 160) (p1 := 164) (p2 := 165) (EJ_getI (t := 4) (c := 3) (kf := 2) (r := (RX3, TX3, 11)) (p0 := 160) (p1 := 161) (EJ_aload_n (j := 1) (i := 1) (pc := 160) D_Search_triesMembers_160 rfl) D_Search_triesMembers_161 ⟨rfl, rfl, by decide, q_799⟩ (fun _ _ => rfl)) (EJ_iconst (n := 1) (v := (nI 1)) (pc := 164) D_Search_triesMembers_164 (by decide +kernel)) D_Search_triesMembers_165) (AJ_J (p0 := 166) (p1 := 168) (p2 := 176) (EJ_lload (i := 7) (pc := 166) D_Search_triesMembers_166) (AJ_I (p0 := 168) (p1 := 170) (p2 := 176) (EJ_iload (i := 4) (pc := 168) D_Search_triesMembers_168) (AJ_I (p0 := 170) (p1 := 172) (p2 := 176) (EJ_iload (i := 10) (pc := 170) D_Search_triesMembers_170) (AJ_I (p0 := 172) (p1 := 176) (p2 := 176) (EJ_getI (t := 4) (c := 3) (kf := 0) (r := (RX3, TX3, 11)) (p0 := 172) (p1 := 173) (EJ_aload_n (j := 1) (i := 1) (pc := 172) D_Search_triesMembers_172 rfl) D_Search_triesMembers_173 ⟨rfl, rfl, by decide, q_796⟩ (fun _ _ => rfl)) AJ_nil))))) h0 E1_I D_Search_triesMembers_176 rfl rfl rfl q_781 q_782 q_24 q_96 ⟨by decide +kernel, by decide +kernel, by decide +kernel⟩ (by decide) (Nat.le_refl _) (show ∀ x_ ∈ ([3, 4, 8, 43, 44, 45, 46, 47, 48, 49, 51] : List Nat), x_ ∈ ([3, 4, 8, 43, 44, 45, 46, 47, 48, 49, 51] : List Nat) from by decide)) D_Search_triesMembers_179 rfl) (CZ_ne' (off := 5) (tgt := 206) (p0 := 182) (p1 := 201) (EJ_callV (t := 8) (c := 7) (r := (RX7, TX7, 11)) (p0 := 182) (p1 := 183) (p2 := 198) (EJ_aload_n (j := 0) (i := 0) (pc := 182) D_Search_triesMembers_182 rfl) (AJ_R (p0 := 183) (p1 := 184) (p2 := 198) (EJ_aload_n (j := 1) (i := 1) (pc := 183) D_Search_triesMembers_183 rfl) (AJ_R (p0 := 184) (p1 := 185) (p2 := 198) (EJ_aload_n (j := 2) (i := 2) (pc := 184) D_Search_triesMembers_184 rfl) (AJ_I (p0 := 185) (p1 := 188) (p2 := 198) (EJ_iadd (p0 := 185) (p1 := 186) (p2 := 187) (EJ_iload_n (j := 3) (i := 3) (pc := 185) D_Search_triesMembers_185 rfl) (EJ_iconst (n := 1) (v := (nI 1)) (pc := 186) D_Search_triesMembers_186 (by decide +kernel)) D_Search_triesMembers_187) (AJ_I (p0 := 188) (p1 := 193) (p2 := 198) (EJ_iadd (p0 := 188) (p1 := 190) (p2 := 192) (EJ_iload (i := 4) (pc := 188) D_Search_triesMembers_188) (EJ_iload (i := 10) (pc := 190) D_Search_triesMembers_190) D_Search_triesMembers_192) (AJ_I (p0 := 193) (p1 := 198) (p2 := 198) (EJ_isub (p0 := 193) (p1 := 195) (p2 := 197) (EJ_iload (i := 5) (pc := 193) D_Search_triesMembers_193) (EJ_iload (i := 10) (pc := 195) D_Search_triesMembers_195) D_Search_triesMembers_197) AJ_nil))))) h3 E1_I D_Search_triesMembers_198 rfl rfl rfl q_843 q_844 q_28 q_96 ⟨by decide +kernel, by decide +kernel, by decide +kernel⟩ (by decide) (Nat.le_refl _) (show ∀ x_ ∈ ([3, 4, 8, 43, 44, 45, 46, 47, 48, 49, 51] : List Nat), x_ ∈ ([3, 4, 8, 43, 44, 45, 46, 47, 48, 49, 51] : List Nat) from by decide)) D_Search_triesMembers_201 rfl)) (SJ_ret (p0 := 204) (p1 := 205) (EJ_iconst (n := 1) (v := (nI 1)) (pc := 204) D_Search_triesMembers_204 (by decide +kernel)) D_Search_triesMembers_205) SJ_sk))
 (SJ_post (SJ_iinc (i := 10) (n := 1) (v := (nI 1)) (pc := 206) D_Search_triesMembers_206 (by decide +kernel)) (Lead.goto (K := (K_Search_triesMembers n)) (pc := 209) (tgt := 139) D_Search_triesMembers_209 rfl))))
 (SJ_ret (p0 := 212) (p1 := 213) (EJ_iconst (n := 0) (v := (nI 0)) (pc := 212) D_Search_triesMembers_212 (by decide +kernel)) D_Search_triesMembers_213)))))))))
 RTm_bool q_845 (by decide +kernel) rfl (fun h => by cases h) (show 11 ≤ 40 from by decide) (fun _ => trivial)
def R_Search_ask : Nat → Nat → MD Int32
  | 0 => fun _ _ _ => none
  | n + 1 => fun j => match j with | 0 => b_Search_ask (R_Search_ask n) | 1 => b_Search_triesChoices (R_Search_ask n) | 2 => b_Search_triesFrees (R_Search_ask n) | _ => b_Search_triesMembers (R_Search_ask n)
theorem g_Search_ask : ∀ n, MJ (4 + n) [3, 4, 8, 43, 44, 45, 46, 47, 48, 49, 51] yX7_ask (some .boolean) eI (R_Search_ask n 0) ∧ MJ (4 + n) [3, 4, 8, 43, 44, 45, 46, 47, 48, 49, 51] yX7_triesChoices (some .boolean) eI (R_Search_ask n 1) ∧ MJ (4 + n) [3, 4, 8, 43, 44, 45, 46, 47, 48, 49, 51] yX7_triesFrees (some .boolean) eI (R_Search_ask n 2) ∧ MJ (4 + n) [3, 4, 8, 43, 44, 45, 46, 47, 48, 49, 51] yX7_triesMembers (some .boolean) eI (R_Search_ask n 3) := by
  intro n
  induction n with
  | zero => exact ⟨MJ_none q_783 (by decide), MJ_none q_835 (by decide), MJ_none q_842 (by decide), MJ_none q_845 (by decide)⟩
  | succ n ih => exact ⟨s_Search_ask n (R_Search_ask n) ih.2.1, s_Search_triesChoices n (R_Search_ask n) ih.2.2.1, s_Search_triesFrees n (R_Search_ask n) ih.2.2.1 ih.2.2.2, s_Search_triesMembers n (R_Search_ask n) ih.1 ih.2.2.2⟩
def d_Search_ask : MD Int32 := R_Search_ask 200 0
theorem m_Search_ask : MJ 204 [3, 4, 8, 43, 44, 45, 46, 47, 48, 49, 51] yX7_ask (some .boolean) eI d_Search_ask := (g_Search_ask 200).1
def d_Search_triesChoices : MD Int32 := R_Search_ask 200 1
theorem m_Search_triesChoices : MJ 204 [3, 4, 8, 43, 44, 45, 46, 47, 48, 49, 51] yX7_triesChoices (some .boolean) eI d_Search_triesChoices := (g_Search_ask 200).2.1
def d_Search_triesFrees : MD Int32 := R_Search_ask 200 2
theorem m_Search_triesFrees : MJ 204 [3, 4, 8, 43, 44, 45, 46, 47, 48, 49, 51] yX7_triesFrees (some .boolean) eI d_Search_triesFrees := (g_Search_ask 200).2.2.1
def d_Search_triesMembers : MD Int32 := R_Search_ask 200 3
theorem m_Search_triesMembers : MJ 204 [3, 4, 8, 43, 44, 45, 46, 47, 48, 49, 51] yX7_triesMembers (some .boolean) eI d_Search_triesMembers := (g_Search_ask 200).2.2.2
