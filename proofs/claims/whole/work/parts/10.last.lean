/-! ===== clones, copies, branches by a table, rows written out, the script ===== -/
def eCl (ty : FieldType) (t : Nat) (a : EX (Option Nat)) : EX (Option Nat) := fun σ h => (a σ h).bind fun x => x.1.bind fun b => if sA (hT x.2 b) = some ty then some (some (hN x.2), nwC x.2 t (hL x.2 b) (hL x.2 b) (hI x.2 b) (hJ x.2 b) (hR x.2 b)) else none
def cloneN (ad : String) : MethodName := ⟨ad, "clone", "()Ljava/lang/Object;"⟩
theorem EJ_clone {K : SC} {k : Nat} {ty : FieldType} {t idx idx2 : Nat} {ad : String} {a : EX (Option Nat)} {p0 p1 : Nat} (ha : EJ K k eR a p0 p1) (hd : decode (kc K) p1 = .ok (.invokevirtual idx, 3)) (hd2 : decode (kc K) (p1 + 3) = .ok (.checkcast idx2, 3)) (had : "[" ++ ty.toString = ad) (ht : sA t = some ty) (hq : Cond.methodLink (ko K) idx (cloneN ad) ∈ TB) (hsame : Cond.sameMethod ad "java/lang/Object" "clone" "()Ljava/lang/Object;" ∈ TB) (hnat : Cond.native (cloneN "java/lang/Object") ∈ TB) (hinst : Cond.instanceMethod (cloneN "java/lang/Object") ∈ TB) (hsel : Cond.selects ad (cloneN ad) (cloneN "java/lang/Object") ∈ TB) (hcl : ad ∈ CWs) (hlk : Cond.classLink (ko K) idx2 ad ∈ TB) (hfit : ∀ h b i, fits ty (kv ty h b i) = true) (hk : k ≤ 8) (hdd : 1 ≤ kd K) : EJ K k eR (eCl ty t a) p0 (p1 + 6) := by
  have key : ∀ σ h v h', eCl ty t a σ h = some (v, h') → ∃ b h1, a σ h = some (some b, h1) ∧ sA (hT h1 b) = some ty ∧ v = some (hN h1) ∧ h' = nwC h1 t (hL h1 b) (hL h1 b) (hI h1 b) (hJ h1 b) (hR h1 b) := by
    intro σ h v h' q
    obtain ⟨⟨x, h1⟩, e1, e2⟩ := obind q
    obtain ⟨b, hx, e3⟩ := obind (o := x) e2
    subst hx
    obtain ⟨c1, e4⟩ := oif e3
    cases e4
    exact ⟨b, h1, e1, c1, rfl, rfl⟩
  refine ⟨fun σ h v h' q => ?_, fun X hC σ h st v h' hs hb q hfi g => ?_⟩
  · obtain ⟨b, h1, e1, -, -, rfl⟩ := key σ h v h' q
    exact (ha.1 _ _ _ _ e1).tr Le.nwC
  · obtain ⟨b, h1, e1, hb1, rfl, rfl⟩ := key σ h v h' q
    have l1 := ha.1 _ _ _ _ e1
    refine ha.2 X hC σ h st (some b) h1 hs hb e1 (hfi.of (w := kw K) Le.nwC) fun ls H locs hl hh ho => ?_
    have hts := hC.2.2.2.2.1
    have hKN := hC.2.2.2.2.2.1
    have z1 := hC.2.2.2.2.2.2.1
    have z2 := hC.2.2.2.2.2.2.2.1
    have hAR := hKN.2.1 ty (sA_in hb1)
    have hnm : (xS X).vm.findClass ad = some ((xAC X) ty) := by rw [← had]; exact hAR.1
    obtain ⟨f1, f2⟩ := hfi
    obtain ⟨g1, g2⟩ := hb.of l1
    have n1 : hN (nwC h1 t (hL h1 b) (hL h1 b) (hI h1 b) (hJ h1 b) (hR h1 b)) = hN h1 + 1 := rfl
    have n2 : hU (nwC h1 t (hL h1 b) (hL h1 b) (hI h1 b) (hJ h1 b) (hR h1 b)) = hU h1 + hL h1 b := rfl
    rw [n1] at f1
    rw [n2] at f2
    have hcellB := hh.arr hb1
    refine W_clone hC.1 hC.2.1 (by rw [hC.2.2.1]; exact hl.2.1.symm) hC.2.2.2.1 (hts _ hq) (hts _ hsame) (hts _ hnat) (hts _ hinst) (hts _ hsel) (hKN.2.2.2.1 ad hcl) hcellB hAR.of hnm (fun i _ => hfit h1 b i) (by omega) (by show sm st + 14 ≤ _; omega) (by omega) (by omega) hd ?_
    have hh' : Hr (xD X) (xAC X) (xH X) (nwC h1 t (hL h1 b) (hL h1 b) (hI h1 b) (hJ h1 b) (hR h1 b)) (H.push (arrV ((xAC X) ty) (hL h1 b) (kv ty h1 b))) := by
      have m1 : hT (nwC h1 t (hL h1 b) (hL h1 b) (hI h1 b) (hJ h1 b) (hR h1 b)) (hN h1) = t := by simp [hT, nwC, hN, va_up]
      have m2 : hL (nwC h1 t (hL h1 b) (hL h1 b) (hI h1 b) (hJ h1 b) (hR h1 b)) (hN h1) = hL h1 b := by simp [hL, nwC, hN, va_up]
      have m3 : kv ty (nwC h1 t (hL h1 b) (hL h1 b) (hI h1 b) (hJ h1 b) (hR h1 b)) (hN h1) = kv ty h1 b := by
        funext j
        have a1 : hI (nwC h1 t (hL h1 b) (hL h1 b) (hI h1 b) (hJ h1 b) (hR h1 b)) (hN h1) j = hI h1 b j := by simp [hI, nwC, hN, va_up]
        have a2 : hJ (nwC h1 t (hL h1 b) (hL h1 b) (hI h1 b) (hJ h1 b) (hR h1 b)) (hN h1) j = hJ h1 b j := by simp [hJ, nwC, hN, va_up]
        have a3 : hR (nwC h1 t (hL h1 b) (hL h1 b) (hI h1 b) (hJ h1 b) (hR h1 b)) (hN h1) j = hR h1 b j := by simp [hR, nwC, hN, va_up]
        cases ty <;> simp only [kv, a1, a2, a3]
      refine hh.new (by simp) (fun q hq => by rw [Array.getElem?_push, if_neg (Nat.ne_of_lt hq)]) ⟨fun c hc => ?_, fun ty' hty => ?_⟩
      · rw [m1, sA_sC ht] at hc
        cases hc
      · rw [m1, ht] at hty
        cases hty
        rw [m2, m3, ← hh.1]
        simp
    have hcell' : (H.push (arrV ((xAC X) ty) (hL h1 b) (kv ty h1 b)))[H.size]? = some (vp_cell ((xAC X) ty) (cn ty h1 b)) := by
      rw [cn_cell]
      simp
    refine va_castA (D := xD X) (cl := []) (ws := [(H.size, .inl ((xAC X) ty, cn ty h1 b))]) hC.1 hC.2.1 hC.2.2.2.1 (hts _ hlk) (fun kx q hq => ?_) 0 rfl hnm hd2 ?_
    · have hz : kx < 1 := (List.getElem?_eq_some_iff.mp hq).1
      rw [show kx = 0 by omega] at hq
      cases hq
      exact hcell'
    · have := g ls _ locs hl hh' ho
      rw [n1, n2] at this
      rw [hh.1]
      have c1 : hN h1 + 1 - hN (xh X) = hN h1 - hN (xh X) + 1 := by omega
      have c2 : hU h1 + hL h1 b - hU (xh X) = hU h1 - hU (xh X) + hL h1 b := by omega
      rw [c1, c2] at this
      exact this
/-- System.arraycopy of ints, of longs -/
def cpI (ws : List Nat) (vs : List Value) (h : AH) : Option AH := match vs with
  | [.ref a, .int sp, .ref b, .int dp, .int n] => if sA (hT h a) = some .int ∧ sA (hT h b) = some .int ∧ hT h b ∈ ws ∧ ¬ sp < 0 ∧ ¬ dp < 0 ∧ ¬ n < 0 ∧ sp.toNatClampNeg + n.toNatClampNeg ≤ hL h a ∧ dp.toNatClampNeg + n.toNatClampNeg ≤ hL h b then some (sIs h b (va_cpy (hI h a) (hI h b) sp.toNatClampNeg dp.toNatClampNeg n.toNatClampNeg)) else none
  | _ => none
def cpJ (ws : List Nat) (vs : List Value) (h : AH) : Option AH := match vs with
  | [.ref a, .int sp, .ref b, .int dp, .int n] => if sA (hT h a) = some .long ∧ sA (hT h b) = some .long ∧ hT h b ∈ ws ∧ ¬ sp < 0 ∧ ¬ dp < 0 ∧ ¬ n < 0 ∧ sp.toNatClampNeg + n.toNatClampNeg ≤ hL h a ∧ dp.toNatClampNeg + n.toNatClampNeg ≤ hL h b then some (sJs h b (va_cpy (hJ h a) (hJ h b) sp.toNatClampNeg dp.toNatClampNeg n.toNatClampNeg)) else none
  | _ => none
def sAr {ρ : Type} (f : List Value → AH → Option AH) (as : List (EX Value)) : ST ρ := fun σ h => (eArgs as σ h).bind fun x => (f x.1 x.2).bind fun z => some (.inr 0, σ, z)
theorem cpy_row {α : Type} (mk : α → Value) (f g : Nat → α) (sp dp n : Nat) : va_cpy (fun j => mk (f j)) (fun j => mk (g j)) sp dp n = fun j => mk (va_cpy f g sp dp n j) := by
  funext j
  simp only [va_cpy]
  split <;> rfl
section CPY
variable {ρ : Type} {K : SC} {emb : ρ → List Value} {ri : Instr}
theorem SJ_ar {f : List Value → AH → Option AH} {as : List (EX Value)} {p0 p1 p2 nB nC : Nat} (ha : AJ K 0 as p0 p1) (row : (∀ vs h h', f vs h = some h' → Le (kw K) h h') ∧ ∀ X, CX K X → ∀ σ h vs h', f vs h = some h' → Gd X (kn K) p2 σ [] h' → Gd X (kn K) p1 σ (vs.reverse ++ []) h) : SJ K emb ri (sAr f as) p0 p2 nB nC := by
  have key : ∀ σ h o σ' h', (sAr f as : ST ρ) σ h = some (o, σ', h') → ∃ vs h1, eArgs as σ h = some (vs, h1) ∧ f vs h1 = some h' ∧ o = .inr 0 ∧ σ' = σ := by
    intro σ h o σ' h' q
    obtain ⟨⟨vs, h1⟩, e1, e2⟩ := obind q
    obtain ⟨z, e3, e4⟩ := obind e2
    cases e4
    exact ⟨vs, h1, e1, e3, rfl, rfl⟩
  refine ⟨fun σ h o σ' h' q => ?_, fun X hC rf hf hR σ h o σ' h' hbe q hfi g => ?_⟩
  · obtain ⟨vs, h1, e1, e2, -, -⟩ := key σ h o σ' h' q
    exact (ha.1 _ _ _ _ e1).1.tr (row.1 _ _ _ e2)
  · obtain ⟨vs, h1, e1, e2, rfl, rfl⟩ := key σ h o σ' h' q
    exact ha.2 X hC _ h [] vs h1 (Nat.le_refl 0) hbe e1 (hfi.of (row.1 _ _ _ e2)) (row.2 X hC _ h1 vs _ e2 g)
theorem SJ_cpI {ws : List Nat} {as : List (EX Value)} {idx p0 p1 nB nC : Nat} (ha : AJ K 0 as p0 p1) (hd : decode (kc K) p1 = .ok (.invokestatic idx, 3)) (hq : Cond.methodLink (ko K) idx arraycopyName ∈ TB) (hnat : Cond.native arraycopyName ∈ TB) (hst : Cond.static arraycopyName ∈ TB) (hin : Cond.initialized "java/lang/System" ∈ TB) (hw : ∀ t ∈ ws, t ∈ kw K) (hdd : 1 ≤ kd K) (hnf : nativeFrameWords "java/lang/System" "arraycopy" 5 + 11 ≤ 64) : SJ K emb ri (sAr (cpI ws) as) p0 (p1 + 3) nB nC := by
  refine SJ_ar ha ⟨fun vs h h' e => ?_, fun X hC σ h vs h' e g ls H locs hl hh ho => ?_⟩
  · unfold cpI at e
    split at e
    · obtain ⟨⟨-, -, hm, -⟩, rfl⟩ := oif e
      exact Le.sIs (hw _ hm)
    · cases e
  · unfold cpI at e
    split at e
    · rename_i a sp b dp n
      obtain ⟨⟨ta, tb, hm, c1, c2, c3, c4, c5⟩, rfl⟩ := oif e
      have hts := hC.2.2.2.2.1
      have z1 := hC.2.2.2.2.2.2.1
      have z2 := hC.2.2.2.2.2.2.2.1
      refine W_copy (kv .int h a) (kv .int h b) hC.1 hC.2.1 (by rw [hC.2.2.1]; exact hl.2.1.symm) hC.2.2.2.1 (hts _ hq) (hts _ hnat) (hts _ hst) (hts _ hin) (hh.arr ta) (hh.arr tb) (hC.2.2.2.2.2.1.2.1 _ (sA_in ta)).of rfl c1 c2 c3 c4 c5 (fun i _ => rfl) (fun i => Or.inl ⟨_, rfl⟩) (by omega) (by simp; omega) hd fun L hLL => ?_
      have hlt : b < H.size := by rw [hh.1]; exact (hh.2.2.2 b (sA_0 tb)).2.1
      have hh' : Hr (xD X) (xAC X) (xH X) (sIs h b (va_cpy (hI h a) (hI h b) sp.toNatClampNeg dp.toNatClampNeg n.toNatClampNeg)) (H.setIfInBounds b (arrV ((xAC X) .int) (hL h b) (va_cpy (kv .int h a) (kv .int h b) sp.toNatClampNeg dp.toNatClampNeg n.toNatClampNeg))) := by
        refine hh.upd (sA_0 tb) rfl rfl rfl (fun b' hb' => ⟨va_up_ne _ _ hb', rfl, rfl⟩) (by simp) (fun q hq => by simp [Array.getElem?_setIfInBounds, Ne.symm hq]) ⟨fun c hc => ?_, fun ty hty => ?_⟩
        · have hc' : sC (hT h b) = some c := hc
          rw [sA_sC tb] at hc'
          cases hc'
        · have hty' : sA (hT h b) = some ty := hty
          rw [tb] at hty'
          cases hty'
          have e1 : kv .int (sIs h b (va_cpy (hI h a) (hI h b) sp.toNatClampNeg dp.toNatClampNeg n.toNatClampNeg)) b = va_cpy (kv .int h a) (kv .int h b) sp.toNatClampNeg dp.toNatClampNeg n.toNatClampNeg := by
            have e2 : ∀ f, hI (sIs h b f) b = f := fun f => by simp [hI, sIs, va_up]
            show (fun j => Value.int (hI _ b j)) = _
            rw [e2]
            exact (cpy_row .int _ _ _ _ _).symm
          rw [e1]
          show _ = some (arrV _ (hL h b) _)
          simp [Array.getElem?_setIfInBounds, hlt]
      exact g ls _ (locs ++ L) hl hh' (fun q hq => by
        rcases List.mem_append.mp hq with z | z
        · exact ho q z
        · rw [hLL q z]; exact (hh.2.2.2 b (sA_0 tb)).1)
    · cases e
theorem SJ_cpJ {ws : List Nat} {as : List (EX Value)} {idx p0 p1 nB nC : Nat} (ha : AJ K 0 as p0 p1) (hd : decode (kc K) p1 = .ok (.invokestatic idx, 3)) (hq : Cond.methodLink (ko K) idx arraycopyName ∈ TB) (hnat : Cond.native arraycopyName ∈ TB) (hst : Cond.static arraycopyName ∈ TB) (hin : Cond.initialized "java/lang/System" ∈ TB) (hw : ∀ t ∈ ws, t ∈ kw K) (hdd : 1 ≤ kd K) (hnf : nativeFrameWords "java/lang/System" "arraycopy" 5 + 11 ≤ 64) : SJ K emb ri (sAr (cpJ ws) as) p0 (p1 + 3) nB nC := by
  refine SJ_ar ha ⟨fun vs h h' e => ?_, fun X hC σ h vs h' e g ls H locs hl hh ho => ?_⟩
  · unfold cpJ at e
    split at e
    · obtain ⟨⟨-, -, hm, -⟩, rfl⟩ := oif e
      exact Le.sJs (hw _ hm)
    · cases e
  · unfold cpJ at e
    split at e
    · rename_i a sp b dp n
      obtain ⟨⟨ta, tb, hm, c1, c2, c3, c4, c5⟩, rfl⟩ := oif e
      have hts := hC.2.2.2.2.1
      have z1 := hC.2.2.2.2.2.2.1
      have z2 := hC.2.2.2.2.2.2.2.1
      refine W_copy (kv .long h a) (kv .long h b) hC.1 hC.2.1 (by rw [hC.2.2.1]; exact hl.2.1.symm) hC.2.2.2.1 (hts _ hq) (hts _ hnat) (hts _ hst) (hts _ hin) (hh.arr ta) (hh.arr tb) (hC.2.2.2.2.2.1.2.1 _ (sA_in ta)).of rfl c1 c2 c3 c4 c5 (fun i _ => rfl) (fun i => Or.inr ⟨_, rfl⟩) (by omega) (by simp; omega) hd fun L hLL => ?_
      have hlt : b < H.size := by rw [hh.1]; exact (hh.2.2.2 b (sA_0 tb)).2.1
      have hh' : Hr (xD X) (xAC X) (xH X) (sJs h b (va_cpy (hJ h a) (hJ h b) sp.toNatClampNeg dp.toNatClampNeg n.toNatClampNeg)) (H.setIfInBounds b (arrV ((xAC X) .long) (hL h b) (va_cpy (kv .long h a) (kv .long h b) sp.toNatClampNeg dp.toNatClampNeg n.toNatClampNeg))) := by
        refine hh.upd (sA_0 tb) rfl rfl rfl (fun b' hb' => ⟨rfl, va_up_ne _ _ hb', rfl⟩) (by simp) (fun q hq => by simp [Array.getElem?_setIfInBounds, Ne.symm hq]) ⟨fun c hc => ?_, fun ty hty => ?_⟩
        · have hc' : sC (hT h b) = some c := hc
          rw [sA_sC tb] at hc'
          cases hc'
        · have hty' : sA (hT h b) = some ty := hty
          rw [tb] at hty'
          cases hty'
          have e1 : kv .long (sJs h b (va_cpy (hJ h a) (hJ h b) sp.toNatClampNeg dp.toNatClampNeg n.toNatClampNeg)) b = va_cpy (kv .long h a) (kv .long h b) sp.toNatClampNeg dp.toNatClampNeg n.toNatClampNeg := by
            have e2 : ∀ f, hJ (sJs h b f) b = f := fun f => by simp [hJ, sJs, va_up]
            show (fun j => Value.long (hJ _ b j)) = _
            rw [e2]
            exact (cpy_row .long _ _ _ _ _).symm
          rw [e1]
          show _ = some (arrV _ (hL h b) _)
          simp [Array.getElem?_setIfInBounds, hlt]
      exact g ls _ (locs ++ L) hl hh' (fun q hq => by
        rcases List.mem_append.mp hq with z | z
        · exact ho q z
        · rw [hLL q z]; exact (hh.2.2.2 b (sA_0 tb)).1)
    · cases e
/-- a switch from 0 on; a break ends it -/
def sSw (e : EX Int32) (brs : List (ST ρ × Nat)) (df : ST ρ) : ST ρ := fun σ h => (e σ h).bind fun x => ((if 0 ≤ x.1.toInt then (match brs[x.1.toInt.toNat]? with | some q => q.1 | none => df) else df) σ x.2).bind fun y => match y.1 with
  | .inr 1 => some (.inr 0, y.2.1, y.2.2)
  | .inl r => some (.inl r, y.2.1, y.2.2)
  | .inr 0 => none
  | .inr (n + 2) => some (.inr (n + 2), y.2.1, y.2.2)
theorem SJ_sw {e : EX Int32} {brs : List (ST ρ × Nat)} {df : ST ρ} {dflt hi : Int} {offs : Array Int} {len p0 p1 pD nN nB nC : Nat} (he : EJ K 0 eI e p0 p1) (hd : decode (kc K) p1 = .ok (.tableswitch dflt 0 hi offs, len)) (hn : hi = (brs.length : Int) - 1) (hbr : ∀ (j : Nat) (q : ST ρ × Nat), brs[j]? = some q → (∃ off, offs[j]? = some off ∧ (p1 : Int) + off = (q.2 : Int)) ∧ SJ K emb ri q.1 q.2 0 nN nC) (hdt : (p1 : Int) + dflt = (pD : Int)) (hdf : SJ K emb ri df pD 0 nN nC) : SJ K emb ri (sSw e brs df) p0 nN nB nC := by
  have key : ∀ σ h o σ' h', sSw e brs df σ h = some (o, σ', h') → ∃ x h1 o1, e σ h = some (x, h1) ∧ (if 0 ≤ x.toInt then (match brs[x.toInt.toNat]? with | some q => q.1 | none => df) else df) σ h1 = some (o1, σ', h') ∧ ((o1 = .inr 1 ∧ o = .inr 0) ∨ (∃ r, o1 = .inl r ∧ o = .inl r) ∨ ∃ n, o1 = .inr (n + 2) ∧ o = .inr (n + 2)) := by
    intro σ h o σ' h' q
    obtain ⟨⟨x, h1⟩, e1, e2⟩ := obind q
    obtain ⟨⟨o1, σ1, h2⟩, e3, e4⟩ := obind e2
    match o1, e4 with
    | .inr 1, e4 => cases e4; exact ⟨x, h1, _, e1, e3, Or.inl ⟨rfl, rfl⟩⟩
    | .inl r, e4 => cases e4; exact ⟨x, h1, _, e1, e3, Or.inr (Or.inl ⟨r, rfl, rfl⟩)⟩
    | .inr 0, e4 => cases e4
    | .inr (n + 2), e4 => cases e4; exact ⟨x, h1, _, e1, e3, Or.inr (Or.inr ⟨n, rfl, rfl⟩)⟩
  refine ⟨fun σ h o σ' h' q => ?_, fun X hC rf hf hR σ h o σ' h' hbe q hfi g => ?_⟩
  · obtain ⟨x, h1, o1, e1, e2, -⟩ := key σ h o σ' h' q
    refine (he.1 _ _ _ _ e1).tr ?_
    split at e2
    · split at e2
      · rename_i qq hq
        exact (hbr _ _ hq).2.1 _ _ _ _ _ e2
      · exact hdf.1 _ _ _ _ _ e2
    · exact hdf.1 _ _ _ _ _ e2
  · obtain ⟨x, h1, o1, e1, e2, ho1⟩ := key σ h o σ' h' q
    have l1 := he.1 _ _ _ _ e1
    have go : ∀ (S : ST ρ) (pp : Nat), SJ K emb ri S pp 0 nN nC → S σ h1 = some (o1, σ', h') → Gd X (kn K) pp σ [] h1 := by
      intro S pp hS eS
      refine hS.2 X hC rf hf hR σ h1 o1 σ' h' (hbe.of l1) eS hfi ?_
      obtain ⟨rfl, rfl⟩ | ⟨r, rfl, rfl⟩ | ⟨n, rfl, rfl⟩ := ho1
      · exact g
      · exact g
      · exact g
    have l2 : Le (kw K) h1 h' := by
      split at e2
      · split at e2
        · rename_i qq hq
          exact (hbr _ _ hq).2.1 _ _ _ _ _ e2
        · exact hdf.1 _ _ _ _ _ e2
      · exact hdf.1 _ _ _ _ _ e2
    refine he.2 X hC σ h [] x h1 (Nat.le_refl 0) hbe e1 (hfi.of l2) fun ls H locs hl hh ho => ?_
    by_cases hx : 0 ≤ x.toInt
    · rw [if_pos hx] at e2
      cases hq : brs[x.toInt.toNat]? with
      | none =>
        rw [hq] at e2
        have hlen := List.getElem?_eq_none_iff.mp hq
        exact lv_tableOut hC.1 hC.2.1 hd (Or.inr (by omega)) hdt (go df pD hdf e2 ls H locs hl hh ho)
      | some qq =>
        rw [hq] at e2
        obtain ⟨⟨off, ho1', ho2⟩, hS⟩ := hbr _ _ hq
        have hlen := (List.getElem?_eq_some_iff.mp hq).1
        exact lv_tableIn hC.1 hC.2.1 hd (by omega) (by omega) (by rw [Int.sub_zero]; exact ho1') ho2 (go qq.1 qq.2 hS e2 ls H locs hl hh ho)
    · rw [if_neg hx] at e2
      exact lv_tableOut hC.1 hC.2.1 hd (Or.inl (by omega)) hdt (go df pD hdf e2 ls H locs hl hh ho)
end CPY
/-- a row of references written out: one place of it -/
def eSt (ws : List Nat) (C : String) (tv : Nat) (b : EX (Option Nat)) (i : Int32) (e : EX (Option Nat)) : EX (Option Nat) := fun σ h => (b σ h).bind fun x => (e σ x.2).bind fun y => (stO ws C tv x.1 i y.1 y.2).bind fun z => some (x.1, z)
theorem EJ_arrst {K : SC} {k : Nat} {ws : List Nat} {C : String} {tv cv : Nat} {r : vw_C} {b e : EX (Option Nat)} {i : Int32} {p0 p1 p2 p3 : Nat} (hb : EJ K k eR b p0 p1) (hd0 : decode (kc K) p1 = .ok (.dup, 1)) (hi : EJ K (2 + k) eI (eC i) (p1 + 1) p2) (he : EJ K (3 + k) eR e p2 p3) (hd : decode (kc K) p3 = .ok (.aastore, 1)) (htv : sC tv = some cv) (hr : classes[cv]? = some r) (hrC : r.1 = C) (hw : ∀ t ∈ ws, t ∈ kw K) : EJ K k eR (eSt ws C tv b i e) p0 (p3 + 1) := by
  have key : ∀ σ h v h', eSt ws C tv b i e σ h = some (v, h') → ∃ h1 y h2, b σ h = some (v, h1) ∧ e σ h1 = some (y, h2) ∧ stO ws C tv v i y h2 = some h' := by
    intro σ h v h' q
    obtain ⟨⟨x, h1⟩, e1, e2⟩ := obind q
    obtain ⟨⟨y, h2⟩, e3, e4⟩ := obind e2
    obtain ⟨z, e5, e6⟩ := obind e4
    cases e6
    exact ⟨h1, y, h2, e1, e3, e5⟩
  refine ⟨fun σ h v h' q => ?_, fun X hC σ h st v h' hs hbe q hfi g => ?_⟩
  · obtain ⟨h1, y, h2, e1, e2, e3⟩ := key σ h v h' q
    exact (hb.1 _ _ _ _ e1).tr ((he.1 _ _ _ _ e2).tr (stO_Le hw _ _ _ _ _ e3))
  · obtain ⟨h1, y, h2, e1, e2, e3⟩ := key σ h v h' q
    have l1 := hb.1 _ _ _ _ e1
    have l2 := he.1 _ _ _ _ e2
    have l3 := stO_Le hw _ _ _ _ _ e3
    have f2 := hfi.of l3
    have f1 := f2.of l2
    have hcat := va_rf_cat v
    refine hb.2 X hC σ h st v h1 hs hbe e1 f1 fun ls H locs hl hh ho => lv_dup hC.1 hC.2.1 hd0 hcat ?_
    refine hi.2 X hC σ h1 (va_rf v :: va_rf v :: st) i h1 (by simp only [sm, List.map_cons, List.sum_cons, hcat] at hs ⊢; omega) (hbe.of l1) rfl f1 (he.2 X hC σ h1 _ y h2 ?_ (hbe.of l1) e2 f2 (r_oast htv hr hrC hd hC e3 g)) ls H locs hl hh ho
    rw [sm_I]
    show 1 + sm (eR v ++ (eR v ++ st)) ≤ _
    rw [sm_R, sm_R]
    omega
/-! ===== the law's script ===== -/
def scQ (b L : Nat) (xs : Nat → Int32) (X : CT) : Prop := va_X b L xs (xS X) (xH X) ∧ b < (xH X).size
def eScr (b L : Nat) (xs : Nat → Int32) (i : EX Int32) : EX Int32 := fun σ h => (i σ h).bind fun x => if σ[0]? = some (.ref b) ∧ ¬ x.1 < 0 ∧ x.1.toNatClampNeg < L then some (xs x.1.toNatClampNeg, x.2) else none
def eSln (b L : Nat) : EX Int32 := fun σ h => if σ[0]? = some (.ref b) then some (nI L, h) else none
theorem EJ_scr {K : SC} {k b L : Nat} {xs : Nat → Int32} (hkq : ∀ X, kq K X → scQ b L xs X) {i : EX Int32} {p0 p2 : Nat} (hd0 : decode (kc K) p0 = .ok (.aload_n 0, 1)) (hi : EJ K (1 + k) eI i (p0 + 1) p2) (hd : decode (kc K) p2 = .ok (.iaload, 1)) : EJ K k eI (eScr b L xs i) p0 (p2 + 1) := by
  have key : ∀ σ h v h', eScr b L xs i σ h = some (v, h') → ∃ x, i σ h = some (x, h') ∧ σ[0]? = some (.ref b) ∧ (¬ x < 0 ∧ x.toNatClampNeg < L) ∧ v = xs x.toNatClampNeg := by
    intro σ h v h' q
    obtain ⟨⟨x, h1⟩, e1, e2⟩ := obind q
    obtain ⟨⟨c1, c2⟩, e3⟩ := oif e2
    cases e3
    exact ⟨x, e1, c1, c2, rfl⟩
  refine ⟨fun σ h v h' q => ?_, fun X hC σ h st v h' hs hbe q hfi g ls H locs hl hh ho => ?_⟩
  · obtain ⟨x, e1, -⟩ := key σ h v h' q
    exact hi.1 _ _ _ _ e1
  · obtain ⟨x, e1, c1, c2, rfl⟩ := key σ h v h' q
    refine lv_aload_n hC.1 hC.2.1 hd0 rfl (hl.2.2.2 0 _ c1 nofun) ?_
    refine hi.2 X hC σ h (.ref b :: st) x h' (by simp only [sm, List.map_cons, List.sum_cons, Value.category] at hs ⊢; omega) hbe e1 hfi (fun ls H locs hl hh ho => ?_) ls H locs hl hh ho
    obtain ⟨⟨scr, s1, s2, s3, s4, s5⟩, hbl⟩ := hkq X hC.2.2.2.2.2.2.2.2.2
    exact W.iald (v := .int (xs x.toNatClampNeg)) hC.1 hC.2.1 (by rw [hh.2.2.1 b hbl]; exact s1) s2 s3 (by rw [s4]; exact ivp c2) (s5 _ c2.2) rfl rfl hd (g ls H locs hl hh ho)
theorem EJ_sln {K : SC} {k b L : Nat} {xs : Nat → Int32} (hkq : ∀ X, kq K X → scQ b L xs X) {p0 : Nat} (hd0 : decode (kc K) p0 = .ok (.aload_n 0, 1)) (hd : decode (kc K) (p0 + 1) = .ok (.arraylength, 1)) : EJ K k eI (eSln b L) p0 (p0 + 2) := by
  refine ⟨fun σ h v h' q => ?_, fun X hC σ h st v h' hs hbe q hfi g ls H locs hl hh ho => ?_⟩
  · obtain ⟨-, e⟩ := oif q
    cases e
    exact Le.rf
  · obtain ⟨c1, e⟩ := oif q
    cases e
    refine lv_aload_n hC.1 hC.2.1 hd0 rfl (hl.2.2.2 0 _ c1 nofun) ?_
    obtain ⟨⟨scr, s1, s2, s3, s4, s5⟩, hbl⟩ := hkq X hC.2.2.2.2.2.2.2.2.2
    exact W.alen (n := nI L) hC.1 hC.2.1 (by rw [hh.2.2.1 b hbl]; exact s1) s2 (by rw [s4]; rfl) rfl rfl hd (g ls H locs hl hh ho)
theorem EJ_post {α : Type} {K : SC} {k : Nat} {emb : α → List Value} {e : EX α} {p q r : Nat} (h : EJ K k emb e p q) (hl : Lead K q r) : EJ K k emb e p r := ⟨h.1, fun X hC σ h1 st v h' hs hb e1 hf g => h.2 X hC σ h1 st v h' hs hb e1 hf (hl X hC σ _ h' g)⟩
theorem MJ_none {ρ : Type} {d : Nat} {w : List Nat} {y : MethodName} {rt : Option FieldType} {emb : ρ → List Value} {bytes : ByteArray} {maxL : Nat} (hc : Cond.code y bytes maxL rt ∈ TB) (hm : maxL ≤ 40) : MJ d w y rt emb (fun _ _ => none) :=
  ⟨fun _ _ _ _ e => (by cases e), bytes, maxL, hc, hm, fun _ _ _ _ _ _ _ _ e => (by cases e)⟩
/-- how deep calls of a recursion may go -/
def FD : Nat := 200
theorem SJ_loop {ρ : Type} {K : SC} {emb : ρ → List Value} {ri : Instr} {c : EX Bool} {b st : ST ρ} {p0 pB pS pE nB nC : Nat} (hc : CJ K 0 c p0 pB pE) (hb : SJ K emb ri b pB pS pE pS) (hs : SJ K emb ri st pS p0 pE pE) : SJ K emb ri (loop c b st) p0 pE nB nC := SJ_wh hc hb hs FUEL
theorem okZ_bool {c kf : Nat} (h : fty c kf = .boolean) : okZ true c kf := by
  intro v hv
  rw [h]
  obtain hv | rfl | rfl := hv
  · cases hv
  · exact ⟨rfl, rfl⟩
  · exact ⟨rfl, rfl⟩
