/-! ===== new objects ===== -/
theorem fty_ok : ∀ c k, fty c k ≠ .float ∧ fty c k ≠ .double := by
  intro c k
  unfold fty
  split
  · unfold tyX0; split <;> exact ⟨nofun, nofun⟩
  · unfold tyX1; split <;> exact ⟨nofun, nofun⟩
  · unfold tyX2; split <;> exact ⟨nofun, nofun⟩
  · unfold tyX3; split <;> exact ⟨nofun, nofun⟩
  · unfold tyX4; split <;> exact ⟨nofun, nofun⟩
  · unfold tyX5; first | (split <;> exact ⟨nofun, nofun⟩) | exact ⟨nofun, nofun⟩
  · unfold tyX6; split <;> exact ⟨nofun, nofun⟩
  · unfold tyX7; split <;> exact ⟨nofun, nofun⟩
  · unfold tyX8; split <;> exact ⟨nofun, nofun⟩
  · unfold tyX9; split <;> exact ⟨nofun, nofun⟩
  · unfold tyX10; split <;> exact ⟨nofun, nofun⟩
  · unfold tyX11; split <;> exact ⟨nofun, nofun⟩
  · unfold tyX12; split <;> exact ⟨nofun, nofun⟩
theorem kv_nw2 (ty : FieldType) (h : AH) (t n u j : Nat) (h1 : ty ≠ .float) (h2 : ty ≠ .double) : kv ty (nw h t n u) (hN h) j = defaultValue ty := by
  have e1 : hI (nw h t n u) (hN h) j = 0 := by simp [hI, nw, nwC, hN, va_up]
  have e2 : hJ (nw h t n u) (hN h) j = 0 := by simp [hJ, nw, nwC, hN, va_up]
  have e3 : hR (nw h t n u) (hN h) j = none := by simp [hR, nw, nwC, hN, va_up]
  cases ty <;> first | exact absurd rfl h1 | exact absurd rfl h2 | (simp only [kv, e1, e2, e3]; rfl)
section NEWO
variable {K : SC} {k : Nat}
theorem kN_key {t N : Nat} {den : MD Unit} {as : List (EX Value)} {σ : List Value} {h h' : AH} {v : Option Nat} (q : kN t N den as σ h = some (v, h')) : ∃ vs h1, eArgs as σ (nw h t 0 N) = some (vs, h1) ∧ den (.ref (hN h) :: vs) h1 = some ((), h') ∧ v = some (hN h) := by
  obtain ⟨⟨vs, h1⟩, e1, e2⟩ := obind q
  obtain ⟨⟨u, h2⟩, e3, e4⟩ := obind e2
  cases e4
  exact ⟨vs, h1, e1, e3, rfl⟩
/-- the constructor's call, by a link or by a nest's -/
def CLk (K : SC) (idx : Nat) (y : MethodName) : Prop := Cond.methodLink (ko K) idx y ∈ TB ∨ ∃ q ∈ NWs, q.1 = ko K ∧ q.2.1 = idx ∧ q.2.2.1 = y
theorem EJ_new {d idx idx2 t c : Nat} {r : vw_C} {w : List Nat} {y : MethodName} {den : MD Unit} {as : List (EX Value)} {p0 p1 : Nat} (hd0 : decode (kc K) p0 = .ok (.new idx, 3)) (hd1 : decode (kc K) (p0 + 3) = .ok (.dup, 1)) (ha : AJ K (2 + k) as (p0 + 4) p1) (hM : MJ d w y none eU den) (hd : decode (kc K) p1 = .ok (.invokespecial idx2, 3)) (hsc : sC t = some c) (hr : classes[c]? = some r) (hcl : Cond.classLink (ko K) idx r.1 ∈ TB) (hinst : Cond.instantiable r.1 r.2.2 ∈ TB) (hini : Cond.initialized r.1 ∈ TB) (hyc : y.cls = r.1) (hyn : y.name = "<init>") (hq : CLk K idx2 y) (hst : Cond.instanceMethod y ∈ TB) (hy : okD y as.length) (hk : k ≤ 7) (hdd : d + 1 ≤ kd K) (hw : ∀ t ∈ w, t ∈ kw K) : EJ K k eR (kN t r.2.2 den as) p0 (p1 + 3) := by
  refine ⟨fun σ h v h' q => ?_, fun X hC σ h st v h' hs hb q hfi g ls H locs hl hh ho => ?_⟩
  · obtain ⟨vs, h1, e1, e2, -⟩ := kN_key q
    have l1 := (ha.1 _ _ _ _ e1).1
    have l2 := (hM.1 _ _ _ _ e2).mono hw
    exact (Le.nwC.tr l1).tr l2
  · obtain ⟨vs, h1, e1, e2, rfl⟩ := kN_key q
    obtain ⟨l1, hlen⟩ := ha.1 _ _ _ _ e1
    have l2 := (hM.1 _ _ _ _ e2).mono hw
    have f1 := hfi.of l2
    have f0 := f1.of l1
    obtain ⟨r1, r2, r3, r4⟩ := nw_room hb f0
    have hts := hC.2.2.2.2.1
    have hKn := hC.2.2.2.2.2.1.1 c r hr
    refine W.newcK hC.1 hC.2.1 hC.2.2.2.1 (hts _ hcl) (hts _ hinst) (hts _ hini) rfl hd0 r1 r2 hKn.2.1 hh.1 fun H1 kC hkC o1 o2 o3 => ?_
    have hob := u_born (fty c) hts (cls_in c r hr) hKn hkC o1 (cls_ty c r hr)
    have ht1 : hT (nw h t 0 r.2.2) (hN h) = t := by simp [hT, nw, nwC, hN, va_up]
    have hh1 : Hr (xD X) (xAC X) (xH X) (nw h t 0 r.2.2) H1 := by
      refine hh.new (by rw [o2, hh.1]) (fun q hq => o3 q (by rw [← hh.1]; exact hq)) ⟨fun c' hc' => ?_, fun ty hty => ?_⟩
      · have hc'' : sC (hT (nw h t 0 r.2.2) (hN h)) = some c' := hc'
        rw [ht1, hsc] at hc''
        cases hc''
        exact ⟨r, hr, hob.to (fun j _ => (kv_nw2 _ h t 0 r.2.2 j (fty_ok c j).1 (fty_ok c j).2).symm)⟩
      · have hty' : sA (hT (nw h t 0 r.2.2) (hN h)) = some ty := hty
        rw [ht1, sC_sA hsc] at hty'
        cases hty'
    have b0 : Be X (nw h t 0 r.2.2) := hb.of (w := kw K) Le.nwC
    have hgo : Gd X (kn K) (p0 + 4) σ (.ref (hN h) :: .ref (hN h) :: st) (nw h t 0 r.2.2) := by
      refine ha.2 X hC σ _ _ vs h1 (by simp only [sm, List.map_cons, List.sum_cons, Value.category] at hs ⊢; omega) b0 e1 f1 fun ls H locs hl hh ho => ?_
      obtain ⟨-, bytes, maxL, hcode, hmax, hMet⟩ := hM
      have hb1 := b0.of l1
      have hfit : hN h1 - hN (xh X) + (hN h' - hN h1) ≤ (xR X).cells ∧ hU h1 - hU (xh X) + (hU h' - hU h1) ≤ (xR X).slots := by
        obtain ⟨f1, f2⟩ := hfi
        obtain ⟨b1, b2⟩ := hb1
        have := l2.1
        have := l2.2.1
        exact ⟨by omega, by omega⟩
      refine run_go (emb := eU) (v := ()) E1_U hb1 ⟨l2.1, l2.2.1⟩ hl ho ?_ g
      have hroom : sm (.ref (hN h) :: st) ≤ 8 := by
        simp only [sm, List.map_cons, List.sum_cons, Value.category] at hs ⊢
        omega
      rcases hq with hq | ⟨q, hqm, hq1, hq2, hq3⟩
      · exact va_runI (As := vs) (b := hN h) (rest := .ref (hN h) :: st) (n := as.length) (Ts := TB) ⟨hC.1, hC.2.1, hC.2.2.1, hC.2.2.2.1, hts⟩ (hMet (xLn X) (xD X) (xAC X) (xH X) _ h1 () h' e2) ⟨callB_of as.length hts (good_y hcode) rfl rfl rfl (by rw [hyc]; exact hts _ hini) (hts _ hq) hy (room_ok hC hdd hmax), hyn, hts _ hst⟩ ⟨Pm_blind, Pm_pre hC hh⟩ rfl hlen hl.2.1 rfl (lv_room hroom) hd hfit
      · have hnw := hC.2.2.2.2.2.1.2.2.1 q hqm
        rw [hq1, hq2, hq3] at hnw
        exact va_runIN (As := vs) (b := hN h) (rest := .ref (hN h) :: st) (n := as.length) (Ts := TB) ⟨hC.1, hC.2.1, hC.2.2.1, hC.2.2.2.1, hts⟩ (hMet (xLn X) (xD X) (xAC X) (xH X) _ h1 () h' e2) ⟨va_cnB as.length hts (good_y hcode) rfl rfl rfl hnw (by rw [hyc]; exact hts _ hini) hy (room_ok hC hdd hmax), hyn, hts _ hst⟩ ⟨Pm_blind, Pm_pre hC hh⟩ rfl hlen hl.2.1 rfl (lv_room hroom) hd hfit
    have := hgo ls H1 locs hl hh1 ho
    rw [r3, r4] at this
    exact lv_dup hC.1 hC.2.1 hd1 rfl this
end NEWO

/-! ===== the beginning of a constructor; clones; copies; branches by a table ===== -/
def sObj {ρ : Type} : ST ρ := fun σ h => (lR 0 σ h).bind fun x => x.1.bind fun _ => some (.inr 0, σ, x.2)
theorem SJ_obj {ρ : Type} {K : SC} {emb : ρ → List Value} {ri : Instr} {pc idx nB nC : Nat} (hd0 : decode (kc K) pc = .ok (.aload_n 0, 1)) (hd1 : decode (kc K) (pc + 1) = .ok (.invokespecial idx, 3)) (hq : Cond.methodLink (ko K) idx objectInit ∈ TB) (hst : Cond.instanceMethod objectInit ∈ TB) (hcd : Cond.code objectInit ⟨#[0xb1]⟩ 1 none ∈ TB) (hdd : 1 ≤ kd K) : SJ K emb ri sObj pc (pc + 4) nB nC := by
  have key : ∀ σ h o σ' h', (sObj : ST ρ) σ h = some (o, σ', h') → ∃ a, σ[0]? = some (.ref a) ∧ o = .inr 0 ∧ σ' = σ ∧ h' = h := by
    intro σ h o σ' h' q
    obtain ⟨⟨r, h1⟩, e1, e2⟩ := obind q
    obtain ⟨a, hr, e3⟩ := obind (o := r) e2
    subst hr
    obtain ⟨e4, rfl⟩ := lR_key e1
    cases e3
    exact ⟨a, e4, rfl, rfl, rfl⟩
  refine ⟨fun σ h o σ' h' q => ?_, fun X hC rf hf hR σ h o σ' h' hbe q hfi g ls H locs hl hh ho => ?_⟩
  · obtain ⟨r, -, -, -, rfl⟩ := key σ h o σ' h' q
    exact Le.rf
  · obtain ⟨a, e1, rfl, rfl, rfl⟩ := key σ h o σ' h' q
    have hts := hC.2.2.2.2.1
    have h1 := hC.2.2.2.2.2.2.1
    have h2 := hC.2.2.2.2.2.2.2.1
    refine lv_aload_n hC.1 hC.2.1 hd0 rfl (hl.2.2.2 0 _ e1 nofun) ?_
    exact W.objInit hC.1 hC.2.1 hC.2.2.2.1 (hts _ hq) (hts _ hst) (hts _ hcd) rfl (by rw [hC.2.2.1]; exact hl.2.1) rfl hd1 (by omega) (by show 2 * 0 + _ + 12 ≤ _; simp; omega) (g ls H locs hl hh ho)
section XCL
variable {p : Program} {l : Launch} {e : Env} {R : Room} {s : State} {m : MethodId} {args : Array Value} {below : List Frame} {meth : Method} {c : Code} {H : Heap} {locs : List Loc} {cells slots : Nat} {Q : State → Prop}
variable {cc : ByteArray} {pc : Nat} {ls : Array Slot} {rest : List Value}
theorem W_clone (hexec : p.tables.exec = Jvm.exec) (hb : c.code = cc) (hml : c.maxLocals = ls.size) {own ad : String} {index : Nat} (hown : s.vm.findClass own = some m.cls)
    (hlink : (Cond.methodLink own index ⟨ad, "clone", "()Ljava/lang/Object;"⟩).before args s = true) (hsame : (Cond.sameMethod ad "java/lang/Object" "clone" "()Ljava/lang/Object;").before args s = true)
    (hnat : (Cond.native ⟨"java/lang/Object", "clone", "()Ljava/lang/Object;"⟩).before args s = true) (hinst : (Cond.instanceMethod ⟨"java/lang/Object", "clone", "()Ljava/lang/Object;"⟩).before args s = true)
    (hsel : (Cond.selects ad ⟨ad, "clone", "()Ljava/lang/Object;"⟩ ⟨"java/lang/Object", "clone", "()Ljava/lang/Object;"⟩).before args s = true) (hcl : va_Nw (.castable ad "java/lang/Cloneable") s)
    {a n : Nat} {cA : ClassId} {f : Nat → Value} {ty : FieldType} (hcell : H[a]? = some (arrV cA n f)) (harr : ArrOfT s cA ty) (hnm : s.vm.findClass ad = some cA) (hfit : ∀ i : Nat, i < n → fits ty (f i) = true)
    (hframes : 1 ≤ R.frames) (hlocals : (rest.map fun v => v.category).sum + 14 ≤ R.locals) (hcells : cells + 1 ≤ R.cells) (hslots : slots + n ≤ R.slots) (hdg : decode cc pc = .ok (.invokevirtual index, 3))
    (kk : W p l e R s m args below meth c (H.push (arrV cA n f)) locs (cells + 1) (slots + n) Q (F0 m (pc + 3) ls (.ref H.size :: rest))) : W p l e R s m args below meth c H locs cells slots Q (F0 m pc ls (.ref a :: rest)) := by
  have hcellE : ({ cls := (arrV cA n f).cls, slots := (arrV cA n f).slots } : Cell) = arrV cA n f := rfl
  obtain ⟨c0, t0', f1, f2, f3⟩ := Cond.castable_spec (va_Nw.use (A := args) rfl hcl)
  cases hnm.symm.trans f1
  intro T hT X
  have hcellT : T.heap[a]? = some (arrV cA n f) := by rw [hT]; exact hcell
  obtain ⟨-, kA, hkA, comp, hkind⟩ := State.isArrayOf_alike X.warmed.alike (harr 0 (fun _ => .null))
  obtain ⟨-, kS, hkS, compS, hkindS⟩ := harr 0 (fun _ => .null)
  obtain ⟨vm', X', st⟩ := X.cloneArray hexec hown hlink hsame hnat hinst hsel (a := a) (cell := arrV cA n f) hcellT (fun k h => by cases h) (fun h => by cases h) hnm f2 f3
    (fun i v hv => by
      have hk' : T.vm.classes[cA]? = some kA := hkA
      have := va_fit hfit i v hv
      simpa [State.fitsSlot, State.slotType?, arrV, hk', hkind] using this)
    (g := F0 m pc ls (.ref a :: rest)) rfl (by rw [hml]) rfl (by rw [hb]; exact hdg) hframes (by show 2 * 0 + _ + 14 ≤ _; omega) hcells (by rw [arrV_size]; exact hslots) (hloader := Vm.clonesLoader_of_array hkS hkindS)
  rw [hcellE, arrV_size] at X'
  obtain ⟨t, b1, b2⟩ := kk ((T.setVm vm').pushCell (arrV cA n f)) (by rw [← hT]; rfl) X'
  refine ⟨t, st t ?_, b2⟩
  rw [hcellE, hT]
  exact b1
theorem W_copy (mk : Nat → Value) (mk2 : Nat → Value) (hexec : p.tables.exec = Jvm.exec) (hb : c.code = cc) (hml : c.maxLocals = ls.size) {own : String} {index : Nat} (hown : s.vm.findClass own = some m.cls) (hlink : (Cond.methodLink own index arraycopyName).before args s = true) (hnat : (Cond.native arraycopyName).before args s = true) (hstat : (Cond.static arraycopyName).before args s = true) (hini : (Cond.initialized "java/lang/System").before args s = true)
    {a a0 : Nat} {cA : ClassId} {n0 n1 : Nat} {ty : FieldType} (hc0 : H[a0]? = some (arrV cA n0 mk)) (hc1 : H[a]? = some (arrV cA n1 mk2)) (harr : ArrOfT s cA ty) (hprim : refKind ty = false)
    {sp dp n : Int32} (h1 : ¬ sp < 0) (h2 : ¬ dp < 0) (h3 : ¬ n < 0) (h4 : sp.toNatClampNeg + n.toNatClampNeg ≤ n0) (h5 : dp.toNatClampNeg + n.toNatClampNeg ≤ n1) (hfit : ∀ i, i < n.toNatClampNeg → fits ty (mk (sp.toNatClampNeg + i)) = true) (hvals : ∀ i, (∃ x, mk i = .int x) ∨ ∃ x, mk i = .long x)
    (hframes : 1 ≤ R.frames) (hlocals : (rest.map fun v => v.category).sum + (nativeFrameWords "java/lang/System" "arraycopy" 5 + 11) ≤ R.locals) (hdg : decode cc pc = .ok (.invokestatic index, 3))
    (kk : ∀ L : List Loc, (∀ q ∈ L, q.base = a) → W p l e R s m args below meth c (H.setIfInBounds a (arrV cA n1 (va_cpy mk mk2 sp.toNatClampNeg dp.toNatClampNeg n.toNatClampNeg))) (locs ++ L) cells slots Q (F0 m (pc + 3) ls rest)) : W p l e R s m args below meth c H locs cells slots Q (F0 m pc ls (.int n :: .int dp :: .ref a :: .int sp :: .ref a0 :: rest)) := by
  have nn : ∀ z : Int32, ¬ z < 0 → z.toInt = (z.toNatClampNeg : Int) := by
    intro z hz
    have hz0 : (0 : Int) ≤ z.toInt := by
      have := Int32.not_lt.mp hz
      simpa using Int32.le_iff_toInt_le.mp this
    show z.toInt = ((z.toInt.toNat : Nat) : Int)
    omega
  intro T hT X
  obtain ⟨-, k0, hk0, cm0, hkk0⟩ := harr n0 mk
  obtain ⟨-, k1, hk1, cm1, hkk1⟩ := harr n1 mk2
  obtain ⟨vm', X', step⟩ := X.arraycopy hexec hown hlink hnat hstat hini (src := a0) (dst := a) (cs := arrV cA n0 mk) (cd := arrV cA n1 mk2) (srcPos := sp) (destPos := dp) (n := n) (by rw [hT]; exact hc0) (by rw [hT]; exact hc1)
    (fun _ h => by cases h) (fun _ h => by cases h) (fun h => by cases h) (fun h => by cases h) hk0 hk1 hkk0 hkk1 (by simp [hprim]) h1 h2 h3
    (by rw [nn sp h1, nn n h3, arrV_size]; omega)
    (by rw [nn dp h2, nn n h3, arrV_size]; omega)
    (fun vm₁ _ i hi => by
      have e : (arrV cA n0 mk).slots.getD (sp.toNatClampNeg + i) .null = mk (sp.toNatClampNeg + i) := by
        rw [Array.getD_eq_getD_getElem?, arrV_read _ _ (by omega)]
        rfl
      refine ⟨?_, ?_⟩
      · rw [e]
        exact hfit i hi
      · rw [e]
        obtain ⟨x, hx⟩ | ⟨x, hx⟩ := hvals (sp.toNatClampNeg + i) <;> rw [hx] <;> exact trivial)
    (g := F0 m pc ls (.int n :: .int dp :: .ref a :: .int sp :: .ref a0 :: rest)) rfl (by rw [hml]) (rest := rest) rfl (by rw [hb]; exact hdg) hframes (by show 2 * 0 + _ + _ ≤ _; omega)
  have e1 : copied (arrV cA n0 mk) (arrV cA n1 mk2) sp dp n = arrV cA n1 (va_cpy mk mk2 sp.toNatClampNeg dp.toNatClampNeg n.toNatClampNeg) := va_copied (fun z => z) cA cA mk mk2 h4
  rw [e1] at X' step
  obtain ⟨t, a1, b1⟩ := kk _ (fun q hq => by
    obtain ⟨z, -, hz⟩ := List.mem_map.mp hq
    rw [← hz]) _ (by rw [← hT]; rfl) X'
  exact ⟨t, step t a1, b1⟩
end XCL
