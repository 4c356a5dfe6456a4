/-! ===== methods ===== -/
def entL : List Value → List Value
  | [] => []
  | v :: t => if v.category = 2 then v :: jk :: entL t else v :: entL t
def ent (nL : Nat) (av : List Value) : List Value := entL av ++ List.replicate (nL - (entL av).length) jk
def mth {ρ : Type} (ck : ρ → Bool) (nL : Nat) (body : ST ρ) : MD ρ := fun av h => if (entL av).length ≤ nL then (body (ent nL av) h).bind fun r => match r.1 with
  | .inl v => if ck v = true then some (v, r.2.2) else none
  | .inr _ => none
  else none
def tt {ρ : Type} (_ : ρ) : Bool := true
def zz (v : Int32) : Bool := decide (v = 0 ∨ v = 1)
def rmd (d mc ms : Nat) : Room := { frames := d, cells := mc, slots := ms, locals := 64 * d }
def Pm (D : va_G) (aC : FieldType → ClassId) (H0 : Heap) (av : List Value) (h : AH) : Array Value → State → Prop := fun vs U => vs = av.toArray ∧ Hr D aC H0 h U.heap ∧ KN D aC U
def Qm (D : va_G) (aC : FieldType → ClassId) (H0 : Heap) (rv : Option Value) (h' : AH) : Array Value → State → Outcome → State → Prop := fun _ _ o t => o = .returned rv ∧ Hr D aC H0 h' t.heap
def MJ {ρ : Type} (d : Nat) (w : List Nat) (y : MethodName) (rt : Option FieldType) (emb : ρ → List Value) (den : MD ρ) : Prop :=
  (∀ av h v h', den av h = some (v, h') → Le w h h') ∧ ∃ (bytes : ByteArray) (maxL : Nat), Cond.code y bytes maxL rt ∈ TB ∧ maxL ≤ 40 ∧ ∀ (l : Launch) (D : va_G) (aC : FieldType → ClassId) (H0 : Heap) (av : List Value) (h : AH) (v : ρ) (h' : AH), den av h = some (v, h') →
    Met l y (Cond.code y bytes maxL rt :: TB) (rmd d (hN h' - hN h) (hU h' - hU h)) (Pm D aC H0 av h) (Qm D aC H0 (emb v).head? h') (hN h' - hN h) (hU h' - hU h) (fun q => H0.size ≤ q)
theorem lg_ent (av : List Value) : (lg_sl av).length = (entL av).length := by
  induction av with
  | nil => rfl
  | cons v t ih =>
    simp only [lg_sl, List.flatMap_cons, List.length_append] at ih ⊢
    simp only [entL]
    split <;> simp_all <;> omega
theorem ent_args (av : List Value) : ∀ (i k : Nat) (v : Value), (entL av)[i]? = some v → v ≠ jk → (k + i, v) ∈ lv_args k av := by
  induction av with
  | nil => intro i k v h; simp [entL] at h
  | cons u t ih =>
    intro i k v h hv
    simp only [entL] at h
    simp only [lv_args]
    split at h
    · rename_i hc
      rw [if_pos hc]
      match i, h with
      | 0, h => simp at h; subst h; exact List.mem_cons_self
      | 1, h => simp at h; exact absurd h.symm hv
      | i + 2, h =>
        have := ih i (k + 2) v (by simpa using h) hv
        rw [show k + (i + 2) = k + 2 + i by omega]
        exact List.mem_cons_of_mem _ this
    · rename_i hc
      rw [if_neg hc]
      match i, h with
      | 0, h => simp at h; subst h; exact List.mem_cons_self
      | i + 1, h =>
        have := ih i (k + 1) v (by simpa using h) hv
        rw [show k + (i + 1) = k + 1 + i by omega]
        exact List.mem_cons_of_mem _ this
theorem ent_Lr {nL : Nat} {av : List Value} (h : (entL av).length ≤ nL) : Lr nL (ent nL av) ((lg_sl av ++ List.replicate (nL - (lg_sl av).length) Slot.unset).toArray) := by
  obtain ⟨h1, h2, h3⟩ := lv_entry av (n := nL) (by rw [lg_ent]; exact h)
  refine ⟨by simp [ent]; omega, h1, h2, fun i v hi hv => ?_⟩
  unfold ent at hi
  by_cases hl : i < (entL av).length
  · rw [List.getElem?_append_left hl] at hi
    have := ent_args av i 0 v hi hv
    rw [Nat.zero_add] at this
    exact h3 _ this
  · rw [List.getElem?_append_right (by omega)] at hi
    have := List.mem_of_getElem? hi
    exact absurd (List.eq_of_mem_replicate this) hv
/-- the context of a method's body -/
theorem mth_key {ρ : Type} {ck : ρ → Bool} {nL : Nat} {body : ST ρ} {av : List Value} {h h' : AH} {v : ρ} (q : mth ck nL body av h = some (v, h')) : (entL av).length ≤ nL ∧ ck v = true ∧ ∃ σ', body (ent nL av) h = some (.inl v, σ', h') := by
  unfold mth at q
  split at q
  · rename_i hl
    obtain ⟨⟨o, σ', h1⟩, e1, e2⟩ := obind q
    match o, e2 with
    | .inl r, e2 =>
      obtain ⟨hc, e3⟩ := oif e2
      cases e3
      exact ⟨hl, hc, σ', e1⟩
    | .inr n, e2 => cases e2
  · cases q
def RTm {ρ : Type} (K : SC) (emb : ρ → List Value) (ri : Instr) (ck : ρ → Bool) (rt : Option FieldType) : Prop :=
  ∀ X, CX K X → (xMe X).sig.returnType = rt → (xMe X).locks = false → ∀ (rf : ρ) (hf : AH), ck rf = true → xQ X = MQ (xB X) (Qm (xD X) (xAC X) (xH X) (emb rf).head? hf) (xA X) (xS X) (hN hf - hN (xh X)) (hU hf - hU (xh X)) (fun q => (xH X).size ≤ q) → RT K emb ri X rf hf
theorem MJ_of {ρ : Type} {K : SC} {y : MethodName} {rt : Option FieldType} {emb : ρ → List Value} {ri : Instr} {ck : ρ → Bool} {body : ST ρ} {n1 n2 n3 : Nat} (hS : SJ K emb ri body 0 n1 n2 n3) (hR : RTm K emb ri ck rt) (hcode : Cond.code y (kc K) (kn K) rt ∈ TB) (hy : plainFor y = true) (hown : y.cls = ko K) (hini : ki K = true → y.name = "<init>") (hmax : kn K ≤ 40) (hkq : ∀ X, kq K X) : MJ (kd K) (kw K) y rt emb (mth ck (kn K) body) := by
  refine ⟨fun av h v h' q => ?_, kc K, kn K, hcode, hmax, fun l D aC H0 av h v h' q => ?_⟩
  · obtain ⟨-, -, σ', e⟩ := mth_key q
    exact hS.1 _ _ _ _ _ e
  · obtain ⟨hl, hck, σ', e⟩ := mth_key q
    refine va_MetF (cc := kc K) (maxL := kn K) (ret := rt) hy rfl ?_
    intro p e0 s m args below meth c s₁ B hml hv
    obtain ⟨rfl, hh, hKN⟩ := hv
    have hts := atoms_spec (ws := Cond.code y (kc K) (kn K) rt :: TB) B.pre
    have hC : CX K (p, l, e0, rmd (kd K) (hN h' - hN h) (hU h' - hU h), s, m, av.toArray, below, meth, c, D, aC, H0, h, MQ below (Qm D aC H0 (emb v).head? h') av.toArray s (hN h' - hN h) (hU h' - hU h) (fun q => H0.size ≤ q)) :=
      ⟨B.exec, B.bytes, hml, by rw [← hown]; exact findClass_of_methodNamed B.named, fun w hw => hts w (List.mem_cons_of_mem _ hw), hKN, Nat.le_refl _, Nat.le_refl _, fun hk => by rw [← hini hk]; exact (name_of_methodNamed B.named B.method).1, hkq _⟩
    have g := hS.2 _ hC v h' (hR _ hC B.returns B.notSynchronized v h' hck rfl) _ h (.inl v) σ' h' ⟨Nat.le_refl _, Nat.le_refl _⟩ e ⟨Nat.le_refl _, Nat.le_refl _⟩ ⟨rfl, rfl⟩
    have := g _ s.heap [] (ent_Lr hl) hh (fun q hq => by cases hq)
    rw [lg_entry_eq]
    rw [Nat.sub_self, Nat.sub_self] at this
    exact this
theorem RTm_int {K : SC} : RTm K eI .ireturn tt (some .int) := by
  intro X hC hr hlk rf hf _ hQ pc σ hd ls H locs hl hh ho
  rw [hQ]
  exact W.iret hC.1 hC.2.1 hr (fun t ht hW => ⟨rfl, by rw [ht]; exact hh⟩) ho hd hlk
theorem RTm_bool {K : SC} : RTm K eI .ireturn zz (some .boolean) := by
  intro X hC hr hlk rf hf hz hQ pc σ hd ls H locs hl hh ho
  rw [hQ]
  exact W.zret hC.1 hC.2.1 hr (nar_z (of_decide_eq_true hz)) (fun t ht hW => ⟨rfl, by rw [ht]; exact hh⟩) ho hd hlk
theorem RTm_long {K : SC} : RTm K eJ .lreturn tt (some .long) := by
  intro X hC hr hlk rf hf _ hQ pc σ hd ls H locs hl hh ho
  rw [hQ]
  exact W.lret hC.1 hC.2.1 hr (fun t ht hW => ⟨rfl, by rw [ht]; exact hh⟩) ho hd hlk
theorem RTm_ref {K : SC} {ty : FieldType} (hty : (∃ n, ty = .object n) ∨ ∃ t, ty = .array t) : RTm K eR .areturn tt (some ty) := by
  intro X hC hr hlk rf hf _ hQ pc σ hd ls H locs hl hh ho
  rw [hQ]
  exact W.aret (v := va_rf rf) hC.1 hC.2.1 hr hty (by cases rf; exact Or.inl rfl; exact Or.inr ⟨_, rfl⟩) (fun t ht hW => ⟨rfl, by rw [ht]; exact hh⟩) ho hd hlk
theorem RTm_void {K : SC} : RTm K eU .return_ tt none := by
  intro X hC hr hlk rf hf _ hQ pc σ hd ls H locs hl hh ho
  rw [hQ]
  exact W.vret hC.1 hC.2.1 hr (fun t ht hW => ⟨rfl, by rw [ht]; exact hh⟩) ho hd hlk
/-! ===== arguments ===== -/
def vI (e : EX Int32) : EX Value := fun σ h => (e σ h).bind fun x => some (.int x.1, x.2)
def vJ (e : EX Int64) : EX Value := fun σ h => (e σ h).bind fun x => some (.long x.1, x.2)
def vR (e : EX (Option Nat)) : EX Value := fun σ h => (e σ h).bind fun x => some (va_rf x.1, x.2)
def eArgs : List (EX Value) → List Value → AH → Option (List Value × AH)
  | [], _, h => some ([], h)
  | e :: t, σ, h => (e σ h).bind fun x => (eArgs t σ x.2).bind fun y => some (x.1 :: y.1, y.2)
def AJ (K : SC) (k : Nat) (as : List (EX Value)) (pc pc' : Nat) : Prop :=
  (∀ σ h v h', eArgs as σ h = some (v, h') → Le (kw K) h h' ∧ v.length = as.length) ∧ ∀ X, CX K X → ∀ σ h st v h', sm st ≤ k → Be X h → eArgs as σ h = some (v, h') → Fi X h' → Gd X (kn K) pc' σ (v.reverse ++ st) h' → Gd X (kn K) pc σ st h
theorem AJ_nil {K : SC} {k pc : Nat} : AJ K k [] pc pc := by
  refine ⟨fun σ h v h' e => ?_, fun X hC σ h st v h' _ _ e _ g => ?_⟩
  · cases e; exact ⟨Le.rf, rfl⟩
  · cases e; exact g
theorem AJ_cons {α : Type} {K : SC} {k k2 : Nat} {emb : α → List Value} {e : EX α} {mk : α → Value} {es : List (EX Value)} {p0 p1 p2 : Nat} (he : EJ K k emb e p0 p1) (hm : ∀ x, emb x = [mk x]) (hk : ∀ x st, sm st ≤ k → sm (emb x ++ st) ≤ k2) (hs : AJ K k2 es p1 p2) : AJ K k ((fun σ h => (e σ h).bind fun x => some (mk x.1, x.2)) :: es) p0 p2 := by
  have key : ∀ σ h v h', eArgs ((fun σ h => (e σ h).bind fun x => some (mk x.1, x.2)) :: es) σ h = some (v, h') → ∃ x h1 vs, e σ h = some (x, h1) ∧ eArgs es σ h1 = some (vs, h') ∧ v = mk x :: vs := by
    intro σ h v h' q
    simp only [eArgs, Option.bind_eq_some_iff] at q
    obtain ⟨⟨u, h1⟩, ⟨⟨x, h2⟩, e1, e2⟩, ⟨vs, h3⟩, e3, e4⟩ := q
    cases e2
    cases e4
    exact ⟨x, h2, vs, e1, e3, rfl⟩
  refine ⟨fun σ h v h' q => ?_, fun X hC σ h st v h' hst hb q hfi g => ?_⟩
  · obtain ⟨x, h1, vs, e1, e2, rfl⟩ := key σ h v h' q
    have z := hs.1 _ _ _ _ e2
    exact ⟨(he.1 _ _ _ _ e1).tr z.1, by simp [z.2]⟩
  · obtain ⟨x, h1, vs, e1, e2, rfl⟩ := key σ h v h' q
    have l1 := he.1 _ _ _ _ e1
    have l2 := (hs.1 _ _ _ _ e2).1
    refine he.2 X hC σ h st x h1 hst hb e1 (hfi.of l2) (hs.2 X hC σ h1 (emb x ++ st) vs h' (hk x st hst) (hb.of l1) e2 hfi ?_)
    rw [hm x]
    rw [List.reverse_cons, List.append_assoc] at g
    exact g
theorem AJ_I {K : SC} {k : Nat} {e : EX Int32} {es : List (EX Value)} {p0 p1 p2 : Nat} (he : EJ K k eI e p0 p1) (hs : AJ K (1 + k) es p1 p2) : AJ K k (vI e :: es) p0 p2 := AJ_cons he (fun _ => rfl) (fun x st h => by rw [sm_I]; omega) hs
theorem AJ_J {K : SC} {k : Nat} {e : EX Int64} {es : List (EX Value)} {p0 p1 p2 : Nat} (he : EJ K k eJ e p0 p1) (hs : AJ K (2 + k) es p1 p2) : AJ K k (vJ e :: es) p0 p2 := AJ_cons he (fun _ => rfl) (fun x st h => by rw [sm_J]; omega) hs
theorem AJ_R {K : SC} {k : Nat} {e : EX (Option Nat)} {es : List (EX Value)} {p0 p1 p2 : Nat} (he : EJ K k eR e p0 p1) (hs : AJ K (1 + k) es p1 p2) : AJ K k (vR e :: es) p0 p2 := AJ_cons he (fun _ => rfl) (fun x st h => by rw [sm_R]; omega) hs
/-! ===== calls ===== -/
theorem Pm_blind {D : va_G} {aC : FieldType → ClassId} {H0 : Heap} {av : List Value} {h : AH} : FrameBlind (Pm D aC H0 av h) := fun a U g mk q => ⟨q.1, q.2.1, KN.moved (s := U) (U := U.calling g mk a) (State.WarmedH.refl U) q.2.2⟩
theorem Pm_pre {X : CT} {K : SC} (hC : CX K X) {H : Heap} {av : List Value} {h : AH} (hh : Hr (xD X) (xAC X) (xH X) h H) : ∀ U : State, U.heap = H → (xS X).WarmedH U.vm → Pm (xD X) (xAC X) (xH X) av h av.toArray U := fun U hU hW => ⟨rfl, by rw [hU]; exact hh, KN.moved hW hC.2.2.2.2.2.1⟩
def E1 {ρ : Type} (emb : ρ → List Value) : Prop := ∀ v, (emb v).head?.toList = emb v
theorem E1_I : E1 eI := fun _ => rfl
theorem E1_J : E1 eJ := fun _ => rfl
theorem E1_R : E1 eR := fun _ => rfl
theorem E1_U : E1 eU := fun _ => rfl
theorem run_go {ρ : Type} {emb : ρ → List Value} (he : E1 emb) {K : SC} {X : CT} {H : Heap} {locs : List Loc} {h h' : AH} {pc : Nat} {σ st0 rest : List Value} {ls : Array Slot} {v : ρ} (hb : Be X h) (hle : hN h ≤ hN h' ∧ hU h ≤ hU h') (hl : Lr (kn K) σ ls) (ho : ∀ q ∈ locs, (xH X).size ≤ q.base)
    (hr : va_Run (xP X) (xLn X) (xE X) (xR X) (xS X) (xM X) (xA X) (xB X) (xMe X) (xC X) H locs (hN h - hN (xh X)) (hU h - hU (xh X)) (hN h' - hN h) (hU h' - hU h) (F0 (xM X) pc ls st0) rest (fun st o t => o = .returned (emb v).head? ∧ Hr (xD X) (xAC X) (xH X) h' t.heap) (fun q => (xH X).size ≤ q))
    (g : Gd X (kn K) (pc + 3) σ (emb v ++ rest) h') : W (xP X) (xLn X) (xE X) (xR X) (xS X) (xM X) (xA X) (xB X) (xMe X) (xC X) H locs (hN h - hN (xh X)) (hU h - hU (xh X)) (xQ X) (F0 (xM X) pc ls st0) := by
  intro T hT Y
  obtain ⟨v', st₀, t, T', L, h0, Y', hL, e1, e2, ⟨e3, hh'⟩, stp⟩ := hr T hT Y
  cases e3
  have c1 : hN h - hN (xh X) + (hN h' - hN h) = hN h' - hN (xh X) := by
    have := hb.1
    omega
  have c2 : hU h - hU (xh X) + (hU h' - hU h) = hU h' - hU (xh X) := by
    have := hb.2
    omega
  rw [c1, c2] at Y'
  obtain ⟨t2, a1, b1⟩ := g ls T'.heap (locs ++ L) hl (by rw [e1]; exact hh') (fun q hq => by
    rcases List.mem_append.mp hq with z | z
    · exact ho q z
    · exact hL q z) T' rfl Y'
  refine ⟨t2, stp t2 ?_, b1⟩
  rw [he v]
  exact a1
def okD (y : MethodName) (n : Nat) : Prop := y.cls ≠ "java/lang/invoke/MethodHandle" ∧ y.cls ≠ "java/lang/invoke/VarHandle" ∧ (parseMethodDescriptor y.desc).map (fun d => d.parameters.length) = some n
theorem room_ok {K : SC} {X : CT} (hC : CX K X) {d mc ms maxL : Nat} (hd : d + 1 ≤ kd K) (hm : maxL ≤ 40) : (rmd d mc ms).frames + 1 ≤ (xR X).frames ∧ 8 + (maxL + 11) + (rmd d mc ms).locals ≤ (xR X).locals := by
  have h1 := hC.2.2.2.2.2.2.1
  have h2 := hC.2.2.2.2.2.2.2.1
  simp only [rmd]
  omega
theorem good_y {y : MethodName} {bytes : ByteArray} {maxL : Nat} {rt : Option FieldType} (h : Cond.code y bytes maxL rt ∈ TB) : GoodIn TB (Cond.code y bytes maxL rt :: TB) := fun w hw => by
  rcases List.mem_cons.mp hw with rfl | hw
  · exact TB_self _ h
  · exact TB_self _ hw
def kS {ρ : Type} (den : MD ρ) (as : List (EX Value)) : EX ρ := fun σ h => (eArgs as σ h).bind fun x => den x.1 x.2
def kV {ρ : Type} (t : Nat) (den : MD ρ) (o : EX (Option Nat)) (as : List (EX Value)) : EX ρ := fun σ h => (o σ h).bind fun x => x.1.bind fun a => (eArgs as σ x.2).bind fun y => if hT y.2 a = t then den (.ref a :: y.1) y.2 else none
/-- new C(..): the cell, the arguments, the constructor -/
def kN (t N : Nat) (den : MD Unit) (as : List (EX Value)) : EX (Option Nat) := fun σ h => (eArgs as σ (nw h t 0 N)).bind fun x => (den (.ref (hN h) :: x.1) x.2).bind fun y => some (some (hN h), y.2)
section CALL
variable {ρ : Type} {K : SC} {k : Nat} {emb : ρ → List Value} {rt : Option FieldType}
theorem EJ_callS {d idx : Nat} {w : List Nat} {y : MethodName} {den : MD ρ} {as : List (EX Value)} {p0 p1 : Nat} (ha : AJ K k as p0 p1) (hM : MJ d w y rt emb den) (he : E1 emb) (hd : decode (kc K) p1 = .ok (.invokestatic idx, 3)) (hq : Cond.methodLink (ko K) idx y ∈ TB) (hst : Cond.static y ∈ TB) (hin : Cond.initialized y.cls ∈ TB) (hy : okD y as.length) (hk : k ≤ 8) (hdd : d + 1 ≤ kd K) (hw : ∀ t ∈ w, t ∈ kw K) : EJ K k emb (kS den as) p0 (p1 + 3) := by
  have key : ∀ σ h v h', kS den as σ h = some (v, h') → ∃ vs h1, eArgs as σ h = some (vs, h1) ∧ den vs h1 = some (v, h') := by
    intro σ h v h' q
    obtain ⟨⟨vs, h1⟩, e1, e2⟩ := obind q
    exact ⟨vs, h1, e1, e2⟩
  refine ⟨fun σ h v h' q => ?_, fun X hC σ h st v h' hs hb q hfi g => ?_⟩
  · obtain ⟨vs, h1, e1, e2⟩ := key σ h v h' q
    exact (ha.1 _ _ _ _ e1).1.tr ((hM.1 _ _ _ _ e2).mono hw)
  · obtain ⟨vs, h1, e1, e2⟩ := key σ h v h' q
    obtain ⟨l1, hlen⟩ := ha.1 _ _ _ _ e1
    have l2 := (hM.1 _ _ _ _ e2).mono hw
    refine ha.2 X hC σ h st vs h1 hs hb e1 (hfi.of l2) fun ls H locs hl hh ho => ?_
    obtain ⟨-, bytes, maxL, hcode, hmax, hMet⟩ := hM
    have hb1 := hb.of l1
    refine run_go he hb1 ⟨l2.1, l2.2.1⟩ hl ho ?_ g
    refine va_runS (As := vs) (rest := st) (n := as.length) (Ts := TB) ⟨hC.1, hC.2.1, hC.2.2.1, hC.2.2.2.1, hC.2.2.2.2.1⟩ (hMet (xLn X) (xD X) (xAC X) (xH X) vs h1 v h' e2) ⟨callB_of as.length hC.2.2.2.2.1 (good_y hcode) rfl rfl rfl (hC.2.2.2.2.1 _ hin) (hC.2.2.2.2.1 _ hq) hy (room_ok hC hdd hmax), hC.2.2.2.2.1 _ hst⟩ ⟨Pm_blind, Pm_pre hC hh⟩ rfl hlen hl.2.1 rfl (lv_room (Nat.le_trans hs hk)) hd ?_
    obtain ⟨f1, f2⟩ := hfi
    obtain ⟨b1, b2⟩ := hb1
    have := l2.1
    have := l2.2.1
    exact ⟨by omega, by omega⟩
theorem rcv_of {X : CT} (hC : CX K X) {h : AH} {H : Heap} {b t c : Nat} {r : vw_C} (hh : Hr (xD X) (xAC X) (xH X) h H) (ht : hT h b = t) (hs : sC t = some c) (hr : classes[c]? = some r) : ∃ cell : Cell, H[b]? = some cell ∧ cell.vm.isStatics = false ∧ (xS X).vm.findClass r.1 = some cell.cls := by
  obtain ⟨r', h1, cell, g1, g2, g3, -⟩ := hh.obj (a := b) (by rw [ht]; exact hs)
  cases hr.symm.trans h1
  exact ⟨cell, g1, by rw [g3]; rfl, by rw [g2]; exact (hC.2.2.2.2.2.1.1 c r hr).2.1⟩
theorem EJ_callV {d idx t c : Nat} {r : vw_C} {w : List Nat} {y : MethodName} {den : MD ρ} {o : EX (Option Nat)} {as : List (EX Value)} {p0 p1 p2 : Nat} (hoj : EJ K k eR o p0 p1) (ha : AJ K (1 + k) as p1 p2) (hM : MJ d w y rt emb den) (he : E1 emb) (hd : decode (kc K) p2 = .ok (.invokevirtual idx, 3)) (hsc : sC t = some c) (hr : classes[c]? = some r) (hrc : r.1 = y.cls) (hq : Cond.methodLink (ko K) idx y ∈ TB) (hst : Cond.instanceMethod y ∈ TB) (hsel : Cond.selects y.cls y y ∈ TB) (hin : Cond.initialized y.cls ∈ TB) (hy : okD y as.length) (hk : k ≤ 8) (hdd : d + 1 ≤ kd K) (hw : ∀ t ∈ w, t ∈ kw K) : EJ K k emb (kV t den o as) p0 (p2 + 3) := by
  have key : ∀ σ h v h', kV t den o as σ h = some (v, h') → ∃ a h0 vs h1, o σ h = some (some a, h0) ∧ eArgs as σ h0 = some (vs, h1) ∧ hT h1 a = t ∧ den (.ref a :: vs) h1 = some (v, h') := by
    intro σ h v h' q
    obtain ⟨⟨x, h0⟩, e1, e2⟩ := obind q
    obtain ⟨a, hx, e3⟩ := obind (o := x) e2
    subst hx
    obtain ⟨⟨vs, h1⟩, e4, e5⟩ := obind e3
    split at e5
    · rename_i hz
      exact ⟨a, h0, vs, h1, e1, e4, hz, e5⟩
    · cases e5
  refine ⟨fun σ h v h' q => ?_, fun X hC σ h st v h' hs hb q hfi g => ?_⟩
  · obtain ⟨a, h0, vs, h1, e0, e1, -, e2⟩ := key σ h v h' q
    exact (hoj.1 _ _ _ _ e0).tr ((ha.1 _ _ _ _ e1).1.tr ((hM.1 _ _ _ _ e2).mono hw))
  · obtain ⟨a, h0, vs, h1, e0, e1, hta, e2⟩ := key σ h v h' q
    have l0 := hoj.1 _ _ _ _ e0
    obtain ⟨l1, hlen⟩ := ha.1 _ _ _ _ e1
    have l2 := (hM.1 _ _ _ _ e2).mono hw
    refine hoj.2 X hC σ h st (some a) h0 hs hb e0 ((hfi.of l2).of l1) (ha.2 X hC σ h0 _ vs h1 (by rw [sm_R]; omega) (hb.of l0) e1 (hfi.of l2) fun ls H locs hl hh ho => ?_)
    obtain ⟨-, bytes, maxL, hcode, hmax, hMet⟩ := hM
    have hb1 := (hb.of l0).of l1
    refine run_go he hb1 ⟨l2.1, l2.2.1⟩ hl ho ?_ g
    refine va_runV (As := vs) (b := a) (rest := st) (n := as.length) (C := y.cls) (Ts := TB) ⟨hC.1, hC.2.1, hC.2.2.1, hC.2.2.2.1, hC.2.2.2.2.1⟩ (hMet (xLn X) (xD X) (xAC X) (xH X) _ h1 v h' e2) ⟨callB_of as.length hC.2.2.2.2.1 (good_y hcode) rfl rfl rfl (hC.2.2.2.2.1 _ hin) (hC.2.2.2.2.1 _ hq) hy (room_ok hC hdd hmax), hC.2.2.2.2.1 _ hst, hC.2.2.2.2.1 _ hsel⟩ ⟨Pm_blind, by rw [← hrc]; exact rcv_of hC hh hta hsc hr, Pm_pre hC hh⟩ rfl hlen hl.2.1 rfl (lv_room (Nat.le_trans hs hk)) hd ?_
    obtain ⟨f1, f2⟩ := hfi
    obtain ⟨b1, b2⟩ := hb1
    have := l2.1
    have := l2.2.1
    exact ⟨by omega, by omega⟩
end CALL
