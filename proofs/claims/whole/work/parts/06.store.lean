/-! ===== locals ===== -/
def prs (σ : List Value) : List (Nat × Value) := (List.range σ.length).filterMap fun i => (σ[i]?).bind fun v => if v = jk then none else some (i, v)
theorem mem_prs {σ : List Value} {j : Nat} {w : Value} : (j, w) ∈ prs σ ↔ σ[j]? = some w ∧ w ≠ jk := by
  simp only [prs, List.mem_filterMap, List.mem_range, Option.bind_eq_some_iff]
  constructor
  · rintro ⟨i, hi, v, h1, h2⟩
    split at h2
    · cases h2
    · rename_i hv
      cases h2
      exact ⟨h1, hv⟩
  · rintro ⟨h1, h2⟩
    exact ⟨j, (List.getElem?_eq_some_iff.mp h1).1, w, h1, by rw [if_neg h2]⟩
theorem Lr.has {nL : Nat} {σ : List Value} {ls : Array Slot} (h : Lr nL σ ls) : lv_has ls nL (prs σ) := ⟨h.2.1, h.2.2.1, fun q hq => by
  obtain ⟨j, w⟩ := q
  obtain ⟨h1, h2⟩ := mem_prs.mp hq
  exact h.2.2.2 j w h1 h2⟩
theorem Lr.sto {nL i : Nat} {σ τ : List Value} {ls : Array Slot} {v : Value} (h : Lr nL σ ls) (hs : sto σ i v = some τ) : i < nL ∧ ∀ ls', lv_has ls' nL ((i, v) :: (prs σ).filter (fun q => !(q.1 == i) && !(q.1 + 1 == i && q.2.category == 2))) → Lr nL τ ls' := by
  unfold Jvm.Pilot.@@N@@.sto at hs
  split at hs
  · rename_i hc
    cases hs
    refine ⟨by rw [← h.1]; exact hc.1, fun ls' hl => ⟨by rw [List.length_set]; exact h.1, hl.1, hl.2.1, fun j w hj hw => ?_⟩⟩
    rw [List.getElem?_set] at hj
    by_cases e : i = j
    · subst e
      rw [if_pos rfl, if_pos hc.1] at hj
      cases hj
      exact hl.2.2 _ List.mem_cons_self
    · rw [if_neg e] at hj
      refine hl.2.2 (j, w) (List.mem_cons_of_mem _ (List.mem_filter.mpr ⟨mem_prs.mpr ⟨hj, hw⟩, ?_⟩))
      have e2 : (j == i) = false := by simpa using Ne.symm e
      by_cases e3 : j + 1 = i
      · have hk := hc.2
        subst e3
        simp only [ok1, Nat.add_sub_cancel, hj] at hk
        simp at hk
        simp [hk]
      · simp [e2, e3]
  · cases hs
theorem Lr.sto2 {nL i : Nat} {σ τ : List Value} {ls : Array Slot} {v : Value} (h : Lr nL σ ls) (hs : sto2 σ i v = some τ) : i + 1 < nL ∧ ∀ ls', lv_has ls' nL ((i, v) :: (prs σ).filter (fun q => !(q.1 == i) && (!(q.1 == i + 1) && !(q.1 + 1 == i && q.2.category == 2)))) → Lr nL τ ls' := by
  unfold Jvm.Pilot.@@N@@.sto2 at hs
  split at hs
  · rename_i hc
    cases hs
    refine ⟨by rw [← h.1]; exact hc.1, fun ls' hl => ⟨by rw [List.length_set, List.length_set]; exact h.1, hl.1, hl.2.1, fun j w hj hw => ?_⟩⟩
    rw [List.getElem?_set] at hj
    by_cases e1 : i + 1 = j
    · rw [if_pos e1] at hj
      split at hj
      · cases hj
        exact absurd rfl hw
      · cases hj
    · rw [if_neg e1, List.getElem?_set] at hj
      by_cases e : i = j
      · subst e
        rw [if_pos rfl, if_pos (by omega)] at hj
        cases hj
        exact hl.2.2 _ List.mem_cons_self
      · rw [if_neg e] at hj
        refine hl.2.2 (j, w) (List.mem_cons_of_mem _ (List.mem_filter.mpr ⟨mem_prs.mpr ⟨hj, hw⟩, ?_⟩))
        have n1 : ¬ j = i := fun q => e q.symm
        have n2 : ¬ j = i + 1 := fun q => e1 q.symm
        by_cases e3 : j + 1 = i
        · have hk := hc.2
          subst e3
          simp only [ok1, Nat.add_sub_cancel, hj] at hk
          simp at hk
          simp [hk]
          exact n2
        · simp [n1, n2, e3]
  · cases hs
def sInc {ρ : Type} (i : Nat) (v : Int32) : ST ρ := fun σ h => (lI i σ h).bind fun x => (sto σ i (.int (x.1 + v))).bind fun τ => some (.inr 0, τ, x.2)
section LOC
variable {ρ : Type} {K : SC} {emb : ρ → List Value} {ri : Instr}
theorem SJ_istore_n {e : EX Int32} {p0 p1 nB nC i : Nat} {j : Fin 4} (he : EJ K 0 eI e p0 p1) (hd : decode (kc K) p1 = .ok (.istore_n j, 1)) (hi : (j : Nat) = i) : SJ K emb ri (sI1 i e) p0 (p1 + 1) nB nC :=
  SJ_set (f := fun σ x => sto σ i (.int x)) he fun X hC σ τ h x hs g ls H locs hl hh ho => by
    obtain ⟨h1, h2⟩ := hl.sto hs
    exact lv_istore_n hC.1 hC.2.1 hd hi hl.has h1 rfl (fun ls' hl' => g ls' H locs (h2 ls' hl') hh ho)
theorem SJ_istore {e : EX Int32} {p0 p1 nB nC i : Nat} (he : EJ K 0 eI e p0 p1) (hd : decode (kc K) p1 = .ok (.istore i, 2)) : SJ K emb ri (sI1 i e) p0 (p1 + 2) nB nC :=
  SJ_set (f := fun σ x => sto σ i (.int x)) he fun X hC σ τ h x hs g ls H locs hl hh ho => by
    obtain ⟨h1, h2⟩ := hl.sto hs
    exact lv_istore hC.1 hC.2.1 hd hl.has h1 rfl (fun ls' hl' => g ls' H locs (h2 ls' hl') hh ho)
theorem SJ_astore_n {e : EX (Option Nat)} {p0 p1 nB nC i : Nat} {j : Fin 4} (he : EJ K 0 eR e p0 p1) (hd : decode (kc K) p1 = .ok (.astore_n j, 1)) (hi : (j : Nat) = i) : SJ K emb ri (sR1 i e) p0 (p1 + 1) nB nC :=
  SJ_set (f := fun σ x => sto σ i (va_rf x)) he fun X hC σ τ h x hs g ls H locs hl hh ho => by
    obtain ⟨h1, h2⟩ := hl.sto hs
    cases x with
    | none => exact lv_astore_nN hC.1 hC.2.1 hd hi hl.has h1 rfl (fun ls' hl' => g ls' H locs (h2 ls' hl') hh ho)
    | some a => exact lv_astore_n hC.1 hC.2.1 hd hi hl.has h1 rfl (fun ls' hl' => g ls' H locs (h2 ls' hl') hh ho)
theorem SJ_astore {e : EX (Option Nat)} {p0 p1 nB nC i : Nat} (he : EJ K 0 eR e p0 p1) (hd : decode (kc K) p1 = .ok (.astore i, 2)) : SJ K emb ri (sR1 i e) p0 (p1 + 2) nB nC :=
  SJ_set (f := fun σ x => sto σ i (va_rf x)) he fun X hC σ τ h x hs g ls H locs hl hh ho => by
    obtain ⟨h1, h2⟩ := hl.sto hs
    cases x with
    | none => exact lv_astoreN hC.1 hC.2.1 hd hl.has h1 rfl (fun ls' hl' => g ls' H locs (h2 ls' hl') hh ho)
    | some a => exact lv_astore hC.1 hC.2.1 hd hl.has h1 rfl (fun ls' hl' => g ls' H locs (h2 ls' hl') hh ho)
theorem SJ_lstore_n {e : EX Int64} {p0 p1 nB nC i : Nat} {j : Fin 4} (he : EJ K 0 eJ e p0 p1) (hd : decode (kc K) p1 = .ok (.lstore_n j, 1)) (hi : (j : Nat) = i) : SJ K emb ri (sJ1 i e) p0 (p1 + 1) nB nC :=
  SJ_set (f := fun σ x => sto2 σ i (.long x)) he fun X hC σ τ h x hs g ls H locs hl hh ho => by
    obtain ⟨h1, h2⟩ := hl.sto2 hs
    exact lv_lstore_n hC.1 hC.2.1 hd hi hl.has h1 rfl (fun ls' hl' => g ls' H locs (h2 ls' hl') hh ho)
theorem SJ_lstore {e : EX Int64} {p0 p1 nB nC i : Nat} (he : EJ K 0 eJ e p0 p1) (hd : decode (kc K) p1 = .ok (.lstore i, 2)) : SJ K emb ri (sJ1 i e) p0 (p1 + 2) nB nC :=
  SJ_set (f := fun σ x => sto2 σ i (.long x)) he fun X hC σ τ h x hs g ls H locs hl hh ho => by
    obtain ⟨h1, h2⟩ := hl.sto2 hs
    exact lv_lstore hC.1 hC.2.1 hd hl.has h1 rfl (fun ls' hl' => g ls' H locs (h2 ls' hl') hh ho)
theorem SJ_iinc {pc nB nC i : Nat} {n : Int} {v : Int32} (hd : decode (kc K) pc = .ok (.iinc i n, 3)) (hv : Int32.ofInt n = v) : SJ K emb ri (sInc i v) pc (pc + 3) nB nC := by
  have key : ∀ σ h o σ' h', (sInc i v : ST ρ) σ h = some (o, σ', h') → ∃ x, σ[i]? = some (.int x) ∧ sto σ i (.int (x + v)) = some σ' ∧ o = .inr 0 ∧ h' = h := by
    intro σ h o σ' h' q
    simp only [sInc, Option.bind_eq_some_iff] at q
    obtain ⟨⟨x, h1⟩, e1, τ, e2, e3⟩ := q
    obtain ⟨e4, rfl⟩ := lI_key e1
    cases e3
    exact ⟨x, e4, e2, rfl, rfl⟩
  refine ⟨fun σ h o σ' h' q => ?_, fun X hC rf hf hR σ h o σ' h' hbe q hfi g ls H locs hl hh ho => ?_⟩
  · obtain ⟨x, -, -, -, rfl⟩ := key σ h o σ' h' q
    exact Le.rf
  · obtain ⟨x, e1, e2, rfl, rfl⟩ := key σ h o σ' h' q
    obtain ⟨h1, h2⟩ := hl.sto e2
    obtain ⟨kk, hkk⟩ := List.getElem?_of_mem (mem_prs.mpr ⟨e1, nofun⟩)
    exact lv_iinc hC.1 hC.2.1 hd hl.has hkk (by rw [hv]) h1 rfl (fun ls' hl' => g ls' H locs (h2 ls' hl') hh ho)
theorem SJ_pop {α : Type} {ea : α → List Value} {e : EX α} {p0 p1 nB nC : Nat} (he : EJ K 0 ea e p0 p1) (hc : ∀ x, ∃ v : Value, ea x = [v] ∧ v.category = 1) (hd : decode (kc K) p1 = .ok (.pop, 1)) : SJ K emb ri (sE e) p0 (p1 + 1) nB nC :=
  SJ_E he fun X hC σ h x g ls H locs hl hh ho => by
    obtain ⟨v, e1, e2⟩ := hc x
    rw [e1]
    exact lv_pop hC.1 hC.2.1 hd e2 (g ls H locs hl hh ho)
theorem SJ_void {e : EX Unit} {p0 p1 nB nC : Nat} (he : EJ K 0 eU e p0 p1) : SJ K emb ri (sE e) p0 p1 nB nC := SJ_E he fun X hC σ h x g => g
end LOC
theorem SJ_retU {K : SC} {pc nN nB nC : Nat} (hd : decode (kc K) pc = .ok (.return_, 1)) : SJ K eU .return_ rtnU pc nN nB nC := by
  refine ⟨fun σ h o σ' h' q => ?_, fun X hC rf hf hR σ h o σ' h' hbe q hfi g => ?_⟩
  · cases q; exact Le.rf
  · cases q
    obtain ⟨rfl, rfl⟩ := g
    exact hR pc _ hd
/-! ===== fields ===== -/
theorem g_getf {K : SC} {X : CT} {c idx kf : Nat} {r : vw_C} (hC : CX K X) (hr : classes[c]? = some r) (hk : kf < r.2.2) (hq : Cond.fieldLink (ko K) idx (r.2.1 kf).1 (r.2.1 kf).2.1 (r.2.1 kf).2.2.1 ∈ TB) {a : Nat} {H : Heap} {V : Nat → Value} (hob : t_OB a ((xD X).1 c) r.2.2 ((xD X).2 c) H V) {pc : Nat} (hd : decode (kc K) pc = .ok (.getfield idx, 3)) {locs : List Loc} {cells slots : Nat} {ls : Array Slot} {rest : List Value}
    (kk : W (xP X) (xLn X) (xE X) (xR X) (xS X) (xM X) (xA X) (xB X) (xMe X) (xC X) H locs cells slots (xQ X) (F0 (xM X) (pc + 3) ls (V kf :: rest))) : W (xP X) (xLn X) (xE X) (xR X) (xS X) (xM X) (xA X) (xB X) (xMe X) (xC X) H locs cells slots (xQ X) (F0 (xM X) pc ls (.ref a :: rest)) := by
  obtain ⟨cell, q1, q2, q3, q4⟩ := hob
  obtain ⟨hx, hb, -, hown, hts, hKN, -⟩ := hC
  obtain ⟨hS, hfc, kC, hkC, hkind⟩ := hKN.1 c r hr
  obtain ⟨cf, kf', fi, f, hi, hsl⟩ := hS kf hk
  exact W.getf hx hb hown (hts _ hq) hi (u_facts hfc hkC (u_lays hts (cls_in c r hr) hk) hi).1 q1 (by rw [q3]; exact fun h => by cases h) (v := V kf) (by rw [hsl]; exact q4 kf hk) rfl rfl hd kk
theorem g_apart {K : SC} {X : CT} {c : Nat} {r : vw_C} (hC : CX K X) (hr : classes[c]? = some r) : ∀ x y, x < r.2.2 → y < r.2.2 → x ≠ y → ((xD X).2 c) x ≠ ((xD X).2 c) y := by
  intro x y hx hy hne
  obtain ⟨-, -, -, -, hts, hKN, -⟩ := hC
  obtain ⟨hS, -⟩ := hKN.1 c r hr
  obtain ⟨_, _, _, fa, hia, ea⟩ := hS x hx
  obtain ⟨_, _, _, fb, hib, eb⟩ := hS y hy
  rw [← ea, ← eb]
  refine u_apart (u_lays hts (cls_in c r hr) hx) (u_lays hts (cls_in c r hr) hy) hia hib ?_
  rw [(State.fieldFound?_type hia (cls_ty c r hr x hx)).1, (State.fieldFound?_type hib (cls_ty c r hr y hy)).1]
  exact cls_nm c r hr x hx y hy hne
theorem g_putf {K : SC} {X : CT} {c idx kf : Nat} {r : vw_C} (hC : CX K X) (hr : classes[c]? = some r) (hk : kf < r.2.2) (hfin : (r.2.1 kf).2.2.2 = false ∨ (ki K = true ∧ (r.2.1 kf).1 = ko K)) (hq : Cond.fieldLink (ko K) idx (r.2.1 kf).1 (r.2.1 kf).2.1 (r.2.1 kf).2.2.1 ∈ TB) {a : Nat} {H : Heap} {V : Nat → Value} (hob : t_OB a ((xD X).1 c) r.2.2 ((xD X).2 c) H V) {pc : Nat} (hd : decode (kc K) pc = .ok (.putfield idx, 3)) {v : Value} (hn : narrow (fty c kf) v = v) (hfit : fits (fty c kf) v = true) {locs : List Loc} {cells slots : Nat} {ls : Array Slot} {rest : List Value}
    (kk : ∀ (H' : Heap) (sl : Nat), t_OB a ((xD X).1 c) r.2.2 ((xD X).2 c) H' (updV V kf v) → H'.size = H.size → (∀ q, q ≠ a → H'[q]? = H[q]?) → W (xP X) (xLn X) (xE X) (xR X) (xS X) (xM X) (xA X) (xB X) (xMe X) (xC X) H' (locs ++ [⟨a, sl⟩]) cells slots (xQ X) (F0 (xM X) (pc + 3) ls rest)) : W (xP X) (xLn X) (xE X) (xR X) (xS X) (xM X) (xA X) (xB X) (xMe X) (xC X) H locs cells slots (xQ X) (F0 (xM X) pc ls (v :: .ref a :: rest)) := by
  have hap := g_apart hC hr
  obtain ⟨cell, q1, q2, q3, q4⟩ := hob
  obtain ⟨hx, hb, -, hown, hts, hKN, -, -, hini, -⟩ := hC
  obtain ⟨hS, hfc, kC, hkC, hkind⟩ := hKN.1 c r hr
  obtain ⟨cf, kf', fi, f, hi, hsl⟩ := hS kf hk
  have hst := (u_facts hfc hkC (u_lays hts (cls_in c r hr) hk) hi).1
  have hlay := hts _ (cls_in c r hr _ (u_in_lay hk))
  have hd2 := cls_ty c r hr kf hk
  cases hb2 : (r.2.1 kf).2.2.2 with
  | false =>
    unfold u_lay at hlay
    rw [if_neg (by rw [hb2]; decide)] at hlay
    have h6 := u_store hfc hkC hkind hlay hi hd2 hn hfit
    refine W.putK hx hb (f := f) ⟨hown, hts _ hq, ⟨_, _, _, hi⟩, hst⟩ (by rw [q2]; exact h6) q1 q3 (by rw [hsl]; exact k2_hasslot (q4 kf hk)) rfl rfl hd fun H' e1 e2 e3 => ?_
    rw [hsl] at e1 ⊢
    exact kk H' _ ⟨_, e1, q2, q3, t_set q4 hap hk v⟩ e2 e3
  | true =>
    obtain hf | ⟨hki, hdecl⟩ := hfin
    · rw [hb2] at hf; cases hf
    unfold u_lay at hlay
    rw [if_pos hb2] at hlay
    have hcf : (xM X).cls = cf := by
      obtain ⟨_, _, c', _, _, _, -, -, hf', -, -, -, hown2, -⟩ := Cond.laysFinal_spec hlay
      have e1 : c' = cf := by have := hi.symm.trans hf'; simp at this; exact this.1.symm
      rw [hdecl] at hown2
      rw [← e1]; exact Option.some.inj (hown.symm.trans hown2)
    have h6 := u_fits hfc hkC hkind (Or.inr hlay) hi hd2 hn hfit
    refine W.putFinK hx hb hown (hts _ hq) hi hst hcf (hini hki) (by rw [q2]; exact h6) q1 q3 (by rw [hsl]; exact k2_hasslot (q4 kf hk)) rfl rfl hd fun H' e1 e2 e3 => ?_
    rw [hsl] at e1 ⊢
    exact kk H' _ ⟨_, e1, q2, q3, t_set q4 hap hk v⟩ e2 e3
def gI (t kf : Nat) (o : Option Nat) (h : AH) : Option Int32 := o.bind fun a => if hT h a = t then some (hI h a kf) else none
def gJ (t kf : Nat) (o : Option Nat) (h : AH) : Option Int64 := o.bind fun a => if hT h a = t then some (hJ h a kf) else none
def gR (t kf : Nat) (o : Option Nat) (h : AH) : Option (Option Nat) := o.bind fun a => if hT h a = t then some (hR h a kf) else none
def pI (z : Bool) (t kf : Nat) (o : Option Nat) (v : Int32) (h : AH) : Option AH := o.bind fun a => if hT h a = t ∧ (z = false ∨ v = 0 ∨ v = 1) then some (sI h a kf v) else none
def pJ (t kf : Nat) (o : Option Nat) (v : Int64) (h : AH) : Option AH := o.bind fun a => if hT h a = t then some (sJ h a kf v) else none
def pR (t kf : Nat) (o : Option Nat) (v : Option Nat) (h : AH) : Option AH := o.bind fun a => if hT h a = t then some (sR h a kf v) else none
/-- field kf of the class at site t: its class number, its row of the table -/
def FK (K : SC) (t c kf idx : Nat) (r : vw_C) : Prop := sC t = some c ∧ classes[c]? = some r ∧ kf < r.2.2 ∧ Cond.fieldLink (ko K) idx (r.2.1 kf).1 (r.2.1 kf).2.1 (r.2.1 kf).2.2.1 ∈ TB
theorem obind {α β : Type} {o : Option α} {f : α → Option β} {y : β} (h : o.bind f = some y) : ∃ a, o = some a ∧ f a = some y := Option.bind_eq_some_iff.mp h
theorem oif {α : Type} {p : Prop} [Decidable p] {x y : α} (h : (if p then some x else none) = some y) : p ∧ x = y := by
  split at h
  · rename_i hp
    exact ⟨hp, Option.some.inj h⟩
  · cases h
section FLD
variable {ρ : Type} {K : SC} {emb : ρ → List Value} {ri : Instr} {k t c kf idx : Nat} {r : vw_C}
theorem r_getI (hf : FK K t c kf idx r) (hv : ∀ h a, fv h a c kf = .int (hI h a kf)) {pc : Nat} (hd : decode (kc K) pc = .ok (.getfield idx, 3)) {X : CT} (hC : CX K X) {σ st : List Value} {h : AH} {x : Option Nat} {y : Int32} (e : gI t kf x h = some y) (g : Gd X (kn K) (pc + 3) σ (.int y :: st) h) : Gd X (kn K) pc σ (va_rf x :: st) h := by
  intro ls H locs hl hh ho
  obtain ⟨a, rfl, e⟩ := obind e
  obtain ⟨ht, rfl⟩ := oif e
  obtain ⟨r', h1, hob⟩ := hh.obj (by rw [ht]; exact hf.1)
  cases hf.2.1.symm.trans h1
  exact g_getf hC hf.2.1 hf.2.2.1 hf.2.2.2 hob hd (by rw [hv]; exact g ls H locs hl hh ho)
theorem r_getJ (hf : FK K t c kf idx r) (hv : ∀ h a, fv h a c kf = .long (hJ h a kf)) {pc : Nat} (hd : decode (kc K) pc = .ok (.getfield idx, 3)) {X : CT} (hC : CX K X) {σ st : List Value} {h : AH} {x : Option Nat} {y : Int64} (e : gJ t kf x h = some y) (g : Gd X (kn K) (pc + 3) σ (.long y :: st) h) : Gd X (kn K) pc σ (va_rf x :: st) h := by
  intro ls H locs hl hh ho
  obtain ⟨a, rfl, e⟩ := obind e
  obtain ⟨ht, rfl⟩ := oif e
  obtain ⟨r', h1, hob⟩ := hh.obj (by rw [ht]; exact hf.1)
  cases hf.2.1.symm.trans h1
  exact g_getf hC hf.2.1 hf.2.2.1 hf.2.2.2 hob hd (by rw [hv]; exact g ls H locs hl hh ho)
theorem r_getR (hf : FK K t c kf idx r) (hv : ∀ h a, fv h a c kf = va_rf (hR h a kf)) {pc : Nat} (hd : decode (kc K) pc = .ok (.getfield idx, 3)) {X : CT} (hC : CX K X) {σ st : List Value} {h : AH} {x y : Option Nat} (e : gR t kf x h = some y) (g : Gd X (kn K) (pc + 3) σ (va_rf y :: st) h) : Gd X (kn K) pc σ (va_rf x :: st) h := by
  intro ls H locs hl hh ho
  obtain ⟨a, rfl, e⟩ := obind e
  obtain ⟨ht, rfl⟩ := oif e
  obtain ⟨r', h1, hob⟩ := hh.obj (by rw [ht]; exact hf.1)
  cases hf.2.1.symm.trans h1
  exact g_getf hC hf.2.1 hf.2.2.1 hf.2.2.2 hob hd (by rw [hv]; exact g ls H locs hl hh ho)
theorem EJ_getI {a : EX (Option Nat)} {p0 p1 : Nat} (ha : EJ K k eR a p0 p1) (hd : decode (kc K) p1 = .ok (.getfield idx, 3)) (hf : FK K t c kf idx r) (hv : ∀ h a, fv h a c kf = .int (hI h a kf)) : EJ K k eI (eh1 (gI t kf) a) p0 (p1 + 3) :=
  EJ_h1 ha fun X hC σ st h x y e g => r_getI hf hv hd hC e g
theorem EJ_getJ {a : EX (Option Nat)} {p0 p1 : Nat} (ha : EJ K k eR a p0 p1) (hd : decode (kc K) p1 = .ok (.getfield idx, 3)) (hf : FK K t c kf idx r) (hv : ∀ h a, fv h a c kf = .long (hJ h a kf)) : EJ K k eJ (eh1 (gJ t kf) a) p0 (p1 + 3) :=
  EJ_h1 ha fun X hC σ st h x y e g => r_getJ hf hv hd hC e g
theorem EJ_getR {a : EX (Option Nat)} {p0 p1 : Nat} (ha : EJ K k eR a p0 p1) (hd : decode (kc K) p1 = .ok (.getfield idx, 3)) (hf : FK K t c kf idx r) (hv : ∀ h a, fv h a c kf = va_rf (hR h a kf)) : EJ K k eR (eh1 (gR t kf) a) p0 (p1 + 3) :=
  EJ_h1 ha fun X hC σ st h x y e g => r_getR hf hv hd hC e g
theorem lo_app {X : CT} {locs : List Loc} {a sl : Nat} (ho : ∀ q ∈ locs, (xH X).size ≤ q.base) (ha : (xH X).size ≤ a) : ∀ q ∈ locs ++ [⟨a, sl⟩], (xH X).size ≤ q.base := by
  intro q hq
  rcases List.mem_append.mp hq with h | h
  · exact ho q h
  · rw [List.mem_singleton] at h
    subst h
    exact ha
theorem kv_ne (ty : FieldType) {h h' : AH} {a j : Nat} (e1 : hI h' a j = hI h a j) (e2 : hJ h' a j = hJ h a j) (e3 : hR h' a j = hR h a j) : kv ty h' a j = kv ty h a j := by
  cases ty <;> simp [kv, e1, e2, e3]
theorem up2_nk {α : Type} {f : Nat → Nat → α} {a kk b j : Nat} {v : α} (h : j ≠ kk) : up2 f a kk v b j = f b j := by simp [up2, h]
theorem up2_self {α : Type} {f : Nat → Nat → α} {a kk : Nat} {v : α} : up2 f a kk v a kk = v := by simp [up2]
/-- putting a field: any of the three kinds -/
theorem r_put (hf : FK K t c kf idx r) (hfin : (r.2.1 kf).2.2.2 = false ∨ (ki K = true ∧ (r.2.1 kf).1 = ko K)) {pc : Nat} (hd : decode (kc K) pc = .ok (.putfield idx, 3)) {X : CT} (hC : CX K X) {σ : List Value} {h h' : AH} {a : Nat} {v : Value} (ht : hT h a = t) (hn : narrow (fty c kf) v = v) (hfit : fits (fty c kf) v = true)
    (eN : hN h' = hN h) (eU : hU h' = hU h) (eT : hT h' = hT h) (eL : hL h' = hL h) (eo : ∀ b, b ≠ a → hI h' b = hI h b ∧ hJ h' b = hJ h b ∧ hR h' b = hR h b) (ek : ∀ j, j ≠ kf → hI h' a j = hI h a j ∧ hJ h' a j = hJ h a j ∧ hR h' a j = hR h a j) (ev : fv h' a c kf = v) {st : List Value} (g : Gd X (kn K) (pc + 3) σ st h') : Gd X (kn K) pc σ (v :: .ref a :: st) h := by
  intro ls H locs hl hh ho
  have hs : sC (hT h a) = some c := by rw [ht]; exact hf.1
  obtain ⟨r', h1, hob⟩ := hh.obj hs
  cases hf.2.1.symm.trans h1
  refine g_putf hC hf.2.1 hf.2.2.1 hfin hf.2.2.2 hob hd hn hfit fun H' sl o1 o2 o3 => ?_
  have hh' : Hr (xD X) (xAC X) (xH X) h' H' := by
    refine hh.upd (sC_0 hs) eN eT eL eo o2 o3 ⟨fun c' hc' => ?_, fun ty hty => ?_⟩
    · rw [eT, hs] at hc'
      cases hc'
      refine ⟨r, hf.2.1, o1.to (fun j _ => ?_)⟩
      by_cases e : j = kf
      · subst e
        simp [updV, ev]
      · simp [updV, e]
        obtain ⟨z1, z2, z3⟩ := ek j e
        exact (kv_ne _ z1 z2 z3).symm
    · rw [eT, sC_sA hs] at hty
      cases hty
  have := g ls H' (locs ++ [⟨a, sl⟩]) hl hh' (lo_app ho (hh.2.2.2 a (sC_0 hs)).1)
  rw [eN, eU] at this
  exact this
theorem pI_Le {z : Bool} (hw : t ∈ kw K) : ∀ (x : Option Nat) (y : Int32) (h h' : AH), pI z t kf x y h = some h' → Le (kw K) h h' := by
  intro x y h h' e
  obtain ⟨a, rfl, e⟩ := obind e
  obtain ⟨⟨ht, -⟩, rfl⟩ := oif e
  exact Le.sI (by rw [ht]; exact hw)
theorem pJ_Le (hw : t ∈ kw K) : ∀ (x : Option Nat) (y : Int64) (h h' : AH), pJ t kf x y h = some h' → Le (kw K) h h' := by
  intro x y h h' e
  obtain ⟨a, rfl, e⟩ := obind e
  obtain ⟨ht, rfl⟩ := oif e
  exact Le.sJ (by rw [ht]; exact hw)
theorem pR_Le (hw : t ∈ kw K) : ∀ (x : Option Nat) (y : Option Nat) (h h' : AH), pR t kf x y h = some h' → Le (kw K) h h' := by
  intro x y h h' e
  obtain ⟨a, rfl, e⟩ := obind e
  obtain ⟨ht, rfl⟩ := oif e
  exact Le.sR (by rw [ht]; exact hw)
def okZ (z : Bool) (c kf : Nat) : Prop := ∀ v : Int32, z = false ∨ v = 0 ∨ v = 1 → narrow (fty c kf) (.int v) = .int v ∧ fits (fty c kf) (.int v) = true
theorem r_putI {z : Bool} (hf : FK K t c kf idx r) (hfin : (r.2.1 kf).2.2.2 = false ∨ (ki K = true ∧ (r.2.1 kf).1 = ko K)) (hz : okZ z c kf) (hv : ∀ h a, fv h a c kf = .int (hI h a kf)) {pc : Nat} (hd : decode (kc K) pc = .ok (.putfield idx, 3)) {X : CT} (hC : CX K X) {σ st : List Value} {h h' : AH} {x : Option Nat} {y : Int32} (e : pI z t kf x y h = some h') (g : Gd X (kn K) (pc + 3) σ st h') : Gd X (kn K) pc σ (.int y :: va_rf x :: st) h := by
  obtain ⟨a, rfl, e⟩ := obind e
  obtain ⟨⟨ht, hc⟩, rfl⟩ := oif e
  obtain ⟨z1, z2⟩ := hz y hc
  exact r_put (h' := sI h a kf y) hf hfin hd hC ht z1 z2 rfl rfl rfl rfl (fun b hb => ⟨up2_ne hb, rfl, rfl⟩) (fun j hj => ⟨up2_nk hj, rfl, rfl⟩) (by rw [hv]; exact congrArg Value.int up2_self) g
theorem r_putJ (hf : FK K t c kf idx r) (hfin : (r.2.1 kf).2.2.2 = false ∨ (ki K = true ∧ (r.2.1 kf).1 = ko K)) (hz : fty c kf = .long) (hv : ∀ h a, fv h a c kf = .long (hJ h a kf)) {pc : Nat} (hd : decode (kc K) pc = .ok (.putfield idx, 3)) {X : CT} (hC : CX K X) {σ st : List Value} {h h' : AH} {x : Option Nat} {y : Int64} (e : pJ t kf x y h = some h') (g : Gd X (kn K) (pc + 3) σ st h') : Gd X (kn K) pc σ (.long y :: va_rf x :: st) h := by
  obtain ⟨a, rfl, e⟩ := obind e
  obtain ⟨ht, rfl⟩ := oif e
  exact r_put (h' := sJ h a kf y) hf hfin hd hC ht (by rw [hz]; rfl) (by rw [hz]; rfl) rfl rfl rfl rfl (fun b hb => ⟨rfl, up2_ne hb, rfl⟩) (fun j hj => ⟨rfl, up2_nk hj, rfl⟩) (by rw [hv]; exact congrArg Value.long up2_self) g
theorem r_putR (hf : FK K t c kf idx r) (hfin : (r.2.1 kf).2.2.2 = false ∨ (ki K = true ∧ (r.2.1 kf).1 = ko K)) (hz : (∃ C, fty c kf = .object C) ∨ ∃ u, fty c kf = .array u) (hv : ∀ h a, fv h a c kf = va_rf (hR h a kf)) {pc : Nat} (hd : decode (kc K) pc = .ok (.putfield idx, 3)) {X : CT} (hC : CX K X) {σ st : List Value} {h h' : AH} {x y : Option Nat} (e : pR t kf x y h = some h') (g : Gd X (kn K) (pc + 3) σ st h') : Gd X (kn K) pc σ (va_rf y :: va_rf x :: st) h := by
  obtain ⟨a, rfl, e⟩ := obind e
  obtain ⟨ht, rfl⟩ := oif e
  have h1 : narrow (fty c kf) (va_rf y) = va_rf y := by obtain ⟨C, hz⟩ | ⟨u, hz⟩ := hz <;> rw [hz] <;> cases y <;> rfl
  have h2 : fits (fty c kf) (va_rf y) = true := by obtain ⟨C, hz⟩ | ⟨u, hz⟩ := hz <;> rw [hz] <;> cases y <;> rfl
  exact r_put (h' := sR h a kf y) hf hfin hd hC ht h1 h2 rfl rfl rfl rfl (fun b hb => ⟨rfl, rfl, up2_ne hb⟩) (fun j hj => ⟨rfl, rfl, up2_nk hj⟩) (by rw [hv]; exact congrArg va_rf up2_self) g
theorem SJ_putI {z : Bool} {a : EX (Option Nat)} {b : EX Int32} {p0 p1 p2 nB nC : Nat} (ha : EJ K 0 eR a p0 p1) (hb : EJ K 1 eI b p1 p2) (hd : decode (kc K) p2 = .ok (.putfield idx, 3)) (hf : FK K t c kf idx r) (hfin : (r.2.1 kf).2.2.2 = false ∨ (ki K = true ∧ (r.2.1 kf).1 = ko K)) (hz : okZ z c kf) (hv : ∀ h a, fv h a c kf = .int (hI h a kf)) (hw : t ∈ kw K) : SJ K emb ri (sh2 (pI z t kf) a b) p0 (p2 + 3) nB nC :=
  SJ_h2 ha hb (fun x st hs => by rw [sm_R]; omega) ⟨pI_Le hw, fun X hC σ h x y h' e g => r_putI hf hfin hz hv hd hC e g⟩
theorem SJ_putJ {a : EX (Option Nat)} {b : EX Int64} {p0 p1 p2 nB nC : Nat} (ha : EJ K 0 eR a p0 p1) (hb : EJ K 1 eJ b p1 p2) (hd : decode (kc K) p2 = .ok (.putfield idx, 3)) (hf : FK K t c kf idx r) (hfin : (r.2.1 kf).2.2.2 = false ∨ (ki K = true ∧ (r.2.1 kf).1 = ko K)) (hz : fty c kf = .long) (hv : ∀ h a, fv h a c kf = .long (hJ h a kf)) (hw : t ∈ kw K) : SJ K emb ri (sh2 (pJ t kf) a b) p0 (p2 + 3) nB nC :=
  SJ_h2 ha hb (fun x st hs => by rw [sm_R]; omega) ⟨pJ_Le hw, fun X hC σ h x y h' e g => r_putJ hf hfin hz hv hd hC e g⟩
theorem SJ_putR {a b : EX (Option Nat)} {p0 p1 p2 nB nC : Nat} (ha : EJ K 0 eR a p0 p1) (hb : EJ K 1 eR b p1 p2) (hd : decode (kc K) p2 = .ok (.putfield idx, 3)) (hf : FK K t c kf idx r) (hfin : (r.2.1 kf).2.2.2 = false ∨ (ki K = true ∧ (r.2.1 kf).1 = ko K)) (hz : (∃ C, fty c kf = .object C) ∨ ∃ u, fty c kf = .array u) (hv : ∀ h a, fv h a c kf = va_rf (hR h a kf)) (hw : t ∈ kw K) : SJ K emb ri (sh2 (pR t kf) a b) p0 (p2 + 3) nB nC :=
  SJ_h2 ha hb (fun x st hs => by rw [sm_R]; omega) ⟨pR_Le hw, fun X hC σ h x y h' e g => r_putR hf hfin hz hv hd hC e g⟩
end FLD
