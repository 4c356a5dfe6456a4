/-! ===== the class: Upper.findWords ===== -/
theorem Fx_sR {A : Nat → Prop} {h : AH} {a k : Nat} {v : Option Nat} (ha : A a) : Fx A 0 0 h (sR h a k v) := (Fz_sR ha).fx
theorem Fx_nw {A : Nat → Prop} {h : AH} {t n u : Nat} : Fx A 1 u h (nw h t n u) := ⟨⟨by rw [hN_nw]; omega, by rw [hN_nw]; omega⟩, ⟨by rw [hU_nw]; omega, by rw [hU_nw]; omega⟩, fun a ha => ⟨by rw [hT_nw, vu_n (by omega)], by rw [hL_nw, vu_n (by omega)], fun _ => ⟨by rw [hI_nw, vu_n (by omega)], by rw [hJ_nw, vu_n (by omega)], by rw [hR_nw, vu_n (by omega)]⟩⟩⟩
theorem Fx.w0 {A : Nat → Prop} {n u n' u' : Nat} {h h1 : AH} (a : Fx A n u h h1) (hn : n ≤ n') (hu : u ≤ u') : Fx A n' u' h h1 := a.w (fun _ _ z => z) hn hu
theorem WF_nw {h : AH} {t n u : Nat} (w : WF h) : WF (nw h t n u) := fun a ha => by
  rw [hN_nw]
  by_cases z : a = hN h
  · omega
  · rw [hT_nw, vu_n z] at ha
    have := w a ha; omega
theorem WF_sR {h : AH} {a k : Nat} {v : Option Nat} (w : WF h) : WF (sR h a k v) := w
theorem WF_z {A : Nat → Prop} {h h' : AH} (w : WF h) (z : Fz A h h') : WF h' := fun a ha => by
  rw [z.1]; rw [z.2.2.1] at ha; exact w a ha
theorem WF_nwFs {h : AH} (w : WF h) : WF (nwFs h) := WF_sR (WF_nw (WF_nw w))
/-- the words so far, and what is still to be gone through -/
def WdI (nm : List Nat) (A : Alts) (X : Nat → List (List Nat)) : Prop := (∀ i, i < nm.length → XOK (X i) ∧ ∀ x ∈ X i, Lang A (nm.getD i 0) x) ∧ ∀ i, nm.length ≤ i → X i = []
theorem idx_get {nm : List Nat} {c : Nat} (h : c ∈ nm) : nm.getD (nm.idxOf c) 0 = c := by
  have l := List.idxOf_lt_length_iff.mpr h
  rw [List.getD_eq_getElem?_getD, List.getElem?_eq_getElem l]
  exact List.getElem_idxOf l
theorem get_idx {nm : List Nat} (hn : nm.Nodup) {i : Nat} (hi : i < nm.length) : nm.idxOf (nm.getD i 0) = i := by
  rw [List.getD_eq_getElem?_getD, List.getElem?_eq_getElem hi]
  exact hn.idxOf_getElem i hi
theorem WdI_lang {nm : List Nat} {A : Alts} {X : Nat → List (List Nat)} (hx : WdI nm A X) {c : Nat} {v : List Nat} (hv : v ∈ Wd nm X c) : Lang A c v := by
  unfold Wd at hv
  by_cases z : c ∈ nm
  · have := (hx.1 _ (List.idxOf_lt_length_iff.mpr z)).2 v hv
    rw [idx_get z] at this
    exact this
  · rw [hx.2 _ (Nat.le_of_not_lt (fun q => z (List.idxOf_lt_length_iff.mp q)))] at hv
    cases hv
theorem Wd_end {nm : List Nat} {A : Alts} {X : Nat → List (List Nat)} (ha : AltOK nm A) (hx : WdI nm A X) (hc : ∀ s a, s < nm.length → a < (A (nm.getD s 0)).length → ∀ z, rowW (fun c v => WL v ∧ Cov (Wd nm X c) v) ((A (nm.getD s 0)).getD a []) z → z.length ≤ 3 → Cov (X s) z) {s : Nat} (hs : s < nm.length) : Top (LW A (nm.getD s 0) 3) (X s) := by
  obtain ⟨⟨o1, o2, o3⟩, o4⟩ := hx.1 s hs
  have aok : AOK A := fun c row hr x hx => ((ha.1 c).2.2 row hr).2 x hx |>.1
  refine ⟨o1, o2, fun v hv => ⟨o4 v hv, (o3 v hv).2⟩, fun v hv => ?_⟩
  have key := cov_all aok (W := Wd nm X) (fun c row v hr hw h3 => by
    have cn : c ∈ nm := (ha.1 c).2.1 (fun z => by rw [z] at hr; cases hr)
    obtain ⟨a, a1, a2⟩ := mem_getD (d := []) hr
    have il := List.idxOf_lt_length_iff.mpr cn
    have := hc (nm.idxOf c) a il (by rw [idx_get cn]; exact a1) v
    rw [idx_get cn, a2] at this
    exact this hw h3) hv.1 hv.2
  unfold Wd at key
  rw [get_idx ha.2.1 hs] at key
  exact key
/-- one alternative taken -/
theorem q_take1 {h : AH} {U W P : Nat} {nm : List Nat} {A : Alts} {X : Nat → List (List Nat)} (hU : UpS h U nm A) (r4 : hR h U 4 = some W) (hW : WdAt h W nm.length X) (hP : SpAt h P) (w : WF h) (uW : U + 4 < W) (aW : ∀ a, hT h a = 34 → a < W) (wP : W + 1 + 2 * nm.length ≤ P) (hx : WdI nm A X) (ha : AltOK nm A) (n6 : nm.length ≤ 6) {q k : Nat} (hq : q < nm.length) (hk : k < (A (nm.getD q 0)).length) :
    ∃ h' X' b s, hR h (U + 3) (q * 4 + k) = some s ∧ d_Upper_takeWords [.ref U, .ref (W + 1 + 2 * q), .ref s, .ref P] h = some (bI b, h') ∧ UpS h' U nm A ∧ hR h' U 4 = some W ∧ WdAt h' W nm.length X' ∧ SpAt h' P ∧ WF h' ∧ (∀ a, hT h' a = 34 → a < W) ∧ WdI nm A X' ∧ (∀ i u, Cov (X i) u → Cov (X' i) u) ∧ (b = true → mw X' nm.length < mw X nm.length) ∧ (b = false → X' = X ∧ ∀ z, rowW (fun c v => WL v ∧ Cov (Wd nm X c) v) ((A (nm.getD q 0)).getD k []) z → z.length ≤ 3 → Cov (X q) z) ∧ Fz (Bk W (P + 7 - W)) h h' := by
  obtain ⟨s, s1, s2, s3⟩ := (hU.2.2.2.2 q (by omega)).2 k hk
  have hm := getD_in (d := []) hk
  obtain ⟨r6, rs⟩ := (ha.1 _).2.2 _ hm
  obtain ⟨h', X', b, e1, f1, o1, t1, u1, c1, z1, so1⟩ := q_takeWords hU.1.1 r4 hW hP s3 (by omega) (aW s s2) wP (fun i hi => (hx.1 i hi).1) rs r6 (by omega) hq
  have zz : Fz (Bk W (P + 7 - W)) h h' := z1.w (fun a z => by unfold Bk at *; omega)
  have le : ∀ i u, Cov (X i) u → Cov (uc X q X' i) u := fun i u hu => by
    by_cases y : i = q
    · subst y; rw [uc_eq]; exact t1.2.2 u hu
    · rw [uc_ne y]; exact hu
  have tW : hT h' = hT h := zz.2.2.1
  have rU := (zz.2.2.2.2 U (by unfold Bk; omega)).2.2
  have iU := (zz.2.2.2.2 U (by unfold Bk; omega)).1
  have hP2 := hP
  obtain ⟨p1, p2, p3⟩ := hP
  have nq : ∀ i, i < nm.length → i ≠ q → FsAt h' (W + 1 + 2 * i) (X i) := fun i hi y => FsAt_z (hW.2.2 i hi).2 z1 (by unfold Bk; omega) (by unfold Bk; omega)
  refine ⟨h', uc X q X', b, s, s1, e1, UpS_x hU w z1.fx (fun k _ => by rw [rU]) (by rw [iU]) (fun a hA => Or.inr ?_), by rw [rU]; exact r4, ⟨by rw [tW]; exact hW.1, by rw [zz.2.2.2.1]; exact hW.2.1, fun i hi => ⟨?_, ?_⟩⟩, ?_, WF_z w zz, fun a hA => aW a (by rw [← tW]; exact hA), ⟨fun i hi => ?_, fun i hi => ?_⟩, le, fun hb => ?_, fun hb => ?_, zz⟩
  · have q2 := (hW.2.2 q hq).2.1
    have e36 := Fst_rows q2
    have e2 := q2.1
    rcases hA with y | y
    · unfold Bk at y
      rcases (show a = W + 1 + 2 * q ∨ a = W + 1 + 2 * q + 1 by omega) with e | e
      · rw [e, e2]; decide
      · rw [e, e36]; decide
    · unfold Bk at y
      obtain ⟨k, hk3, e | e⟩ : ∃ k, k < 3 ∧ (a = P + 1 + 2 * k ∨ a = P + 1 + 2 * k + 1) := ⟨(a - (P + 1)) / 2, by omega, by omega⟩
      · rw [e, (p3 k hk3).2.1]; decide
      · rw [e, Fst_rows (p3 k hk3).2]; decide
  · rw [(z1.2.2.2.2 W (by unfold Bk; omega)).2.2]; exact (hW.2.2 i hi).1
  · by_cases y : i = q
    · subst y; rw [uc_eq]; exact f1
    · rw [uc_ne y]; exact nq i hi y
  · exact ⟨by rw [tW]; exact p1, by rw [zz.2.2.2.1]; exact p2, fun k hk => ⟨by rw [(z1.2.2.2.2 P (by unfold Bk; omega)).2.2]; exact (p3 k hk).1, so1 k hk⟩⟩
  · by_cases y : i = q
    · subst y
      rw [uc_eq]
      refine ⟨o1, fun x hx' => ?_⟩
      rcases u1 x hx' with m | m
      · exact (hx.1 i hi).2 x m
      · exact Lang_in hm (rowW_mono (fun c v hv => WdI_lang hx hv) _ _ m)
    · rw [uc_ne y]; exact hx.1 i hi
  · rw [uc_ne (by omega)]; exact hx.2 i hi
  · obtain ⟨v, v1, v2, v3, v4⟩ := t1.2.1 hb
    exact mw_lt le v1 v2 v3 (by rw [uc_eq]; exact v4) _ hq
  · have e := t1.1 hb
    rw [e] at c1 ⊢
    exact ⟨uc_self, c1⟩
