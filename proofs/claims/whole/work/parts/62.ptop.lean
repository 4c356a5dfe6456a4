/-! ===== the first twenty of some words ===== -/
def Srt (X : List (List Nat)) : Prop := X.Pairwise (fun a b => cd a < cd b)
def Cov (X : List (List Nat)) (v : List Nat) : Prop := v ∈ X ∨ (X.length = 20 ∧ ∀ x ∈ X, cd x < cd v)
def Top (L : List Nat → Prop) (X : List (List Nat)) : Prop := Srt X ∧ X.length ≤ 20 ∧ (∀ v ∈ X, L v) ∧ ∀ v, L v → Cov X v
theorem sub_len : ∀ (Y X : List (List Nat)), Y.Nodup → (∀ y ∈ Y, y ∈ X) → Y.length ≤ X.length
  | [], _, _, _ => Nat.zero_le _
  | y :: Y, X, hn, hs => by
    rw [List.nodup_cons] at hn
    have hy := hs y (List.mem_cons_self ..)
    have h1 := sub_len Y (X.erase y) hn.2 (fun z hz => (List.mem_erase_of_ne (show z ≠ y from fun e => hn.1 (by rw [← e]; exact hz))).mpr (hs z (List.mem_cons_of_mem _ hz)))
    rw [List.length_erase_of_mem hy] at h1
    have := List.length_pos_of_mem hy
    rw [List.length_cons]
    omega
theorem Srt_nodup {X : List (List Nat)} (h : Srt X) : X.Nodup := List.Pairwise.imp (fun {a b} (q : cd a < cd b) e => by rw [e] at q; exact Nat.lt_irrefl _ q) h
theorem Srt_ext : ∀ {X Y : List (List Nat)}, Srt X → Srt Y → (∀ v, v ∈ X ↔ v ∈ Y) → X = Y
  | [], Y, _, _, h => by
    cases Y with
    | nil => rfl
    | cons b Y => exact absurd ((h b).mpr (List.mem_cons_self ..)) (by simp)
  | a :: X, Y, hx, hy, h => by
    cases Y with
    | nil => exact absurd ((h a).mp (List.mem_cons_self ..)) (by simp)
    | cons b Y =>
      have hx' := List.pairwise_cons.mp hx
      have hy' := List.pairwise_cons.mp hy
      have e : a = b := by
        rcases List.mem_cons.mp ((h a).mp (List.mem_cons_self ..)) with q | q
        · exact q
        · rcases List.mem_cons.mp ((h b).mpr (List.mem_cons_self ..)) with z | z
          · exact z.symm
          · have := hx'.1 b z
            have := hy'.1 a q
            omega
      subst e
      refine congrArg _ (Srt_ext hx'.2 hy'.2 fun v => ⟨fun q => ?_, fun q => ?_⟩)
      · rcases List.mem_cons.mp ((h v).mp (List.mem_cons_of_mem _ q)) with z | z
        · have := hx'.1 v q
          rw [z] at this
          omega
        · exact z
      · rcases List.mem_cons.mp ((h v).mpr (List.mem_cons_of_mem _ q)) with z | z
        · have := hy'.1 v q
          rw [z] at this
          omega
        · exact z
theorem Top_sub {L : List Nat → Prop} {X Y : List (List Nat)} (hx : Top L X) (hy : Top L Y) {v : List Nat} (hv : v ∈ X) : v ∈ Y := by
  rcases hy.2.2.2 v (hx.2.2.1 v hv) with q | ⟨q1, q2⟩
  · exact q
  · have hs : ∀ y ∈ Y, y ∈ X := by
      intro y h
      rcases hx.2.2.2 y (hy.2.2.1 y h) with z | ⟨z1, z2⟩
      · exact z
      · have := z2 v hv
        have := q2 y h
        omega
    have hn : (v :: Y).Nodup := List.nodup_cons.mpr ⟨fun z => Nat.lt_irrefl _ (q2 v z), Srt_nodup hy.1⟩
    have := sub_len (v :: Y) X hn (fun z hz => by
      rcases List.mem_cons.mp hz with e | e
      · rw [e]; exact hv
      · exact hs z e)
    rw [List.length_cons, q1] at this
    have := hx.2.1
    omega
theorem Top_uniq {L : List Nat → Prop} {X Y : List (List Nat)} (hx : Top L X) (hy : Top L Y) : X = Y :=
  Srt_ext hx.1 hy.1 fun _ => ⟨Top_sub hx hy, Top_sub hy hx⟩
theorem cov_many {S T : List (List Nat)} {z : List Nat} (hS : S.length ≤ 20) (hn : T.Nodup) (hl : T.length = 20) (hc : ∀ t ∈ T, Cov S t ∧ cd t < cd z) : Cov S z := by
  by_cases q : ∀ t ∈ T, t ∈ S
  · have h1 := sub_len T S hn q
    refine Or.inr ⟨by omega, fun x hx => ?_⟩
    by_cases e : x ∈ T
    · exact (hc x e).2
    · have := sub_len (x :: T) S (List.nodup_cons.mpr ⟨e, hn⟩) (fun y hy => by
        rcases List.mem_cons.mp hy with e | e
        · rw [e]; exact hx
        · exact q y e)
      rw [List.length_cons] at this
      omega
  · have ⟨t, q⟩ := Classical.not_forall.mp q
    have ⟨ht, q⟩ := Classical.not_imp.mp q
    obtain ⟨h1, h2⟩ := hc t ht
    rcases h1 with h1 | ⟨h1, h3⟩
    · exact absurd h1 q
    · exact Or.inr ⟨h1, fun x hx => by have := h3 x hx; omega⟩
theorem map_nodup {f : List Nat → List Nat} (hf : ∀ a b, f a = f b → a = b) {F : List (List Nat)} (h : F.Nodup) : (F.map f).Nodup := by
  unfold List.Nodup at *
  rw [List.pairwise_map]
  exact List.Pairwise.imp (fun {a b} hab e => hab (hf a b e)) h
/-- words that two lists cover, one behind the other -/
theorem cov_join {F G S : List (List Nat)} {u v : List Nat} (hF : Srt F) (hG : Srt G) (wF : ∀ a ∈ F, WL a) (wG : ∀ b ∈ G, WL b) (hS : S.length ≤ 20) (hc : ∀ a ∈ F, ∀ b ∈ G, (a ++ b).length ≤ 3 → Cov S (a ++ b)) (wu : WL u) (wv : WL v) (hu : Cov F u) (hv : Cov G v) (hl : (u ++ v).length ≤ 3) : Cov S (u ++ v) := by
  rw [List.length_append] at hl
  by_cases q : u ∈ F
  · rcases hv with hv | ⟨v1, v2⟩
    · exact hc u q v hv (by rw [List.length_append]; omega)
    · refine cov_many (T := G.map (fun b => u ++ b)) hS (map_nodup (fun a b e => List.append_cancel_left e) (Srt_nodup hG)) (by rw [List.length_map]; exact v1) ?_
      intro t ht
      obtain ⟨b, hb, rfl⟩ := List.mem_map.mp ht
      have := cd_len (wG b hb) wv (Nat.le_of_lt (v2 b hb))
      exact ⟨hc u q b hb (by rw [List.length_append]; omega), cd_monoR (wG b hb) wv (v2 b hb)⟩
  · rcases hu with hu | ⟨u1, u2⟩
    · exact absurd hu q
    · have key : ∃ b, b ∈ G ∧ cd b ≤ cd v := by
        rcases hv with hv | ⟨v1, v2⟩
        · exact ⟨v, hv, Nat.le_refl _⟩
        · cases G with
          | nil => simp at v1
          | cons b G => exact ⟨b, List.mem_cons_self .., Nat.le_of_lt (v2 b (List.mem_cons_self ..))⟩
      obtain ⟨b, hb, hbv⟩ := key
      refine cov_many (T := F.map (fun a => a ++ b)) hS (map_nodup (fun a c e => List.append_cancel_right e) (Srt_nodup hF)) (by rw [List.length_map]; exact u1) ?_
      intro t ht
      obtain ⟨a, ha, rfl⟩ := List.mem_map.mp ht
      have l1 := cd_len (wF a ha) wu (Nat.le_of_lt (u2 a ha))
      have l2 := cd_len (wG b hb) wv hbv
      refine ⟨hc a ha b hb (by rw [List.length_append]; omega), ?_⟩
      have m1 := cd_monoL (v := b) (u2 a ha)
      rcases Nat.lt_or_ge (cd b) (cd v) with z | z
      · have m2 := cd_monoR (u := u) (wG b hb) wv z
        show cd (a ++ b) < cd (u ++ v)
        omega
      · rw [cd_inj (wG b hb) wv (by omega)] at m1 ⊢
        exact m1
theorem rowW_snoc {L : Nat → List Nat → Prop} {c : Nat} : ∀ (r v : List Nat), rowW L (r ++ [c]) v ↔ ∃ v1 v2, v = v1 ++ v2 ∧ rowW L r v1 ∧ stp L c v2
  | [], v => by
    constructor
    · rintro ⟨v1, v2, e, h1, h2⟩
      exact ⟨[], v, rfl, rfl, by rw [e, show v2 = [] from h2, List.append_nil]; exact h1⟩
    · rintro ⟨v1, v2, e, h1, h2⟩
      exact ⟨v, [], by simp, by rw [e, show v1 = [] from h1]; exact h2, rfl⟩
  | a :: r, v => by
    constructor
    · rintro ⟨v1, v2, e, h1, h2⟩
      obtain ⟨v3, v4, e2, h3, h4⟩ := (rowW_snoc r v2).mp h2
      exact ⟨v1 ++ v3, v4, by rw [e, e2, List.append_assoc], ⟨v1, v3, rfl, h1, h3⟩, h4⟩
    · rintro ⟨v1, v4, e, ⟨v5, v3, e2, h1, h3⟩, h4⟩
      exact ⟨v5, v3 ++ v4, by rw [e, e2, List.append_assoc], h1, (rowW_snoc r _).mpr ⟨v3, v4, rfl, h3, h4⟩⟩
/-- the words of at most k letters -/
def LW (A : Alts) (c k : Nat) (v : List Nat) : Prop := Lang A c v ∧ v.length ≤ k
noncomputable def HW (A : Alts) (k c : Nat) : List (List Nat) := @dite _ (∃ X, Top (LW A c k) X) (Classical.propDecidable _) (fun h => Classical.choose h) (fun _ => [])
theorem HW_eq {A : Alts} {k c : Nat} {X : List (List Nat)} (h : Top (LW A c k) X) : HW A k c = X := by
  have hx : ∃ X, Top (LW A c k) X := ⟨X, h⟩
  unfold HW
  rw [dif_pos hx]
  exact Top_uniq (Classical.choose_spec hx) h
/-- lists that nothing more comes into have all that is due -/
theorem cov_all {A : Alts} (hA : AOK A) {W : Nat → List (List Nat)} (h : ∀ c row v, row ∈ A c → rowW (fun c v => WL v ∧ Cov (W c) v) row v → v.length ≤ 3 → Cov (W c) v) {c : Nat} {v : List Nat} (hl : Lang A c v) (h3 : v.length ≤ 3) : Cov (W c) v := by
  have key : ∀ r v, (∀ s ∈ r, SG s) → rowW (fun c v => WL v ∧ (v.length ≤ 3 → Cov (W c) v)) r v → WL v ∧ (v.length ≤ 3 → rowW (fun c v => WL v ∧ Cov (W c) v) r v) := by
    intro r
    induction r with
    | nil => intro v _ e; rw [show v = [] from e]; exact ⟨WL_nil, fun _ => rfl⟩
    | cons a r ih =>
      rintro v hs ⟨v1, v2, e, h1, h2⟩
      obtain ⟨i1, i2⟩ := ih v2 (fun s q => hs s (List.mem_cons_of_mem _ q)) h2
      have k : WL v1 ∧ (v1.length ≤ 3 → stp (fun c v => WL v ∧ Cov (W c) v) a v1) := by
        unfold stp at *
        split at h1
        · rename_i z
          rw [if_pos z]
          exact ⟨h1.1, fun q => ⟨h1.1, h1.2 q⟩⟩
        · rename_i z
          rw [if_neg z]
          rw [cap_iff] at z
          rcases hs a (List.mem_cons_self ..) with y | y
          · exact ⟨by rw [h1, WL_cons]; exact ⟨y, WL_nil⟩, fun _ => h1⟩
          · exact absurd y z
      rw [e, WL_app]
      refine ⟨⟨k.1, i1⟩, fun hl => ?_⟩
      rw [List.length_append] at hl
      exact ⟨v1, v2, rfl, k.2 (by omega), i2 (by omega)⟩
  have := Lang_ind (A := A) (P := fun c v => WL v ∧ (v.length ≤ 3 → Cov (W c) v)) (fun c row v hr hw => by
    obtain ⟨k1, k2⟩ := key row v (hA c row hr) hw
    exact ⟨k1, fun q => h c row v hr (k2 q) q⟩) hl
  exact this.2 h3
/-- those of at most k letters among the first of at most 3 -/
theorem Top_filter {A : Alts} (hA : AOK A) {c k : Nat} (hk : k ≤ 3) {X : List (List Nat)} (h : Top (LW A c 3) X) : Top (LW A c k) (X.filter (fun v => decide (v.length ≤ k))) := by
  obtain ⟨h1, h2, h3, h4⟩ := h
  refine ⟨List.Pairwise.filter _ h1, Nat.le_trans (List.length_filter_le _ _) h2, fun v hv => ?_, fun v hv => ?_⟩
  · rw [List.mem_filter] at hv
    exact ⟨(h3 v hv.1).1, of_decide_eq_true hv.2⟩
  · rcases h4 v ⟨hv.1, Nat.le_trans hv.2 hk⟩ with q | ⟨q1, q2⟩
    · exact Or.inl (List.mem_filter.mpr ⟨q, decide_eq_true hv.2⟩)
    · have e : X.filter (fun v => decide (v.length ≤ k)) = X := by
        rw [List.filter_eq_self]
        intro x hx
        have := cd_len (Lang_WL hA (h3 x hx).1) (Lang_WL hA hv.1) (Nat.le_of_lt (q2 x hx))
        exact decide_eq_true (Nat.le_trans this hv.2)
      rw [e]
      exact Or.inr ⟨q1, q2⟩
/-! how many numbers a list does not cover: falls when a row comes in -/
def cntP (p : Nat → Bool) (n : Nat) : Nat := (List.range n).countP p
theorem cntP_le {p q : Nat → Bool} {n : Nat} (h : ∀ i, p i = true → q i = true) : cntP p n ≤ cntP q n := List.countP_mono_left (fun x _ => h x)
theorem cntP_lt {p q : Nat → Bool} {n k : Nat} (h : ∀ i, p i = true → q i = true) (hk : k < n) (h1 : p k = false) (h2 : q k = true) : cntP p n < cntP q n := by
  unfold cntP
  have e : List.range n = List.range k ++ (k :: (List.range (n - k - 1)).map (fun x => k + 1 + x)) := by
    have e : n = k + (1 + (n - k - 1)) := by omega
    conv => lhs; rw [e]
    rw [List.range_add, List.range_add]
    simp [Nat.add_assoc]
  rw [e, List.countP_append, List.countP_append, List.countP_cons, List.countP_cons, h1, h2]
  have a := List.countP_mono_left (l := List.range k) (p := p) (q := q) (fun x _ => h x)
  have b := List.countP_mono_left (l := (List.range (n - k - 1)).map (fun x => k + 1 + x)) (p := p) (q := q) (fun x _ => h x)
  simp only [if_true, Bool.false_eq_true, if_false]
  omega
theorem cntP_max {p : Nat → Bool} {n : Nat} : cntP p n ≤ n := by
  have := List.countP_le_length (p := p) (l := List.range n)
  rw [List.length_range] at this
  exact this
