/-! ===== what a told text gives, purely ===== -/
theorem lst_all {X S : Type} {tp : List Nat} {mk : Nat} {rd : Nat → S → Nat ⊕ (X × S × Nat)} (I : List X → S → Prop) (st : ∀ a s x s' a' acc, I acc s → rd a s = .inr (x, s', a') → I (acc ++ [x]) s') : ∀ (n a : Nat) (acc : List X) (s : S) (l : List X) (s' : S) (a' : Nat), I acc s → lst tp mk rd n a acc s = .inr (l, s', a') → I l s'
  | 0, a, acc, s, l, s', a', hi, he => by
    rw [lst] at he
    obtain ⟨rfl, h2⟩ := Prod.mk.inj (Sum.inr.inj he)
    obtain ⟨rfl, rfl⟩ := Prod.mk.inj h2
    exact hi
  | n + 1, a, acc, s, l, s', a', hi, he => by
    rw [lst_s] at he
    generalize hr : rd a s = r at he
    match r, hr, he with
    | .inl F, hr, he => cases he
    | .inr (x, s1, a1), hr, he =>
      have hi1 := st _ _ _ _ _ _ hi hr
      dsimp only at he
      split at he
      · split at he
        · cases he
        · exact lst_all I st n _ _ _ _ _ _ hi1 he
      · obtain ⟨rfl, h2⟩ := Prod.mk.inj (Sum.inr.inj he)
        obtain ⟨rfl, rfl⟩ := Prod.mk.inj h2
        exact hi1
theorem nwF_frs {c : Nat} {hd fr : List Nat} : frsF hd fr c = if nwF c hd fr = true then fr ++ [c] else fr := by
  unfold frsF nwF
  by_cases h1 : cap c = true <;> by_cases h2 : c ∈ hd <;> by_cases h3 : c ∈ fr <;> simp [h1, h2, h3]
theorem rdS_ext {tp : List Nat} {fl : Bool} {hd : List Nat} : ∀ (n a : Nat) (acc fr row fr' : List Nat) (a' : Nat), rdS tp fl hd n a acc fr = .inr (row, fr', a') → ∃ ext, row = acc ++ ext ∧ (∀ x ∈ ext, x ∈ tp) ∧ (fl = true → fr' = ext.foldl (frsF hd) fr ∧ (fr.length ≤ 2 → fr'.length ≤ 2))
  | 0, a, acc, fr, row, fr', a', he => by
    rw [rdS] at he
    obtain ⟨rfl, h2⟩ := Prod.mk.inj (Sum.inr.inj he)
    obtain ⟨rfl, rfl⟩ := Prod.mk.inj h2
    exact ⟨[], by rw [List.append_nil], fun x hx => (by cases hx), fun _ => ⟨rfl, fun y => y⟩⟩
  | n + 1, a, acc, fr, row, fr', a', he => by
    rw [rdS] at he
    by_cases h1 : isSg tp (nx tp a) = true
    · rw [if_pos h1] at he
      have hm : tp.getD (nx tp a) 0 ∈ tp := getD_mem (isSg_SG h1).1
      by_cases h2 : acc.length = 6
      · rw [if_pos h2] at he; cases he
      · rw [if_neg h2] at he
        by_cases h3 : (fl && nwF (tp.getD (nx tp a) 0) hd fr) = true
        · rw [if_pos h3] at he
          by_cases h4 : fr.length = 2
          · rw [if_pos h4] at he; cases he
          · rw [if_neg h4] at he
            obtain ⟨ext, e1, e2, e3⟩ := rdS_ext n _ _ _ _ _ _ he
            refine ⟨tp.getD (nx tp a) 0 :: ext, by rw [e1, List.append_assoc]; rfl, fun x hx => ?_, fun z => ?_⟩
            · rcases List.mem_cons.mp hx with q | q
              · rw [q]; exact hm
              · exact e2 x q
            · rw [List.foldl_cons, nwF_frs, if_pos (Bool.and_eq_true_iff.mp h3).2]
              refine ⟨(e3 z).1, fun y => (e3 z).2 ?_⟩
              rw [List.length_append, List.length_singleton]; omega
        · rw [if_neg h3] at he
          obtain ⟨ext, e1, e2, e3⟩ := rdS_ext n _ _ _ _ _ _ he
          refine ⟨tp.getD (nx tp a) 0 :: ext, by rw [e1, List.append_assoc]; rfl, fun x hx => ?_, fun z => ?_⟩
          · rcases List.mem_cons.mp hx with q | q
            · rw [q]; exact hm
            · exact e2 x q
          · rw [z, Bool.true_and] at h3
            rw [List.foldl_cons, nwF_frs, if_neg h3]
            exact e3 z
    · rw [if_neg h1] at he
      obtain ⟨rfl, h2⟩ := Prod.mk.inj (Sum.inr.inj he)
      obtain ⟨rfl, rfl⟩ := Prod.mk.inj h2
      exact ⟨[], by rw [List.append_nil], fun x hx => (by cases hx), fun _ => ⟨rfl, fun y => y⟩⟩
theorem rdM_ok {tp hd fr fr' : List Nat} {a a' : Nat} {m : Bool × List Nat} (he : rdM tp hd a fr = .inr (m, fr', a')) : (∀ x ∈ m.2, x ∈ tp) ∧ fr' = m.2.foldl (frsF hd) fr ∧ (fr.length ≤ 2 → fr'.length ≤ 2) := by
  unfold rdM at he
  generalize hr : rdS tp true hd 7 (nx tp a + (if nx tp a < tp.length ∧ tp.getD (nx tp a) 0 = 34 then 1 else 0)) [] fr = r at he
  match r, hr, he with
  | .inl F, hr, he => cases he
  | .inr (row, fr1, a1), hr, he =>
    simp only [rdMk] at he
    split at he
    · cases he
    · obtain ⟨rfl, h2⟩ := Prod.mk.inj (Sum.inr.inj he)
      obtain ⟨rfl, rfl⟩ := Prod.mk.inj h2
      obtain ⟨ext, e1, e2, e3⟩ := rdS_ext _ _ _ _ _ _ _ hr
      rw [List.nil_append] at e1
      subst e1
      exact ⟨e2, e3 rfl⟩
theorem frs_snoc {hd : List Nat} {ch : ChoT} {m : Bool × List Nat} : frs hd (ch ++ [m]) = m.2.foldl (frsF hd) (frs hd ch) := by
  unfold frs
  rw [List.flatMap_append, List.foldl_append]
  congr 1
  simp
def ChIn (tp hd : List Nat) (ch : ChoT) : Prop := (∀ m ∈ ch, ∀ x ∈ m.2, x ∈ tp) ∧ (frs hd ch).length ≤ 2
theorem rdC_ok {tp hd fr : List Nat} {a a' : Nat} {ch : ChoT} (he : rdC tp hd a = .inr (ch, fr, a')) : ChIn tp hd ch := by
  unfold rdC at he
  split at he
  · have := lst_all (tp := tp) (mk := 44) (rd := rdM tp hd) (fun l s => s = frs hd l ∧ ChIn tp hd l) (fun a s x s' a' acc hi hr => by
      obtain ⟨rfl, i1, i2⟩ := hi
      obtain ⟨r1, r2, r3⟩ := rdM_ok hr
      have e1 : s' = frs hd (acc ++ [x]) := by rw [r2, frs_snoc]
      refine ⟨e1, fun m hm => ?_, by rw [← e1]; exact r3 i2⟩
      rcases List.mem_append.mp hm with q | q
      · exact i1 m q
      · rw [List.mem_singleton.mp q]; exact r1) _ _ _ _ _ _ _ ⟨rfl, fun m hm => (by cases hm), Nat.zero_le _⟩ he
    exact this.2
  · obtain ⟨rfl, h2⟩ := Prod.mk.inj (Sum.inr.inj he)
    exact ⟨fun m hm => (by cases hm), Nat.zero_le _⟩
theorem rdCu_ok {tp hd : List Nat} {a a' : Nat} {u u' : Unit} {ch : ChoT} (he : rdCu tp hd a u = .inr (ch, u', a')) : ChIn tp hd ch := by
  unfold rdCu at he
  generalize hr : rdC tp hd a = r at he
  match r, hr, he with
  | .inl F, hr, he => cases he
  | .inr (c, fr1, a1), hr, he =>
    obtain ⟨rfl, h2⟩ := Prod.mk.inj (Sum.inr.inj he)
    exact rdC_ok hr
theorem rdR_ok {tp hd : List Nat} {r pl a a' : Nat} {u : Unit} {chs : List ChoT} (he : rdR tp hd r pl a = .inr (chs, u, a')) : ∀ ch ∈ chs, ChIn tp hd ch := by
  unfold rdR at he
  split at he
  · cases he
  · exact lst_all (tp := tp) (mk := 47) (rd := rdCu tp hd) (fun l _ => ∀ ch ∈ l, ChIn tp hd ch) (fun a s x s' a' acc hi hr => fun ch hc => by
      rcases List.mem_append.mp hc with q | q
      · exact hi ch q
      · rw [List.mem_singleton.mp q]; exact rdCu_ok hr) _ _ _ _ _ _ _ (fun m hm => (by cases hm)) he
theorem rdRw_ok {tp : List Nat} {a a' : Nat} {u u' : Unit} {row : List Nat} (he : rdRw tp a u = .inr (row, u', a')) : ∀ x ∈ row, x ∈ tp := by
  unfold rdRw at he
  generalize hr : rdS tp false [] 7 a [] [] = r at he
  match r, hr, he with
  | .inl F, hr, he => cases he
  | .inr (c, fr1, a1), hr, he =>
    obtain ⟨rfl, h2⟩ := Prod.mk.inj (Sum.inr.inj he)
    obtain ⟨ext, e1, e2, e3⟩ := rdS_ext _ _ _ _ _ _ _ hr
    rw [List.nil_append] at e1
    subst e1
    exact e2
theorem rdT_ok {tp nm : List Nat} {c pl a a' : Nat} {u : Unit} {rows : List (List Nat)} (he : rdT tp nm c pl a = .inr (rows, u, a')) : ∀ row ∈ rows, ∀ x ∈ row, x ∈ tp := by
  unfold rdT at he
  split at he
  · cases he
  · split at he
    · cases he
    · exact lst_all (tp := tp) (mk := 124) (rd := rdRw tp) (fun l _ => ∀ row ∈ l, ∀ x ∈ row, x ∈ tp) (fun a s x s' a' acc hi hr => fun ch hc => by
        rcases List.mem_append.mp hc with q | q
        · exact hi ch q
        · rw [List.mem_singleton.mp q]; exact rdRw_ok hr) _ _ _ _ _ _ _ (fun m hm => (by cases hm)) he
/-- all that is told stands in the tape -/
def TdIn (tp : List Nat) (s : Told) : Prop := (∀ x ∈ s.1, ∀ row ∈ x.2, ∀ c ∈ row, c ∈ tp) ∧ ∀ rt ∈ s.2, (∀ c ∈ rt.1, c ∈ tp) ∧ ∀ ch ∈ rt.2, ChIn tp rt.1 ch
theorem rdP_ok {tp : List Nat} {s s' : Told} {a a' : Nat} (he : rdP tp s a = .inr (s', a')) (hi : TdIn tp s) : TdIn tp s' := by
  unfold rdP at he
  generalize hr : rdS tp false [] 7 (nx tp a) [] [] = r at he
  match r, hr, he with
  | .inl F, hr, he => cases he
  | .inr (ft, fr1, a1), hr, he =>
    obtain ⟨ext, e1, e2, e3⟩ := rdS_ext _ _ _ _ _ _ _ hr
    rw [List.nil_append] at e1
    subst e1
    dsimp only at he
    split at he
    · generalize ht : rdT tp (nmL s.1) (ft.getD 0 0) (nx tp a) (nx tp a1) = t at he
      match t, ht, he with
      | .inl F, ht, he => cases he
      | .inr (rows, _, a2), ht, he =>
        obtain ⟨rfl, h2⟩ := Prod.mk.inj (Sum.inr.inj he)
        refine ⟨fun x hx => ?_, hi.2⟩
        rcases List.mem_append.mp hx with q | q
        · exact hi.1 x q
        · rw [List.mem_singleton.mp q]; exact rdT_ok ht
    · split at he
      · generalize ht : rdR tp ft s.2.length (nx tp a) (nx tp a1) = t at he
        match t, ht, he with
        | .inl F, ht, he => cases he
        | .inr (chs, _, a2), ht, he =>
          obtain ⟨rfl, h2⟩ := Prod.mk.inj (Sum.inr.inj he)
          refine ⟨hi.1, fun x hx => ?_⟩
          rcases List.mem_append.mp hx with q | q
          · exact hi.2 x q
          · rw [List.mem_singleton.mp q]; exact ⟨e2, rdR_ok ht⟩
      · cases he
/-- the first capital that is no METANOTION told -/
def stry (tp nm : List Nat) : Nat → Option Nat
  | 0 => none
  | i + 1 => (stry tp nm i).or (if cap (tp.getD i 0) = true ∧ tp.getD i 0 ∉ nm then some (8 * i + 5) else none)
theorem stry_none {tp nm : List Nat} : ∀ {n : Nat}, stry tp nm n = none → ∀ i, i < n → cap (tp.getD i 0) = true → tp.getD i 0 ∈ nm
  | 0, _, i, hi, _ => by cases hi
  | n + 1, h, i, hi, hc => by
    rw [stry] at h
    obtain ⟨h1, h2⟩ := Option.or_eq_none_iff.mp h
    by_cases y : i = n
    · subst y
      by_cases z : tp.getD i 0 ∈ nm
      · exact z
      · rw [if_pos ⟨hc, z⟩] at h2; cases h2
    · exact stry_none h1 i (by omega) hc
theorem Td_GrOK {tp : List Nat} {s : Told} {d l : Nat} (ho : TdOK s) (hi : TdIn tp s) (hs : stry tp (nmL s.1) tp.length = none) (hd : 1 ≤ d ∧ d ≤ 12) (hl : l ≤ 3) : GrOK (s.1, s.2, d, l) := by
  have key : ∀ c, c ∈ tp → cap c = true → c ∈ nmL s.1 := fun c hc z => by
    obtain ⟨i, h1, h2⟩ := List.getElem_of_mem hc
    have e1 : tp.getD i 0 = c := by rw [List.getD_eq_getElem?_getD, List.getElem?_eq_getElem h1, ← h2]; rfl
    have := stry_none hs i h1
    rw [e1] at this
    exact this z
  obtain ⟨o1, o2, o3, o4, o5⟩ := ho
  refine ⟨⟨o1, o3, fun x hx => ⟨(o4 x hx).1, (o4 x hx).2.1, fun row hr => ⟨((o4 x hx).2.2 row hr).1, fun c hc => ⟨((o4 x hx).2.2 row hr).2 c hc, key c (hi.1 x hx row hr c hc)⟩⟩⟩⟩, o2, fun rt hr => ?_, hd, hl⟩
  obtain ⟨p1, p2, p3, p4⟩ := o5 rt hr
  obtain ⟨i1, i2⟩ := hi.2 rt hr
  refine ⟨p1, ⟨p2.1, fun c hc => ⟨p2.2 c hc, key c (i1 c hc)⟩⟩, p3, fun ch hch => ⟨(p4 ch hch).1, fun m hm => ?_, (i2 ch hch).2⟩⟩
  obtain ⟨q1, q2, q3⟩ := (p4 ch hch).2 m hm
  exact ⟨q1, q2, fun c hc => ⟨q3 c hc, key c ((i2 ch hch).1 m hm c hc)⟩⟩
def rdG (tp : List Nat) : Nat → Nat → Told → Nat ⊕ (Told × Nat)
  | 0, a, s => .inr (s, a)
  | n + 1, a, s => match rdP tp s a with
    | .inl F => .inl F
    | .inr (s', a') => if nx tp a' < tp.length ∧ tp.getD (nx tp a') 0 = 59 then rdG tp n (nx tp a' + 1) s' else .inr (s', nx tp a')
theorem rdG_s {tp : List Nat} {n a : Nat} {s : Told} : rdG tp (n + 1) a s = match rdP tp s a with
    | .inl F => .inl F
    | .inr (s', a') => if nx tp a' < tp.length ∧ tp.getD (nx tp a') 0 = 59 then rdG tp n (nx tp a' + 1) s' else .inr (s', nx tp a') := rfl
theorem rdG_ok {tp : List Nat} : ∀ (n a : Nat) (s s' : Told) (a' : Nat), TdIn tp s → rdG tp n a s = .inr (s', a') → TdIn tp s'
  | 0, a, s, s', a', hi, he => by
    rw [rdG] at he
    obtain ⟨rfl, h2⟩ := Prod.mk.inj (Sum.inr.inj he)
    exact hi
  | n + 1, a, s, s', a', hi, he => by
    rw [rdG_s] at he
    generalize hr : rdP tp s a = r at he
    match r, hr, he with
    | .inl F, hr, he => cases he
    | .inr (s1, a1), hr, he =>
      have hi1 := rdP_ok hr hi
      dsimp only at he
      split at he
      · exact rdG_ok n _ _ _ _ hi1 he
      · obtain ⟨rfl, h2⟩ := Prod.mk.inj (Sum.inr.inj he)
        exact hi1
def rdA (tp : List Nat) : Nat ⊕ (Told × Nat) := if nx tp 0 < tp.length then rdG tp 17 (nx tp 0) ([], []) else .inr (([], []), nx tp 0)
def rdTk (tp : List Nat) : Nat ⊕ (Told × Nat) → Nat ⊕ Told
  | .inl F => .inl F
  | .inr (s, a) => if nx tp a < tp.length then .inl (8 * nx tp a + 1) else match stry tp (nmL s.1) tp.length with
    | some F => .inl F
    | none => .inr s
/-- a text that is told: its FAULT, or what it tells -/
def rdTell (tp : List Nat) : Nat ⊕ Told := rdTk tp (rdA tp)
theorem rdA_ok {tp : List Nat} {s : Told} {a : Nat} (he : rdA tp = .inr (s, a)) : TdIn tp s := by
  unfold rdA at he
  split at he
  · exact rdG_ok _ _ _ _ _ ⟨fun x hx => (by cases hx), fun x hx => (by cases hx)⟩ he
  · obtain ⟨rfl, h2⟩ := Prod.mk.inj (Sum.inr.inj he)
    exact ⟨fun x hx => (by cases hx), fun x hx => (by cases hx)⟩
def tellF (st : Stt) : Int32 × Stt := match rdTell st.1 with
  | .inl F => (-2 - nI F, ([], st.2))
  | .inr s => (nI s.2.length, ([], (s.1, s.2, st.2.1.2.2.1, st.2.1.2.2.2), [], [], [], st.2.2.2.2.2))
