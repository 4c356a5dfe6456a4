/-! ===== the class: Search.triesFrees, a word is put ===== -/
/-- the word as it stands with the NODE, and by the Fit -/
def pw1 (h : AH) (N j : Nat) (W : List Nat) : AH := sJ h (N + 1) j (lN (cd W))
def pw2 (h : AH) (F s : Nat) (W : List Nat) : AH := ov h F 7 (uc (fun c => hI h (F + c)) 6 (uc (hI h (F + 6)) s (nI W.length))) (uc (fun c => hJ h (F + c)) 5 (uc (hJ h (F + 5)) s (lN (cd W)))) (fun c => hR h (F + c))
theorem pw_ok {Γ : Nat → List Nat × Alts} {S FA FB T U X : Nat} {nm : List Nat} {gr : GrT} {tx : List (List Nat)} {d : Nat} {N C ix lvl f m c k : Nat} {hd w : List Nat} {e : EnvA} {H : Nat → List (List Nat)} {ch : ChoT} {pre : List (Nat × Nat)} {h : AH} (q : SI Γ S FA FB T U X nm gr tx d h) (fs : FrS S FB N C ix lvl f m nm hd w e H ch pre h) (hx5 : ix < 500) (hl12 : lvl < 12) (hj : pre.length < (frs hd ch).length) (hc : (frs hd ch).getD pre.length 0 = c) (hcn : c ∈ nm) (hdn : ∀ c ∈ hd, cap c = true → c ∈ nm) (hpn : ∀ j, j < pre.length → (pre.getD j (0, 0)).1 ∈ nm) :
    SI Γ S FA FB T U X nm gr tx d (pw2 (pw1 h N pre.length ((H c).getD k [])) (FB + 7 * lvl) (nm.idxOf c) ((H c).getD k [])) ∧ SR S FB lvl ix h (pw2 (pw1 h N pre.length ((H c).getD k [])) (FB + 7 * lvl) (nm.idxOf c) ((H c).getD k [])) ∧ FrF FB N lvl nm ((frs hd ch).drop pre.length) pre.length h (pw2 (pw1 h N pre.length ((H c).getD k [])) (FB + 7 * lvl) (nm.idxOf c) ((H c).getD k [])) ∧ hI (pw2 (pw1 h N pre.length ((H c).getD k [])) (FB + 7 * lvl) (nm.idxOf c) ((H c).getD k [])) S = hI h S ∧ FrS S FB N C ix lvl f m nm hd w e H ch (pre ++ [(c, k)]) (pw2 (pw1 h N pre.length ((H c).getD k [])) (FB + 7 * lvl) (nm.idxOf c) ((H c).getD k [])) := by
  generalize hW : (H c).getD k [] = W
  have f1 := fs.1
  have nd := q.2.2.2.2.1 ix hx5 N f1
  have z1 : Fz (fun a => a = N + 1) h (pw1 h N pre.length W) := Fz_sJ rfl
  have q1 : SI Γ S FA FB T U X nm gr tx d (pw1 h N pre.length W) := SI_n q z1 (fun a ha => Or.inr (by rw [ha]; exact nd.2.2.1)) (fun _ _ _ _ => ⟨rfl, rfl⟩)
  have r1 : SR S FB lvl ix h (pw1 h N pre.length W) := SR_n q z1 (fun a ha => Or.inr ha) (Nat.le_refl _) hx5 f1
  have ent1 := r1.2.2.1 _ _ f1
  have j1 : hJ (pw1 h N pre.length W) = up2 (hJ h) (N + 1) pre.length (lN (cd W)) := rfl
  have i1 : hI (pw1 h N pre.length W) = hI h := rfl
  have k1 : hR (pw1 h N pre.length W) = hR h := rfl
  have HF := q1.2.2.2.1 lvl hl12
  have oN := Ft_out HF.1 (a := N) (by show hT h N ∉ _; rw [nd.1]; decide)
  have oN1 := Ft_out HF.1 (a := N + 1) (by show hT h (N + 1) ∉ _; rw [nd.2.2.1]; decide)
  have oS := Ft_out HF.1 (a := S) (by show hT h S ∉ _; rw [q.2.1.1]; decide)
  generalize pw1 h N pre.length W = h2 at *
  obtain ⟨t1, t2, ⟨U0, w0, t3, t5⟩, t4⟩ := HF
  have q2 : SI Γ S FA FB T U X nm gr tx d (pw2 h2 (FB + 7 * lvl) (nm.idxOf c) W) := SI_f q1 hl12 t2 (FtL_cg t3 (uc_ne (by decide)) (uc_ne (by decide)) (uc_ne (by decide)) (uc_ne (by decide)) rfl) t5 (by rw [uc_ne (by decide)]; exact t4)
  have r2 : SR S FB lvl ix h2 (pw2 h2 (FB + 7 * lvl) (nm.idxOf c) W) := SR_f q1 (Nat.le_refl _) hl12
  have rr := r1.tr r2
  have gI' : ∀ c', c' < 7 → hI (pw2 h2 (FB + 7 * lvl) (nm.idxOf c) W) (FB + 7 * lvl + c') = uc (fun c => hI h2 (FB + 7 * lvl + c)) 6 (uc (hI h2 (FB + 7 * lvl + 6)) (nm.idxOf c) (nI W.length)) c' := fun c' hc' => ov_I hc'
  have gJ' : ∀ c', c' < 7 → hJ (pw2 h2 (FB + 7 * lvl) (nm.idxOf c) W) (FB + 7 * lvl + c') = uc (fun c => hJ h2 (FB + 7 * lvl + c)) 5 (uc (hJ h2 (FB + 7 * lvl + 5)) (nm.idxOf c) (lN (cd W))) c' := fun c' hc' => ov_J hc'
  have gR' : ∀ c', c' < 7 → hR (pw2 h2 (FB + 7 * lvl) (nm.idxOf c) W) (FB + 7 * lvl + c') = hR h2 (FB + 7 * lvl + c') := fun c' hc' => ov_R hc'
  have jF : ∀ c', c' < 7 → hJ h2 (FB + 7 * lvl + c') = hJ h (FB + 7 * lvl + c') := fun c' hc' => by rw [j1]; exact u2_o (by omega)
  have F3 : FrF FB N lvl nm ((frs hd ch).drop pre.length) pre.length h (pw2 h2 (FB + 7 * lvl) (nm.idxOf c) W) := by
    refine ⟨⟨by unfold pw2; rw [ov_Io oN, i1], by unfold pw2; rw [ov_Jo oN, j1]; exact u2_o (by omega), by unfold pw2; rw [ov_Ro oN, k1]⟩, fun c' hc' => ⟨by rw [gI' c' (by omega), uc_ne (by omega), i1], by rw [gJ' c' (by omega), uc_ne (by omega)]; exact jF c' (by omega), by rw [gR' c' (by omega), k1]⟩, fun c' n1 n2 => ?_, fun j hj' => by unfold pw2; rw [ov_Jo oN1, j1]; exact u2_n (Or.inr (by omega))⟩
    have ne : nm.idxOf c' ≠ nm.idxOf c := fun z => by
      have : c' = c := by rw [← idx_get n1, z, idx_get hcn]
      refine n2 ?_
      rw [this, ← hc, List.drop_eq_getElem_cons hj]
      rw [List.getD_eq_getElem?_getD, List.getElem?_eq_getElem hj]
      exact List.mem_cons_self ..
    exact ⟨by rw [gJ' 5 (by decide), uc_eq, uc_ne ne, jF 5 (by decide)], by rw [gI' 6 (by decide), uc_eq, uc_ne ne, i1]⟩
  have nodup := frs_nodup (hd := hd) (ch := ch)
  have old := FrS_F fs (SR_gk q rr) (rr.2.2.1 _ _ f1) F3 (fun c' h1 h2 => ⟨hdn c' h1 h2, fun y => (frs_iff.mp (List.mem_of_mem_drop y)).2.2 h1⟩) (fun j hj' => ⟨hpn j hj', fun y => by
    have m1 : (pre.getD j (0, 0)).1 ∈ (frs hd ch).take pre.length := by
      rw [← fs.2.2.2.2.2.2.1]
      exact List.mem_map.mpr ⟨_, getD_in (d := ((0, 0) : Nat × Nat)) hj', rfl⟩
    have nd2 := nodup
    rw [← List.take_append_drop pre.length (frs hd ch)] at nd2
    exact (List.nodup_append.mp nd2).2.2 _ m1 _ y rfl⟩)
  refine ⟨q2, rr, F3, by unfold pw2; rw [ov_Io oS, i1], ?_⟩
  obtain ⟨b1, b2, b3, b4, b5, b6, b7, b8⟩ := old
  refine ⟨b1, b2, b3, b4, b5, b6, ?_, fun j hj' => ?_⟩
  · rw [List.map_append, List.length_append, List.length_singleton, b7, take_sn hj, hc]; rfl
  · rw [List.length_append, List.length_singleton] at hj'
    by_cases z : j = pre.length
    · rw [z, getD_app1]
      dsimp only
      rw [hW]
      refine ⟨⟨?_, ?_⟩, ?_⟩
      · show hJ (pw2 h2 (FB + 7 * lvl) (nm.idxOf c) W) (FB + 7 * lvl + 5) _ = _
        rw [gJ' 5 (by decide), uc_eq, uc_eq]
      · show hI (pw2 h2 (FB + 7 * lvl) (nm.idxOf c) W) (FB + 7 * lvl + 6) _ = _
        rw [gI' 6 (by decide), uc_eq, uc_eq]
      · unfold pw2; rw [ov_Jo oN1, j1, u2_s]
    · rw [getD_app0 (by omega)]
      exact b8 j (by omega)
