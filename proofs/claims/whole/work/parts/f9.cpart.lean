/-! ===== the class: the RULES told so far ===== -/
def TdC (h : AH) (D : Nat) (nm : List Nat) (rs : List RuleT) : Prop := hI h D 6 = nI rs.length ∧ ∀ r, r < rs.length → ∃ R, hR h (D + 3) r = some R ∧ RuP h R nm (rs.getD r ([], [])).1 (rs.getD r ([], [])).2
theorem TdC_x {A : Nat → Prop} {n u D : Nat} {h h' : AH} {nm ext : List Nat} {rs : List RuleT} (q : TdC h D nm rs) (wf : WF h) (z : Fx A n u h h') (hA : ∀ x, A x → hT h x ∉ RUs) (e6 : hI h' D 6 = hI h D 6) (e3 : ∀ r, r < rs.length → hR h' (D + 3) r = hR h (D + 3) r) : TdC h' D (nm ++ ext) rs := by
  refine ⟨e6.trans q.1, fun r hr => ?_⟩
  obtain ⟨R, a1, a2⟩ := q.2 r hr
  exact ⟨R, (e3 r hr).trans a1, RuP_e (RuP_x a2 wf z hA)⟩
theorem TdC_add {A : Nat → Prop} {n u D R : Nat} {h h' : AH} {nm ext hd : List Nat} {chs : List ChoT} {rs : List RuleT} (q : TdC h D nm rs) (wf : WF h) (z : Fx A n u h h') (hA : ∀ x, A x → hT h x ∉ RUs) (e6 : hI h' D 6 = nI (rs.length + 1)) (e3 : ∀ r, r ≠ rs.length → hR h' (D + 3) r = hR h (D + 3) r) (eR : hR h' (D + 3) rs.length = some R) (ru : RuP h' R (nm ++ ext) hd chs) : TdC h' D (nm ++ ext) (rs ++ [(hd, chs)]) := by
  refine ⟨by rw [e6, List.length_append, List.length_singleton], fun r hr => ?_⟩
  rw [List.length_append, List.length_singleton] at hr
  by_cases y : r = rs.length
  · subst y
    rw [show (rs ++ [(hd, chs)]).getD rs.length ([], []) = (hd, chs) by simp]
    exact ⟨R, eR, ru⟩
  · obtain ⟨R', a1, a2⟩ := q.2 r (by omega)
    rw [show (rs ++ [(hd, chs)]).getD r ([], []) = rs.getD r ([], []) by rw [List.getD_eq_getElem?_getD, List.getD_eq_getElem?_getD, List.getElem?_append_left (by omega)]]
    exact ⟨R', (e3 r y).trans a1, RuP_e (RuP_x a2 wf z hA)⟩
