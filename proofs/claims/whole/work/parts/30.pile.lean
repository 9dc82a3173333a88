/-! the pile: c points in it, each once -/
def ld_pk (P : ld_pT) (c : Nat) : Prop := P.2.2 = nI c ∧ (∀ i, i < c → ∃ j, j < 120 ∧ P.1 i = nI j ∧ P.2.1 j = 1) ∧ (∀ i i', i < c → i' < c → P.1 i = P.1 i' → i = i') ∧ (∀ j, j < 120 → P.2.1 j = 0 ∨ P.2.1 j = 1) ∧ ld_cn (fun j => decide (P.2.1 j = 1)) 120 = c
theorem ld_put_in {P : ld_pT} {p : Nat} (hp : p < 120) (h1 : P.2.1 p = 1) : lf_put P (nI p) = P := by
  simp only [lf_put, ld_lt]
  rw [ld_ix1 hp, if_neg (by decide)]
  by_cases q : lf_isIndex P.2.2 = 0
  · rw [if_pos q]
  · rw [if_neg q, nI_clamp (by omega), h1, if_neg (by decide)]
theorem ld_put_eq {P : ld_pT} {c p : Nat} (h : ld_pk P c) (hp : p < 120) (h0 : P.2.1 p = 0) : c < 120 ∧ lf_put P (nI p) = (upd P.1 c (nI p), upd P.2.1 p 1, nI (c + 1)) := by
  have hc : c < 120 := by
    rw [← h.2.2.2.2]
    exact ld_cn_full hp (decide_eq_false (by rw [h0]; decide))
  refine ⟨hc, ?_⟩
  simp only [lf_put, ld_lt]
  rw [ld_ix1 hp, if_neg (by decide), h.1, ld_ix1 hc, if_neg (by decide), nI_clamp (n := p) (by omega), h0, if_pos rfl, nI_clamp (by omega), nI_1]
  rfl
theorem ld_put_pk {P : ld_pT} {c p : Nat} (h : ld_pk P c) (hp : p < 120) (h0 : P.2.1 p = 0) : ld_pk (upd P.1 c (nI p), upd P.2.1 p 1, nI (c + 1)) (c + 1) := by
  obtain ⟨h1, h2, h3, h4, h5⟩ := h
  have key : ∀ i, i < c → P.1 i ≠ nI p := by
    intro i hi e
    obtain ⟨j, hj, ej, e1⟩ := h2 i hi
    rw [ej, nI_eq (by omega) (by omega)] at e
    subst e
    rw [h0] at e1
    exact absurd e1 (by decide)
  refine ⟨rfl, ?_, ?_, ?_, ?_⟩
  · intro i hi
    by_cases hic : i = c
    · subst hic
      exact ⟨p, hp, pk_us, pk_us⟩
    · obtain ⟨j, hj, ej, e1⟩ := h2 i (by omega)
      refine ⟨j, hj, by rw [← ej]; exact pk_un hic, ?_⟩
      by_cases hjp : j = p
      · subst hjp; exact pk_us
      · show upd P.2.1 p 1 j = 1
        rw [pk_un hjp]; exact e1
  · intro i i' hi hi' e
    have e : upd P.1 c (nI p) i = upd P.1 c (nI p) i' := e
    by_cases hic : i = c <;> by_cases hic' : i' = c
    · omega
    · rw [hic, pk_us, pk_un hic'] at e
      exact absurd e.symm (key i' (by omega))
    · rw [hic', pk_us, pk_un hic] at e
      exact absurd e (key i (by omega))
    · rw [pk_un hic, pk_un hic'] at e
      exact h3 i i' (by omega) (by omega) e
  · intro j hj
    by_cases hjp : j = p
    · subst hjp; exact Or.inr pk_us
    · show upd P.2.1 p 1 j = 0 ∨ upd P.2.1 p 1 j = 1
      rw [pk_un hjp]; exact h4 j hj
  · rw [← h5]
    refine ld_cn_add 120 p hp (decide_eq_false (by rw [h0]; decide)) (decide_eq_true pk_us) (fun i hi hne => ?_)
    show decide (upd P.2.1 p 1 i = 1) = decide (P.2.1 i = 1)
    rw [pk_un hne]
theorem ld_take_ok {P : ld_pT} {c : Nat} (h : ld_pk P (c + 1)) : ∃ j, j < 120 ∧ P.2.1 j = 1 ∧ (lf_take P).1 = nI j ∧ ld_pk (lf_take P).2 c ∧ (lf_take P).2.2.1 = upd P.2.1 j 0 := by
  obtain ⟨h1, h2, h3, h4, h5⟩ := h
  obtain ⟨j, hj, ej, e1⟩ := h2 c (by omega)
  have hc : c + 1 ≤ 120 := by rw [← h5]; exact ld_cn_le _ _
  have hs : P.2.2 - 1 = nI c := by rw [h1, nI_pred]
  have ht : lf_take P = (nI j, (P.1, upd P.2.1 j 0, nI c)) := by
    simp only [lf_take, ld_lt]
    rw [hs, ld_ix1 (by omega), if_neg (by decide), nI_clamp (by omega), ej, ld_ix1 hj, if_neg (by decide), nI_clamp (by omega)]
    rfl
  refine ⟨j, hj, e1, by rw [ht], ?_, by rw [ht]⟩
  rw [ht]
  refine ⟨rfl, ?_, fun i i' hi hi' e => h3 i i' (by omega) (by omega) e, ?_, ?_⟩
  · intro i hi
    obtain ⟨j', hj', ej', e1'⟩ := h2 i (by omega)
    refine ⟨j', hj', ej', ?_⟩
    have hne : j' ≠ j := by
      intro e
      subst e
      have := h3 i c (by omega) (by omega) (ej'.trans ej.symm)
      omega
    show upd P.2.1 j 0 j' = 1
    rw [pk_un hne]; exact e1'
  · intro i hi
    by_cases hij : i = j
    · subst hij; exact Or.inl pk_us
    · show upd P.2.1 j 0 i = 0 ∨ upd P.2.1 j 0 i = 1
      rw [pk_un hij]; exact h4 i hi
  · have := ld_cn_add (f := fun i => decide (upd P.2.1 j 0 i = 1)) (g := fun i => decide (P.2.1 i = 1)) 120 j hj (decide_eq_false (by rw [pk_us]; decide)) (decide_eq_true e1) (fun i hi hne => by rw [pk_un hne])
    show ld_cn (fun i => decide (upd P.2.1 j 0 i = 1)) 120 = c
    omega
theorem ld_pk_0 {P : ld_pT} (h : ld_pk P 0) : ∀ j, j < 120 → P.2.1 j = 0 := by
  intro j hj
  have := ld_cn_0 120 h.2.2.2.2 j hj
  rcases h.2.2.2.1 j hj with q | q
  · exact q
  · exact absurd q (of_decide_eq_false this)
