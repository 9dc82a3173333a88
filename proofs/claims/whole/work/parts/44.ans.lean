/-! COUNT -/
theorem ld_cn_ext {f : Nat → Bool} {k : Nat} : ∀ n, k ≤ n → (∀ j, k ≤ j → j < n → f j = false) → ld_cn f n = ld_cn f k := by
  intro n
  induction n with
  | zero => intro h _; rw [show k = 0 by omega]
  | succ n ih =>
    intro h hf
    by_cases e : k = n + 1
    · rw [e]
    · simp only [ld_cn]
      rw [hf n (by omega) (by omega), if_neg (by decide), ih (by omega) (fun j a b => hf j a (by omega))]
      rfl
theorem ld_cn_s {f : Nat → Bool} {j : Nat} : (f j = true → ld_cn f (j + 1) = ld_cn f j + 1) ∧ (f j = false → ld_cn f (j + 1) = ld_cn f j) := by
  refine ⟨fun h => ?_, fun h => ?_⟩
  · simp only [ld_cn]; rw [h, if_pos rfl]
  · simp only [ld_cn]; rw [h, if_neg (by decide)]; rfl
theorem ld_up {x : Int32} {f : Nat → Bool} {j k : Nat} (h : ∃ a, x = nI a ∧ a + ld_cn f (j + 1) = ld_cn f k) : (f j = true → ∃ a, x + 1 = nI a ∧ a + ld_cn f j = ld_cn f k) ∧ (f j = false → ∃ a, x = nI a ∧ a + ld_cn f j = ld_cn f k) := by
  obtain ⟨a, e, h⟩ := h
  refine ⟨fun z => ⟨a + 1, by rw [e, nI_1], ?_⟩, fun z => ⟨a, e, ?_⟩⟩
  · rw [ld_cn_s.1 z] at h; omega
  · rw [ld_cn_s.2 z] at h; exact h
theorem ld_rcount {rc : Nat → Int32} (h : ∀ j, j < 120 → rc j = 0 ∨ rc j = 1) {N : Nat} (hN : 200 < N) : lm_rcount N rc = some (nI (ld_cn (fun j => decide (rc j = 1)) 120)) := by
  have hLp := ld_loop (f := ls_rcount_1 rc) (fun v => ∃ j, v.2 = nI j ∧ j ≤ 120 ∧ v.1 = nI (ld_cn (fun j => decide (rc j = 1)) j)) (fun v => 121 - v.2.toNatClampNeg) (fun v => v.1 = nI (ld_cn (fun j => decide (rc j = 1)) 120)) ?_ N (0, 0) ⟨0, rfl, by omega, rfl⟩ (by show 121 - _ < N; omega)
  · obtain ⟨Y, hY, h1⟩ := hLp
    unfold lm_rcount
    rw [hY, ← h1]
    rfl
  · rintro ⟨s, i⟩ ⟨j, a1, hj, a2⟩
    have b1 : i = nI j := a1
    have b2 : s = nI (ld_cn (fun j => decide (rc j = 1)) j) := a2
    clear a1 a2
    subst b1 b2
    by_cases hj2 : j < 120
    · left
      have e0 : ¬ (120 : Int32) ≤ nI j := nI_ge (b := 120) hj2 (by omega)
      have hμ : 121 - (nI j + 1).toNatClampNeg < 121 - (nI j).toNatClampNeg := by
        rw [nI_1, nI_clamp (by omega), nI_clamp (by omega)]
        omega
      refine ⟨(nI (ld_cn (fun j => decide (rc j = 1)) j) + rc j, nI j + 1), ?_, ⟨j + 1, nI_1 j, by omega, ?_⟩, hμ⟩
      · simp only [ls_rcount_1]
        rw [if_neg e0, if_pos (ld_in_nI hj2 (by omega)), nI_clamp (by omega)]
      · show nI (ld_cn (fun j => decide (rc j = 1)) j) + rc j = nI (ld_cn (fun j => decide (rc j = 1)) (j + 1))
        rcases h j hj2 with z | z
        · rw [ld_cn_s.2 (decide_eq_false (by rw [z]; decide)), z, Int32.add_zero]
        · rw [ld_cn_s.1 (decide_eq_true z), z, nI_1]
    · right
      refine ⟨(nI (ld_cn (fun j => decide (rc j = 1)) j), nI j), ?_, ?_⟩
      · simp only [ls_rcount_1]
        rw [if_pos (show (120 : Int32) ≤ nI j from nI_le (a := 120) (by omega) (by omega))]
      · show nI (ld_cn (fun j => decide (rc j = 1)) j) = _
        rw [show j = 120 by omega]
theorem ld_mcount {mw : Nat → Int64} {N : Nat} (hN : 200 < N) : lm_mcount N mw = some (nI (ld_cn (fun j => decide (lf_isAnyAt mw (nI j) = 1)) 120)) := by
  have hLp := ld_loop (f := ls_mcount_1 mw) (fun v => ∃ j, v.2 = nI j ∧ j ≤ 120 ∧ v.1 = nI (ld_cn (fun j => decide (lf_isAnyAt mw (nI j) = 1)) j)) (fun v => 121 - v.2.toNatClampNeg) (fun v => v.1 = nI (ld_cn (fun j => decide (lf_isAnyAt mw (nI j) = 1)) 120)) ?_ N (0, 0) ⟨0, rfl, by omega, rfl⟩ (by show 121 - _ < N; omega)
  · obtain ⟨Y, hY, h1⟩ := hLp
    unfold lm_mcount
    rw [hY, ← h1]
    rfl
  · rintro ⟨s, i⟩ ⟨j, a1, hj, a2⟩
    have b1 : i = nI j := a1
    have b2 : s = nI (ld_cn (fun j => decide (lf_isAnyAt mw (nI j) = 1)) j) := a2
    clear a1 a2
    subst b1 b2
    by_cases hj2 : j < 120
    · left
      have e0 : ¬ (120 : Int32) ≤ nI j := nI_ge (b := 120) hj2 (by omega)
      have hμ : 121 - (nI j + 1).toNatClampNeg < 121 - (nI j).toNatClampNeg := by
        rw [nI_1, nI_clamp (by omega), nI_clamp (by omega)]
        omega
      rcases ld_isAny (mw := mw) hj2 with ⟨z, -⟩ | ⟨z, -⟩
      · refine ⟨(nI (ld_cn (fun j => decide (lf_isAnyAt mw (nI j) = 1)) j) + 1, nI j + 1), ?_, ⟨j + 1, nI_1 j, by omega, ?_⟩, hμ⟩
        · simp only [ls_mcount_1, ld_lt]
          rw [if_neg e0, z, if_neg (by decide)]
        · show nI (ld_cn (fun j => decide (lf_isAnyAt mw (nI j) = 1)) j) + 1 = nI (ld_cn (fun j => decide (lf_isAnyAt mw (nI j) = 1)) (j + 1))
          rw [ld_cn_s.1 (decide_eq_true z), nI_1]
      · refine ⟨(nI (ld_cn (fun j => decide (lf_isAnyAt mw (nI j) = 1)) j), nI j + 1), ?_, ⟨j + 1, nI_1 j, by omega, ?_⟩, hμ⟩
        · simp only [ls_mcount_1, ld_lt]
          rw [if_neg e0, z, if_pos rfl]
        · show nI (ld_cn (fun j => decide (lf_isAnyAt mw (nI j) = 1)) j) = nI (ld_cn (fun j => decide (lf_isAnyAt mw (nI j) = 1)) (j + 1))
          rw [ld_cn_s.2 (decide_eq_false (by rw [z]; decide))]
    · right
      refine ⟨(nI (ld_cn (fun j => decide (lf_isAnyAt mw (nI j) = 1)) j), nI j), ?_, ?_⟩
      · simp only [ls_mcount_1, ld_lt]
        rw [if_pos (show (120 : Int32) ≤ nI j from nI_le (a := 120) (by omega) (by omega))]
      · show nI (ld_cn (fun j => decide (lf_isAnyAt mw (nI j) = 1)) j) = _
        rw [show j = 120 by omega]
theorem ld_mfirst {mw : Nat → Int64} {N : Nat} (hN : 200 < N) : ∃ r, lm_mfirst N mw = some r ∧ ld_lst (fun j => decide (lf_isAnyAt mw (nI j) = 1)) ld_n1 0 r := by
  have hLp := ld_loop (f := ls_mfirst_1 mw) (fun v => ∃ j, v = nI j ∧ j ≤ 120 ∧ ∀ L, L < j → ld_n1 < nI L → decide (lf_isAnyAt mw (nI L) = 1) = false) (fun v => 121 - v.toNatClampNeg) (fun v => ∃ r, ld_ex v (fun _ => some ld_n1) (fun R9 => some R9) = some r ∧ ld_lst (fun j => decide (lf_isAnyAt mw (nI j) = 1)) ld_n1 0 r) ?_ N 0 ⟨0, rfl, by omega, fun L h => by omega⟩ (by show 121 - _ < N; omega)
  · obtain ⟨Y, hY, r, h1, h2⟩ := hLp
    refine ⟨r, ?_, h2⟩
    unfold lm_mfirst
    rw [hY]
    exact h1
  · rintro v ⟨j, hj1, hj, hz⟩
    subst hj1
    by_cases hj2 : j < 120
    · have e0 : ¬ (120 : Int32) ≤ nI j := nI_ge (b := 120) hj2 (by omega)
      have hμ : 121 - (nI j + 1).toNatClampNeg < 121 - (nI j).toNatClampNeg := by
        rw [nI_1, nI_clamp (by omega), nI_clamp (by omega)]
        omega
      rcases ld_isAny (mw := mw) hj2 with ⟨z, -⟩ | ⟨z, -⟩
      · right
        refine ⟨.inr (nI j), ?_, nI j, rfl, Or.inr ⟨j, by omega, hj2, rfl, ld_n1lt (by omega), decide_eq_true z, fun L' _ h => hz L' h⟩⟩
        simp only [ls_mfirst_1, ld_lt]
        rw [if_neg e0, z, if_neg (by decide)]
      · left
        refine ⟨nI j + 1, ?_, ⟨j + 1, nI_1 j, by omega, fun L hL hw => ?_⟩, hμ⟩
        · simp only [ls_mfirst_1, ld_lt]
          rw [if_neg e0, z, if_pos rfl]
        · by_cases e : L = j
          · rw [e]
            exact decide_eq_false (by rw [z]; decide)
          · exact hz L (by omega) hw
    · right
      refine ⟨.inl (nI j), ?_, ld_n1, rfl, Or.inl ⟨rfl, fun L _ h => hz L (by omega)⟩⟩
      simp only [ls_mfirst_1, ld_lt]
      rw [if_pos (show (120 : Int32) ≤ nI j from nI_le (a := 120) (by omega) (by omega))]
theorem ld_cloans {G : ld_gT} {M : ld_M} (hr : ld_rel G M) {N : Nat} (hN : 200 < N) : lm_countLoans N G = some (nI (ld_cn (fun j => decide (ld_d M j = 1)) M.1)) := by
  have hk := hr.1
  have eg : G.2.2.2.2.2.2 = nI M.1 := hr.2.1
  have hLp := ld_loop (f := ls_countLoans_1 G) (fun v => ∃ j, v.2 = nI j ∧ j ≤ M.1 ∧ v.1 = nI (ld_cn (fun j => decide (ld_d M j = 1)) j)) (fun v => 121 - v.2.toNatClampNeg) (fun v => v.1 = nI (ld_cn (fun j => decide (ld_d M j = 1)) M.1)) ?_ N (0, 0) ⟨0, rfl, by omega, rfl⟩ (by show 121 - _ < N; omega)
  · obtain ⟨Y, hY, h1⟩ := hLp
    unfold lm_countLoans
    rw [hY, ← h1]
    rfl
  · rintro ⟨s, i⟩ ⟨j, a1, hj, a2⟩
    have b1 : i = nI j := a1
    have b2 : s = nI (ld_cn (fun j => decide (ld_d M j = 1)) j) := a2
    clear a1 a2
    subst b1 b2
    by_cases hj2 : j < M.1
    · left
      have e0 : ¬ nI M.1 ≤ nI j := nI_ge hj2 (by omega)
      have hμ : 121 - (nI j + 1).toNatClampNeg < 121 - (nI j).toNatClampNeg := by
        rw [nI_1, nI_clamp (by omega), nI_clamp (by omega)]
        omega
      by_cases z : ld_d M j = 1
      · refine ⟨(nI (ld_cn (fun j => decide (ld_d M j = 1)) j) + 1, nI j + 1), ?_, ⟨j + 1, nI_1 j, by omega, ?_⟩, hμ⟩
        · simp only [ls_countLoans_1, ld_lt]
          rw [eg, if_neg e0, ld_ln1 hr hj2, decide_eq_true z, if_neg (by decide)]
        · show nI (ld_cn (fun j => decide (ld_d M j = 1)) j) + 1 = nI (ld_cn (fun j => decide (ld_d M j = 1)) (j + 1))
          rw [ld_cn_s.1 (decide_eq_true z), nI_1]
      · refine ⟨(nI (ld_cn (fun j => decide (ld_d M j = 1)) j), nI j + 1), ?_, ⟨j + 1, nI_1 j, by omega, ?_⟩, hμ⟩
        · simp only [ls_countLoans_1, ld_lt]
          rw [eg, if_neg e0, ld_ln1 hr hj2, decide_eq_false z, if_pos (by decide)]
        · show nI (ld_cn (fun j => decide (ld_d M j = 1)) j) = nI (ld_cn (fun j => decide (ld_d M j = 1)) (j + 1))
          rw [ld_cn_s.2 (decide_eq_false z)]
    · right
      refine ⟨(nI (ld_cn (fun j => decide (ld_d M j = 1)) j), nI j), ?_, ?_⟩
      · simp only [ls_countLoans_1, ld_lt]
        rw [eg, if_pos (show nI M.1 ≤ nI j from nI_le (by omega) (by omega))]
      · show nI (ld_cn (fun j => decide (ld_d M j = 1)) j) = _
        rw [show j = M.1 by omega]
noncomputable def ld_Tm (M : ld_M) (p : Nat) : Bool := @decide (∃ L, ld_mt M p L = true) (Classical.propDecidable _)
theorem ld_Tm_iff {M : ld_M} {p : Nat} : ld_Tm M p = true ↔ ∃ L, ld_mt M p L = true := @decide_eq_true_iff _ (Classical.propDecidable _)
theorem ld_Tm_f {M : ld_M} {p : Nat} : ld_Tm M p = false ↔ ∀ L, ld_mt M p L = false := by
  constructor
  · intro h L
    cases hz : ld_mt M p L with
    | false => rfl
    | true => exact absurd (ld_Tm_iff.mpr ⟨L, hz⟩) (by rw [h]; decide)
  · intro h
    cases hz : ld_Tm M p with
    | false => rfl
    | true =>
      obtain ⟨L, hL⟩ := ld_Tm_iff.mp hz
      rw [h L] at hL
      cases hL
theorem ld_lstT {M : ld_M} (hk : M.1 ≤ 120) {p : Nat} {r : Int32} (h : ld_lst (ld_mt M p) ld_n1 0 r) : (r < 0 → ld_Tm M p = false) ∧ (¬ r < 0 → ld_Tm M p = true) := by
  rcases h with ⟨e, h⟩ | ⟨L, hj, hL, e, hw, hf, hm⟩
  · refine ⟨fun _ => ld_Tm_f.mpr (fun L => ?_), fun z => absurd (show r < 0 by rw [e]; decide) z⟩
    cases hz : ld_mt M p L with
    | false => rfl
    | true =>
      have hL := (ld_mt_iff.mp hz).1
      rw [h L (by omega) (by omega) (ld_n1lt (by omega))] at hz
      cases hz
  · exact ⟨fun z => absurd z (by rw [e]; exact nI_pos (by omega)), fun _ => ld_Tm_iff.mpr ⟨L, hf⟩⟩
def ld_cS (M : ld_M) (fb : ld_bT) (w : Int32) (j : Nat) (v : Int32 × Int32 × Int32 × Int32 × Int32 × (Int32 × Int32 × Int32) × ld_eT × ld_sT) : Prop := (∃ a, v.1 = nI a ∧ a + ld_cn (ld_sR M) j = ld_cn (ld_sR M) M.1) ∧ (∃ a, v.2.2.2.1 = nI a ∧ a + ld_cn (fun j => decide (ld_d M j = 1)) j = ld_cn (fun j => decide (ld_d M j = 1)) M.1) ∧ (w = 2 ∨ w = 3 → (∃ a, v.2.1 = nI a ∧ a + ld_cn (ld_Tm M) j = ld_cn (ld_Tm M) M.1) ∧ ld_lst (ld_Tm M) ld_n1 j v.2.2.1) ∧ ¬ v.2.2.2.2.2.1.2.1 = 0 ∧ ld_FI M v.2.2.2.2.2.1 fb v.2.2.2.2.2.2.1
theorem ld_fcountS {M : ld_M} {fb : ld_bT} {w : Int32} {N : Nat} (hN : 4000 < N) (w0 : ¬ w ≤ 0) (w5 : ¬ 5 ≤ w) {j : Nat} (hj : j < M.1) {x b f c : Int32} {fo : Int32 × Int32 × Int32} {fe : ld_eT} {fs : ld_sT} (hI : ld_cS M fb w (j + 1) (x, b, f, c, nI j, fo, fe, fs)) : ∃ v, ls_fcount_1 N fb w (x, b, f, c, nI j, fo, fe, fs) = some (.inl v) ∧ v.2.2.2.2.1 = nI j - 1 ∧ ld_cS M fb w j v := by
  obtain ⟨i1, i2, i3, i4, i5⟩ := hI
  have hkn : ¬ fo.2.1 = 0 := i4
  have hF : ld_FI M fo fb fe := i5
  have hok := hF.2 hkn
  have hk : M.1 ≤ 120 := hF.1.1
  have u1 := ld_up (x := x) (f := ld_sR M) i1
  have u2 := ld_up (x := c) (f := fun j => decide (ld_d M j = 1)) i2
  obtain ⟨r, fo2, fe2, fs2, m1, m2, m3, m4⟩ := ld_fmetL hF fs hj ld_n1 hN
  have m5 := ld_lstT hk m2
  have m6 := m3 hkn
  have hd : fb.1 j = nI (ld_d M j) := (hF.1.2.2 j hj).1.2
  have hd7 := (hF.1.2.2 j hj).1.1
  have R0 : fe.1 j = 0 → ∃ a, x = nI a ∧ a + ld_cn (ld_sR M) j = ld_cn (ld_sR M) M.1 := fun z => u1.2 (by
    cases hz : ld_sR M j with
    | false => rfl
    | true =>
      have := (hok.1 j hj).2.mpr hz
      rw [z] at this
      exact absurd this (by decide))
  have R1 : ¬ fe.1 j = 0 → ∃ a, x + 1 = nI a ∧ a + ld_cn (ld_sR M) j = ld_cn (ld_sR M) M.1 := fun z => u1.1 ((hok.1 j hj).2.mp ((hok.1 j hj).1.elim (fun y => absurd y z) id))
  have D1 : fb.1 j = 1 → ∃ a, c + 1 = nI a ∧ a + ld_cn (fun j => decide (ld_d M j = 1)) j = ld_cn (fun j => decide (ld_d M j = 1)) M.1 := fun z => u2.1 (decide_eq_true (by
    rw [hd] at z
    exact (nI_eq (b := 1) (by omega) (by omega)).mp z))
  have D0 : ¬ fb.1 j = 1 → ∃ a, c = nI a ∧ a + ld_cn (fun j => decide (ld_d M j = 1)) j = ld_cn (fun j => decide (ld_d M j = 1)) M.1 := fun z => u2.2 (decide_eq_false (fun y => z (by
    rw [hd, y]
    rfl)))
  have T0 : r < 0 → (w = 2 ∨ w = 3) → (∃ a, b = nI a ∧ a + ld_cn (ld_Tm M) j = ld_cn (ld_Tm M) M.1) ∧ ld_lst (ld_Tm M) ld_n1 j f := fun z y => ⟨(ld_up (x := b) (f := ld_Tm M) (i3 y).1).2 (m5.1 z), ld_lst_s (i3 y).2 (fun _ => m5.1 z)⟩
  have T1 : ¬ r < 0 → (w = 2 ∨ w = 3) → (∃ a, b + 1 = nI a ∧ a + ld_cn (ld_Tm M) j = ld_cn (ld_Tm M) M.1) ∧ ld_lst (ld_Tm M) ld_n1 j (nI j) := fun z y => ⟨(ld_up (x := b) (f := ld_Tm M) (i3 y).1).1 (m5.2 z), ld_lst_n (by omega) (ld_n1lt (by omega)) (m5.2 z)⟩
  have e0 : ¬ nI j < 0 := nI_pos (by omega)
  simp only [ls_fcount_1]
  rw [if_neg e0, if_neg w0, if_neg w5, if_pos (ld_in_nI (show j < 120 by omega) (by omega)), nI_clamp (by omega)]
  by_cases hR : fe.1 j = 0
  · rw [if_pos hR]
    by_cases hD : fb.1 j = 1
    · rw [if_pos hD]
      by_cases h2 : w = 2
      · rw [if_pos h2, m1]
        simp only [Option.bind_some]
        by_cases hT : r < 0
        · rw [if_pos hT]
          exact ⟨(x, b, f, c + 1, nI j - 1, fo2, fe2, fs2), rfl, rfl, R0 hR, D1 hD, fun y => T0 hT y, m6, m4⟩
        · rw [if_neg hT]
          exact ⟨(x, b + 1, nI j, c + 1, nI j - 1, fo2, fe2, fs2), rfl, rfl, R0 hR, D1 hD, fun y => T1 hT y, m6, m4⟩
      · rw [if_neg h2]
        by_cases h3 : w = 3
        · rw [if_pos h3, m1]
          simp only [Option.bind_some]
          by_cases hT : r < 0
          · rw [if_pos hT]
            exact ⟨(x, b, f, c + 1, nI j - 1, fo2, fe2, fs2), rfl, rfl, R0 hR, D1 hD, fun y => T0 hT y, m6, m4⟩
          · rw [if_neg hT]
            exact ⟨(x, b + 1, nI j, c + 1, nI j - 1, fo2, fe2, fs2), rfl, rfl, R0 hR, D1 hD, fun y => T1 hT y, m6, m4⟩
        · rw [if_neg h3]
          exact ⟨(x, b, f, c + 1, nI j - 1, fo, fe, fs), rfl, rfl, R0 hR, D1 hD, fun y => absurd y (fun z => z.elim h2 h3), hkn, hF⟩
    · rw [if_neg hD]
      by_cases h2 : w = 2
      · rw [if_pos h2, m1]
        simp only [Option.bind_some]
        by_cases hT : r < 0
        · rw [if_pos hT]
          exact ⟨(x, b, f, c, nI j - 1, fo2, fe2, fs2), rfl, rfl, R0 hR, D0 hD, fun y => T0 hT y, m6, m4⟩
        · rw [if_neg hT]
          exact ⟨(x, b + 1, nI j, c, nI j - 1, fo2, fe2, fs2), rfl, rfl, R0 hR, D0 hD, fun y => T1 hT y, m6, m4⟩
      · rw [if_neg h2]
        by_cases h3 : w = 3
        · rw [if_pos h3, m1]
          simp only [Option.bind_some]
          by_cases hT : r < 0
          · rw [if_pos hT]
            exact ⟨(x, b, f, c, nI j - 1, fo2, fe2, fs2), rfl, rfl, R0 hR, D0 hD, fun y => T0 hT y, m6, m4⟩
          · rw [if_neg hT]
            exact ⟨(x, b + 1, nI j, c, nI j - 1, fo2, fe2, fs2), rfl, rfl, R0 hR, D0 hD, fun y => T1 hT y, m6, m4⟩
        · rw [if_neg h3]
          exact ⟨(x, b, f, c, nI j - 1, fo, fe, fs), rfl, rfl, R0 hR, D0 hD, fun y => absurd y (fun z => z.elim h2 h3), hkn, hF⟩
  · rw [if_neg hR]
    by_cases hD : fb.1 j = 1
    · rw [if_pos hD]
      by_cases h2 : w = 2
      · rw [if_pos h2, m1]
        simp only [Option.bind_some]
        by_cases hT : r < 0
        · rw [if_pos hT]
          exact ⟨(x + 1, b, f, c + 1, nI j - 1, fo2, fe2, fs2), rfl, rfl, R1 hR, D1 hD, fun y => T0 hT y, m6, m4⟩
        · rw [if_neg hT]
          exact ⟨(x + 1, b + 1, nI j, c + 1, nI j - 1, fo2, fe2, fs2), rfl, rfl, R1 hR, D1 hD, fun y => T1 hT y, m6, m4⟩
      · rw [if_neg h2]
        by_cases h3 : w = 3
        · rw [if_pos h3, m1]
          simp only [Option.bind_some]
          by_cases hT : r < 0
          · rw [if_pos hT]
            exact ⟨(x + 1, b, f, c + 1, nI j - 1, fo2, fe2, fs2), rfl, rfl, R1 hR, D1 hD, fun y => T0 hT y, m6, m4⟩
          · rw [if_neg hT]
            exact ⟨(x + 1, b + 1, nI j, c + 1, nI j - 1, fo2, fe2, fs2), rfl, rfl, R1 hR, D1 hD, fun y => T1 hT y, m6, m4⟩
        · rw [if_neg h3]
          exact ⟨(x + 1, b, f, c + 1, nI j - 1, fo, fe, fs), rfl, rfl, R1 hR, D1 hD, fun y => absurd y (fun z => z.elim h2 h3), hkn, hF⟩
    · rw [if_neg hD]
      by_cases h2 : w = 2
      · rw [if_pos h2, m1]
        simp only [Option.bind_some]
        by_cases hT : r < 0
        · rw [if_pos hT]
          exact ⟨(x + 1, b, f, c, nI j - 1, fo2, fe2, fs2), rfl, rfl, R1 hR, D0 hD, fun y => T0 hT y, m6, m4⟩
        · rw [if_neg hT]
          exact ⟨(x + 1, b + 1, nI j, c, nI j - 1, fo2, fe2, fs2), rfl, rfl, R1 hR, D0 hD, fun y => T1 hT y, m6, m4⟩
      · rw [if_neg h2]
        by_cases h3 : w = 3
        · rw [if_pos h3, m1]
          simp only [Option.bind_some]
          by_cases hT : r < 0
          · rw [if_pos hT]
            exact ⟨(x + 1, b, f, c, nI j - 1, fo2, fe2, fs2), rfl, rfl, R1 hR, D0 hD, fun y => T0 hT y, m6, m4⟩
          · rw [if_neg hT]
            exact ⟨(x + 1, b + 1, nI j, c, nI j - 1, fo2, fe2, fs2), rfl, rfl, R1 hR, D0 hD, fun y => T1 hT y, m6, m4⟩
        · rw [if_neg h3]
          exact ⟨(x + 1, b, f, c, nI j - 1, fo, fe, fs), rfl, rfl, R1 hR, D0 hD, fun y => absurd y (fun z => z.elim h2 h3), hkn, hF⟩
theorem ld_fcountL {M : ld_M} {fo : Int32 × Int32 × Int32} {fb : ld_bT} {fe : ld_eT} (hF : ld_FI M fo fb fe) (fs : ld_sT) (w : Int32) {N : Nat} (hN : 4000 < N) : ∃ r fo' fe' fs', lm_fcount N fo fb fe fs w = some (r, fo', fe', fs') ∧ (w = 0 → r = nI M.1) ∧ (w = 1 → r = nI (ld_cn (ld_sR M) M.1)) ∧ (w = 2 → r = nI (ld_cn (ld_Tm M) M.1)) ∧ (w = 3 → ld_lst (ld_Tm M) ld_n1 0 r) ∧ (w = 4 → r = nI (ld_cn (fun j => decide (ld_d M j = 1)) M.1)) ∧ (¬ w = 0 → ¬ w = 1 → ¬ w = 2 → ¬ w = 3 → ¬ w = 4 → r = ld_n1) ∧ ld_FI M fo' fb fe' := by
  have hk := hF.1.1
  obtain ⟨fo1, fe1, fs1, hl, hkn, hok, hf1, hF1⟩ := ld_FIl hF fs hN
  have hn : fo1.1 = nI M.1 := hF1.1.2.1
  have hTf : ∀ p, ¬ p < M.1 → ld_Tm M p = false := fun p hp => ld_Tm_f.mpr (fun L => by
    cases hz : ld_mt M p L with
    | false => rfl
    | true => exact absurd (ld_mt_iff.mp hz).2.1 hp)
  have hLp := ld_loop (f := ls_fcount_1 N fb w) (fun v => ∃ j, v.2.2.2.2.1 = nI j - 1 ∧ j ≤ M.1 ∧ ld_cS M fb w j v) (fun v => (v.2.2.2.2.1 + 1).toNatClampNeg) (fun v => (w ≤ 0 ∨ 5 ≤ w ∨ ld_cS M fb w 0 v) ∧ ld_FI M v.2.2.2.2.2.1 fb v.2.2.2.2.2.2.1) ?_ N (0, 0, ld_n1, 0, fo1.1 - 1, fo1, fe1, fs1) ⟨M.1, by rw [hn], Nat.le_refl _, ⟨0, rfl, by omega⟩, ⟨0, rfl, by omega⟩, fun _ => ⟨⟨0, rfl, by omega⟩, Or.inl ⟨rfl, fun L h _ _ => hTf L (by omega)⟩⟩, hkn, hF1⟩ (by show (fo1.1 - 1 + 1).toNatClampNeg < N; rw [Int32.sub_add_cancel, hn, nI_clamp (by omega)]; omega)
  · obtain ⟨⟨x, b, f, c, i, fo2, fe2, fs2⟩, hY, h1, h2⟩ := hLp
    have hF2 : ld_FI M fo2 fb fe2 := h2
    have hst : lm_fcount N fo fb fe fs w = (if w = 0 then some (fo2.1, fo2, fe2, fs2) else if w = 1 then some (x, fo2, fe2, fs2) else if w = 2 then some (b, fo2, fe2, fs2) else if w = 3 then some (f, fo2, fe2, fs2) else if w = 4 then some (c, fo2, fe2, fs2) else some (ld_n1, fo2, fe2, fs2)) := by
      unfold lm_fcount
      rw [hl]
      show Option.bind (ld_it (ls_fcount_1 N fb w) N (0, 0, ld_n1, 0, fo1.1 - 1, fo1, fe1, fs1)) _ = _
      rw [hY]
      rfl
    have hS : ¬ w ≤ 0 → ¬ 5 ≤ w → ld_cS M fb w 0 (x, b, f, c, i, fo2, fe2, fs2) := fun p q => h1.elim (fun z => absurd z p) (fun z => z.elim (fun y => absurd y q) id)
    have hcn : ∀ (g : Nat → Bool) (y : Int32), (∃ a, y = nI a ∧ a + ld_cn g 0 = ld_cn g M.1) → y = nI (ld_cn g M.1) := by
      rintro g y ⟨a, e, h⟩
      rw [e, ← h]
      rfl
    by_cases e0 : w = 0
    · refine ⟨fo2.1, fo2, fe2, fs2, by rw [hst, if_pos e0], fun _ => hF2.1.2.1, fun z => ?_, fun z => ?_, fun z => ?_, fun z => ?_, fun z => absurd e0 z, hF2⟩
      all_goals (rw [e0] at z; exact absurd z (by decide))
    · by_cases e1 : w = 1
      · refine ⟨x, fo2, fe2, fs2, by rw [hst, if_neg e0, if_pos e1], fun z => absurd z e0, fun _ => hcn _ _ (hS (by rw [e1]; decide) (by rw [e1]; decide)).1, fun z => ?_, fun z => ?_, fun z => ?_, fun _ z => absurd e1 z, hF2⟩
        all_goals (rw [e1] at z; exact absurd z (by decide))
      · by_cases e2 : w = 2
        · refine ⟨b, fo2, fe2, fs2, by rw [hst, if_neg e0, if_neg e1, if_pos e2], fun z => absurd z e0, fun z => absurd z e1, fun _ => hcn _ _ ((hS (by rw [e2]; decide) (by rw [e2]; decide)).2.2.1 (Or.inl e2)).1, fun z => ?_, fun z => ?_, fun _ _ z => absurd e2 z, hF2⟩
          all_goals (rw [e2] at z; exact absurd z (by decide))
        · by_cases e3 : w = 3
          · refine ⟨f, fo2, fe2, fs2, by rw [hst, if_neg e0, if_neg e1, if_neg e2, if_pos e3], fun z => absurd z e0, fun z => absurd z e1, fun z => absurd z e2, fun _ => ((hS (by rw [e3]; decide) (by rw [e3]; decide)).2.2.1 (Or.inr e3)).2, fun z => ?_, fun _ _ _ z => absurd e3 z, hF2⟩
            rw [e3] at z
            exact absurd z (by decide)
          · by_cases e4 : w = 4
            · exact ⟨c, fo2, fe2, fs2, by rw [hst, if_neg e0, if_neg e1, if_neg e2, if_neg e3, if_pos e4], fun z => absurd z e0, fun z => absurd z e1, fun z => absurd z e2, fun z => absurd z e3, fun _ => hcn _ _ (hS (by rw [e4]; decide) (by rw [e4]; decide)).2.1, fun _ _ _ _ z => absurd e4 z, hF2⟩
            · exact ⟨ld_n1, fo2, fe2, fs2, by rw [hst, if_neg e0, if_neg e1, if_neg e2, if_neg e3, if_neg e4], fun z => absurd z e0, fun z => absurd z e1, fun z => absurd z e2, fun z => absurd z e3, fun z => absurd z e4, fun _ _ _ _ _ => rfl, hF2⟩
  · rintro ⟨x, b, f, c, i, fo2, fe2, fs2⟩ ⟨j, a1, hj, a2⟩
    have b1 : i = nI j - 1 := a1
    clear a1
    cases j with
    | zero =>
      right
      refine ⟨(x, b, f, c, i, fo2, fe2, fs2), ?_, Or.inr (Or.inr a2), a2.2.2.2.2⟩
      simp only [ls_fcount_1]
      rw [b1, if_pos (by decide)]
    | succ j =>
      rw [nI_pred] at b1
      subst b1
      have e0 : ¬ nI j < 0 := nI_pos (by omega)
      by_cases w0 : w ≤ 0
      · right
        refine ⟨(x, b, f, c, nI j, fo2, fe2, fs2), ?_, Or.inl w0, a2.2.2.2.2⟩
        simp only [ls_fcount_1]
        rw [if_neg e0, if_pos w0]
      · by_cases w5 : 5 ≤ w
        · right
          refine ⟨(x, b, f, c, nI j, fo2, fe2, fs2), ?_, Or.inr (Or.inl w5), a2.2.2.2.2⟩
          simp only [ls_fcount_1]
          rw [if_neg e0, if_neg w0, if_pos w5]
        · left
          obtain ⟨v, s1, s2, s3⟩ := ld_fcountS hN w0 w5 (show j < M.1 by omega) a2
          refine ⟨v, s1, ⟨j, s2, by omega, s3⟩, ?_⟩
          show (v.2.2.2.2.1 + 1).toNatClampNeg < (nI j + 1).toNatClampNeg
          rw [s2, Int32.sub_add_cancel, nI_1, nI_clamp (by omega), nI_clamp (by omega)]
          omega
theorem ld_acount {M : ld_M} {dk : Int32 × Int32} {G : ld_gT} {rc : Nat → Int32} {q : ld_pT} {u : Nat → Int32} (hh : (Nat → Int32) × (Nat → Int32)) {qq : ld_pT} {mw : Nat → Int64} {fo : Int32 × Int32 × Int32} {fb : ld_bT} {fe : ld_eT} (hC : ld_CI M dk G rc q u qq mw) (hF : ld_FI M fo fb fe) (fs : ld_sT) (w : Int32) {N : Nat} (hN : 4000 < N) :
    ∃ r dk' rc' q' u' hh' qq' mw' fo' fe' fs', lm_count N dk G rc q u hh qq mw w = some (r, dk', rc', q', u', hh', qq', mw') ∧ lm_fcount N fo fb fe fs w = some (r, fo', fe', fs') ∧ ld_CI M dk' G rc' q' u' qq' mw' ∧ ld_FI M fo' fb fe' := by
  obtain ⟨hr, hq, hqq, hw, hm⟩ := id hC
  have hk := hr.1
  obtain ⟨r', fo', fe', fs', f1, c0, c1, c2, c3, c4, c5, f4⟩ := ld_fcountL hF fs w hN
  by_cases e0 : w = 0
  · refine ⟨r', dk, rc, q, u, hh, qq, mw, fo', fe', fs', ?_, f1, hC, f4⟩
    unfold lm_count
    rw [if_pos e0, c0 e0]
    show some (G.2.2.2.2.2.2, dk, rc, q, u, hh, qq, mw) = _
    rw [hr.2.1]
  · by_cases e1 : w = 1
    · obtain ⟨dk', rc', q', u', h1, h2, h3, h4, h5⟩ := ld_findWays hr hq hw (N := N) (by omega)
      refine ⟨r', dk', rc', q', u', hh, qq, mw, fo', fe', fs', ?_, f1, ⟨hr, h4, hqq, fun _ => h5, fun z => ?_⟩, f4⟩
      · unfold lm_count
        rw [if_neg e0, if_pos e1, h1]
        show Option.bind (lm_rcount N rc') _ = _
        rw [ld_rcount h5.1 (by omega), c1 e1]
        have e : ld_cn (fun j => decide (rc' j = 1)) 120 = ld_cn (ld_sR M) M.1 := by
          rw [ld_cn_ext (k := M.1) 120 hk (fun j a b => decide_eq_false (fun z => absurd (h5.2.1 j b z) (by omega)))]
          exact ld_cn_eq M.1 (fun j hj => ld_beq (fun z => (h5.2.2.1 j hj).mp (of_decide_eq_true z)) (fun z => decide_eq_true ((h5.2.2.1 j hj).mpr z)))
        rw [e]
        rfl
      · rw [h3] at z
        exact ⟨h2, (hm z).2⟩
    · by_cases e4 : w = 4
      · refine ⟨r', dk, rc, q, u, hh, qq, mw, fo', fe', fs', ?_, f1, hC, f4⟩
        unfold lm_count
        rw [if_neg e0, if_neg e1, if_neg (by rw [e4]; decide), if_neg (by rw [e4]; decide), if_pos e4, ld_cloans hr (by omega), c4 e4]
        rfl
      · by_cases e23 : w = 2 ∨ w = 3
        · obtain ⟨dk', rc', q', u', hh', qq', mw', h1, h2, h3, h4, h5, h6, h7⟩ := ld_findMeet hr (hh := hh) hq hqq hw hm (N := N) (by omega)
          have hAn : ∀ j, j < 120 → decide (lf_isAnyAt mw' (nI j) = 1) = ld_Tm M j := by
            intro j hj
            rcases ld_isAny (mw := mw') hj with ⟨z, L, hL, hb⟩ | ⟨z, hb⟩
            · rw [decide_eq_true z, eq_comm]
              exact ld_Tm_iff.mpr ⟨L, by rw [← h7 j L hj hL]; exact hb⟩
            · rw [decide_eq_false (by rw [z]; decide), eq_comm]
              refine ld_Tm_f.mpr (fun L => ?_)
              cases hz : ld_mt M j L with
              | false => rfl
              | true =>
                have hL := (ld_mt_iff.mp hz).1
                rw [← h7 j L hj (by omega), hb L (by omega)] at hz
                cases hz
          refine ⟨r', dk', rc', q', u', hh', qq', mw', fo', fe', fs', ?_, f1, ⟨hr, h4, h5, fun _ => h6, fun _ => ⟨h2, h7⟩⟩, f4⟩
          unfold lm_count
          by_cases e2 : w = 2
          · rw [if_neg e0, if_neg e1, if_pos e2, h1]
            show Option.bind (lm_mcount N mw') _ = _
            rw [ld_mcount (by omega), c2 e2]
            have e : ld_cn (fun j => decide (lf_isAnyAt mw' (nI j) = 1)) 120 = ld_cn (ld_Tm M) M.1 := by
              rw [ld_cn_eq 120 hAn]
              refine ld_cn_ext (k := M.1) 120 hk (fun j a b => ld_Tm_f.mpr (fun L => ?_))
              cases hz : ld_mt M j L with
              | false => rfl
              | true => exact absurd (ld_mt_iff.mp hz).2.1 (by omega)
            rw [e]
            rfl
          · have e3 : w = 3 := e23.elim (fun z => absurd z e2) id
            obtain ⟨r, l1, l2⟩ := ld_mfirst (mw := mw') (N := N) (by omega)
            rw [if_neg e0, if_neg e1, if_neg e2, if_pos e3, h1]
            show Option.bind (lm_mfirst N mw') _ = _
            rw [l1, ld_lst_u (ld_lst_c l2 hAn) (c3 e3)]
            rfl
        · have e2 : ¬ w = 2 := fun z => e23 (Or.inl z)
          have e3 : ¬ w = 3 := fun z => e23 (Or.inr z)
          refine ⟨r', dk, rc, q, u, hh, qq, mw, fo', fe', fs', ?_, f1, hC, f4⟩
          unfold lm_count
          rw [if_neg e0, if_neg e1, if_neg e2, if_neg e3, if_neg e4, c5 e0 e1 e2 e3 e4]
          rfl
