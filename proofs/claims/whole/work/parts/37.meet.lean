/-! meetings: a bit a loan, two words a point -/
def ld_mb (mw : Nat → Int64) (p L : Nat) : Bool := (mw (2 * p + L / 64)).toBitVec.getLsbD (L % 64)
theorem ld_lsh : ∀ k, k < 64 → ((1 : Int64) <<< ((nI k).toInt64 &&& 63)).toBitVec = BitVec.twoPow 64 k := by decide +kernel
theorem ld_lcu : ∀ k, k < 64 → ((nI k).toInt64.toUInt64 &&& Int64.toUInt64 63).toNat = k := by decide +kernel
theorem ld_r64 {L : Nat} (hL : L < 120) : nI L - nI L / 64 * 64 = nI (L % 64) := pk_rem (d := 64) (by omega) (by omega) (by omega)
theorem ld_madd_eq {mw : Nat → Int64} {p L : Nat} (hp : p < 120) (hL : L < 120) : lf_madd mw (nI p) (nI L) = vp_updL mw (2 * p + L / 64) (mw (2 * p + L / 64) ||| ((1 : Int64) <<< ((nI (L % 64)).toInt64 &&& 63))) := by
  simp only [lf_madd, ld_lt]
  rw [ld_ix1 hp, if_neg (by decide), ld_ix1 hL, if_neg (by decide), ld_w1e hL, ld_r64 hL, nI_clamp (by omega)]
theorem ld_mb_add {mw : Nat → Int64} {p L p' L' : Nat} (hp : p < 120) (hL : L < 120) (hL' : L' < 128) : ld_mb (lf_madd mw (nI p) (nI L)) p' L' = (ld_mb mw p' L' || (decide (p' = p) && decide (L' = L))) := by
  rw [ld_madd_eq hp hL]
  unfold ld_mb
  by_cases e : 2 * p' + L' / 64 = 2 * p + L / 64
  · have e1 : p' = p := by omega
    have e2 : L' / 64 = L / 64 := by omega
    rw [e, pk_uLs, Int64.toBitVec_or, BitVec.getLsbD_or, ld_lsh _ (by omega), BitVec.getLsbD_twoPow, decide_eq_true e1, Bool.true_and]
    congr 1
    rw [decide_eq_true (show L % 64 < 64 by omega), Bool.true_and]
    exact decide_eq_decide.mpr ⟨fun z => by omega, fun z => by omega⟩
  · rw [pk_uLn e]
    have : (decide (p' = p) && decide (L' = L)) = false := by
      by_cases e1 : p' = p
      · have : L' ≠ L := by
          intro e2
          exact e (by rw [e1, e2])
        rw [decide_eq_false this, Bool.and_false]
      · rw [decide_eq_false e1, Bool.false_and]
    rw [this, Bool.or_false]
theorem ld_bit1 {w : Int64} {k : Nat} (hk : k < 64) : ((w.toUInt64 >>> ((nI k).toInt64.toUInt64 &&& Int64.toUInt64 63)).toInt64 &&& 1) = (if w.toBitVec.getLsbD k = true then (1 : Int64) else 0) := by
  have e : ((w.toUInt64 >>> ((nI k).toInt64.toUInt64 &&& Int64.toUInt64 63)).toInt64).toBitVec = w.toBitVec >>> k := by
    apply BitVec.eq_of_toNat_eq
    show (w.toUInt64 >>> ((nI k).toInt64.toUInt64 &&& Int64.toUInt64 63)).toNat = _
    rw [UInt64.toNat_shiftRight, ld_lcu k hk, Nat.mod_eq_of_lt hk, BitVec.toNat_ushiftRight]
    rfl
  rw [← Int64.toBitVec_inj, Int64.toBitVec_and, e]
  show w.toBitVec >>> k &&& 1#64 = _
  rw [BitVec.and_one_eq_setWidth_ofBool_getLsbD, BitVec.getLsbD_ushiftRight, Nat.add_zero]
  cases w.toBitVec.getLsbD k
  · rw [if_neg (by decide)]; decide
  · rw [if_pos rfl]; decide
theorem ld_isAt {mw : Nat → Int64} {p L : Nat} (hp : p < 120) (hL : L < 120) : lf_isAt mw (nI p) (nI L) = ld_bi (ld_mb mw p L) := by
  simp only [lf_isAt, ld_lt]
  rw [ld_ix1 hp, if_neg (by decide), ld_ix1 hL, if_neg (by decide), ld_w1e hL, ld_r64 hL, nI_clamp (by omega), ld_bit1 (by omega)]
  unfold ld_mb ld_bi
  cases (mw (2 * p + L / 64)).toBitVec.getLsbD (L % 64)
  · decide
  · decide
theorem ld_isAny {mw : Nat → Int64} {p : Nat} (hp : p < 120) : (lf_isAnyAt mw (nI p) = 1 ∧ ∃ L, L < 128 ∧ ld_mb mw p L = true) ∨ (lf_isAnyAt mw (nI p) = 0 ∧ ∀ L, L < 128 → ld_mb mw p L = false) := by
  simp only [lf_isAnyAt, ld_lt]
  have e1 : (2 : Int32) * nI p = nI (2 * p) := pk_mul 2 p
  rw [ld_ix1 hp, if_neg (by decide), e1, nI_1, nI_clamp (by omega), nI_clamp (by omega)]
  by_cases h : lg_cmp (mw (2 * p) ||| mw (2 * p + 1)) 0 = 0
  · right
    rw [if_pos h]
    refine ⟨rfl, fun L hL => ?_⟩
    rw [lg_cmp_eq] at h
    have hb : ∀ i, (mw (2 * p)).toBitVec.getLsbD i = false ∧ (mw (2 * p + 1)).toBitVec.getLsbD i = false := by
      intro i
      have h2 : (mw (2 * p) ||| mw (2 * p + 1)).toBitVec.getLsbD i = false := by
        rw [h]; exact BitVec.getLsbD_zero
      rw [Int64.toBitVec_or, BitVec.getLsbD_or, Bool.or_eq_false_iff] at h2
      exact h2
    unfold ld_mb
    rcases (show L / 64 = 0 ∨ L / 64 = 1 by omega) with e | e
    · rw [e, Nat.add_zero]; exact (hb _).1
    · rw [e]; exact (hb _).2
  · left
    rw [if_neg h]
    refine ⟨rfl, Classical.byContradiction (fun q => h ?_)⟩
    rw [lg_cmp_eq]
    apply Int64.toBitVec_inj.mp
    apply BitVec.eq_of_getLsbD_eq
    intro i hi
    rw [Int64.toBitVec_or, BitVec.getLsbD_or]
    have h0 : ld_mb mw p i = false := by
      cases hz : ld_mb mw p i with
      | false => rfl
      | true => exact absurd ⟨i, by omega, hz⟩ q
    have h1 : ld_mb mw p (64 + i) = false := by
      cases hz : ld_mb mw p (64 + i) with
      | false => rfl
      | true => exact absurd ⟨64 + i, by omega, hz⟩ q
    unfold ld_mb at h0 h1
    rw [show i / 64 = 0 by omega, show i % 64 = i by omega, Nat.add_zero] at h0
    rw [show (64 + i) / 64 = 1 by omega, show (64 + i) % 64 = i by omega] at h1
    rw [h0, h1]
    exact BitVec.getLsbD_zero.symm
/-- a point's doing and a loan -/
theorem ld_ln1 {G : ld_gT} {M : ld_M} (hr : ld_rel G M) {p : Nat} (hp : p < M.1) : lf_isLoan G (nI p) = ld_bi (decide (ld_d M p = 1)) := by
  have hk := hr.1
  obtain ⟨⟨hd7, ed⟩, -⟩ := hr.2.2 p hp
  simp only [lf_isLoan, ld_lt]
  rw [ld_pt1 hr hp, if_neg (by decide), nI_clamp (by omega), ed]
  unfold ld_bi
  by_cases e : ld_d M p = 1
  · rw [e, if_pos (by decide), if_pos (by decide)]
  · rw [if_neg (show ¬ nI (ld_d M p) = (1 : Int32) from fun z => e ((nI_eq (b := 1) (by omega) (by omega)).mp z)), if_neg (by rw [decide_eq_false e]; decide)]
theorem ld_chg {G : ld_gT} {M : ld_M} (hr : ld_rel G M) {p : Nat} (hp : p < M.1) : lf_isChange G (nI p) = ld_bi (decide (ld_d M p = 6 ∨ (ld_d M p = 1 ∧ ld_c M p = 1))) := by
  have hk := hr.1
  obtain ⟨⟨hd7, ed⟩, -, -, -, hc, -, -⟩ := hr.2.2 p hp
  simp only [lf_isChange, ld_lt]
  rw [ld_pt1 hr hp, if_neg (by decide), nI_clamp (by omega), ed]
  unfold ld_bi
  by_cases e : ld_d M p = 6
  · rw [if_pos (show nI (ld_d M p) = (6 : Int32) from by rw [e]; rfl), if_pos (decide_eq_true (Or.inl e))]
  · rw [if_neg (show ¬ nI (ld_d M p) = (6 : Int32) from fun z => e ((nI_eq (b := 6) (by omega) (by omega)).mp z))]
    by_cases e1 : ld_d M p = 1
    · obtain ⟨hc2, ec⟩ := hc e1
      rw [if_pos (show nI (ld_d M p) = (1 : Int32) from by rw [e1]; rfl), ec]
      by_cases e2 : ld_c M p = 1
      · rw [if_pos (show nI (ld_c M p) = (1 : Int32) from by rw [e2]; rfl), if_pos (decide_eq_true (Or.inr ⟨e1, e2⟩))]
      · rw [if_neg (show ¬ nI (ld_c M p) = (1 : Int32) from fun z => e2 ((nI_eq (b := 1) (by omega) (by omega)).mp z)), if_neg (by rw [decide_eq_false (by omega)]; decide)]
    · rw [if_neg (show ¬ nI (ld_d M p) = (1 : Int32) from fun z => e1 ((nI_eq (b := 1) (by omega) (by omega)).mp z)), if_neg (by rw [decide_eq_false (by omega)]; decide)]
theorem ld_lok {G : ld_gT} {M : ld_M} (hr : ld_rel G M) {p : Nat} (hp : p < M.1) : lf_isLook G (nI p) = ld_bi (decide (ld_d M p = 5 ∨ (ld_d M p = 1 ∧ ld_c M p = 0))) := by
  have hk := hr.1
  obtain ⟨⟨hd7, ed⟩, -, -, -, hc, -, -⟩ := hr.2.2 p hp
  simp only [lf_isLook, ld_lt]
  rw [ld_pt1 hr hp, if_neg (by decide), nI_clamp (by omega), ed]
  unfold ld_bi
  by_cases e : ld_d M p = 5
  · rw [if_pos (show nI (ld_d M p) = (5 : Int32) from by rw [e]; rfl), if_pos (decide_eq_true (Or.inl e))]
  · rw [if_neg (show ¬ nI (ld_d M p) = (5 : Int32) from fun z => e ((nI_eq (b := 5) (by omega) (by omega)).mp z))]
    by_cases e1 : ld_d M p = 1
    · obtain ⟨hc2, ec⟩ := hc e1
      rw [if_pos (show nI (ld_d M p) = (1 : Int32) from by rw [e1]; rfl), ec]
      by_cases e2 : ld_c M p = 0
      · rw [if_pos (show nI (ld_c M p) = (0 : Int32) from by rw [e2]; rfl), if_pos (decide_eq_true (Or.inr ⟨e1, e2⟩))]
      · rw [if_neg (show ¬ nI (ld_c M p) = (0 : Int32) from fun z => e2 ((nI_eq (b := 0) (by omega) (by omega)).mp z)), if_neg (by rw [decide_eq_false (by omega)]; decide)]
    · rw [if_neg (show ¬ nI (ld_d M p) = (1 : Int32) from fun z => e1 ((nI_eq (b := 1) (by omega) (by omega)).mp z)), if_neg (by rw [decide_eq_false (by omega)]; decide)]
theorem ld_touch {G : ld_gT} {M : ld_M} (hr : ld_rel G M) {p L : Nat} (hp : p < M.1) (hL : L < M.1) (hd : ld_d M L = 1) {N : Nat} (hN : 10 < N) : ∃ r, lm_touches N G (nI p) (nI L) = some r ∧ (r = 0 ∨ r = 1) ∧ (r = 1 ↔ (ld_ag M p L ∧ ld_ov (ld_b M p) (ld_b M L) = true)) := by
  have hk := hr.1
  obtain ⟨-, -, -, hbp, -, -, -⟩ := hr.2.2 p hp
  obtain ⟨-, -, -, hbL, hcL, -, -⟩ := hr.2.2 L hL
  obtain ⟨⟨hbL1, hbL2⟩, ebL⟩ := hbL (Or.inl hd)
  obtain ⟨hcL2, ecL⟩ := hcL hd
  simp only [lm_touches, ld_lt]
  rw [ld_pt1 hr hp, if_neg (by decide), ld_ln1 hr hL, decide_eq_true hd, if_neg (by decide), ld_chg hr hp, ld_lok hr hp, nI_clamp (by omega), nI_clamp (by omega), ecL, ebL]
  have hov : ∀ (h : ld_d M p = 1 ∨ 5 ≤ ld_d M p), lm_overlap N (G.2.2.1 p) (nI (ld_b M L)) = some (ld_bi (ld_ov (ld_b M p) (ld_b M L))) := by
    intro h
    obtain ⟨⟨h1, h2⟩, e⟩ := hbp h
    rw [e]
    exact ld_overlap h1 h2 hbL1 hbL2 hN
  have hfin : ∀ b : Bool, (Option.bind (some (ld_bi b)) (fun r_8 => if r_8 = 0 then some (0 : Int32) else some 1)) = some (ld_bi b) := by
    intro b; cases b <;> rfl
  by_cases hc : ld_d M p = 6 ∨ (ld_d M p = 1 ∧ ld_c M p = 1)
  · rw [decide_eq_true hc, if_neg (by decide), hov (by omega), hfin]
    refine ⟨_, rfl, ?_, ?_⟩
    · cases ld_ov (ld_b M p) (ld_b M L) <;> decide
    · rw [ld_bi1]; exact ⟨fun z => ⟨Or.inl hc, z⟩, fun z => z.2⟩
  · rw [decide_eq_false hc, if_pos (by decide)]
    by_cases hl : ld_d M p = 5 ∨ (ld_d M p = 1 ∧ ld_c M p = 0)
    · rw [decide_eq_true hl, if_neg (by decide)]
      by_cases e : ld_c M L = 1
      · rw [if_pos (show nI (ld_c M L) = (1 : Int32) from by rw [e]; rfl), hov (by omega), hfin]
        refine ⟨_, rfl, ?_, ?_⟩
        · cases ld_ov (ld_b M p) (ld_b M L) <;> decide
        · rw [ld_bi1]; exact ⟨fun z => ⟨Or.inr ⟨hl, e⟩, z⟩, fun z => z.2⟩
      · rw [if_neg (show ¬ nI (ld_c M L) = (1 : Int32) from fun z => e ((nI_eq (b := 1) (by omega) (by omega)).mp z))]
        refine ⟨0, rfl, Or.inl rfl, fun z => absurd z (by decide), fun z => ?_⟩
        rcases z.1 with y | y
        · exact absurd y hc
        · exact absurd y.2 e
    · rw [decide_eq_false hl, if_pos (by decide)]
      refine ⟨0, rfl, Or.inl rfl, fun z => absurd z (by decide), fun z => ?_⟩
      rcases z.1 with y | y
      · exact absurd y hc
      · exact absurd y.1 hl
