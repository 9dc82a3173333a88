/-! meetings of a loan, and of all -/
theorem ld_hbh {hh : (Nat → Int32) × (Nat → Int32)} {x : Nat} (hx : x < 120) : lf_hbehind hh (nI x) = hh.2 x := by
  simp only [lf_hbehind, ld_lt]
  rw [ld_ix1 hx, if_neg (by decide), nI_clamp (by omega)]
theorem ld_bor {G : ld_gT} {M : ld_M} (hr : ld_rel G M) {p : Nat} (hp : p < M.1) {i : Nat} (hi : i < 32) : bt (lf_borrowing G (nI p)) i = decide (ld_d M p = 1 ∧ i = ld_a M p) := by
  have hk := hr.1
  obtain ⟨-, ha, -⟩ := hr.2.2 p hp
  simp only [lf_borrowing, ld_lt]
  rw [ld_ln1 hr hp]
  by_cases e : ld_d M p = 1
  · obtain ⟨ha, ea⟩ := ha (by omega) (by omega)
    rw [decide_eq_true e, if_neg (by decide), nI_clamp (by omega), ea, ld_bit ha hi]
    exact decide_eq_decide.mpr ⟨fun z => ⟨e, z⟩, fun z => z.2⟩
  · rw [decide_eq_false e, if_pos (by decide), b_0]
    exact (decide_eq_false (fun z => e z.1)).symm
/-- what is kept behind a point of a loan, apart from what it borrows itself -/
theorem ld_keep {G : ld_gT} {M : ld_M} (hr : ld_rel G M) {p : Nat} (hp : p < M.1) {B U : Int32} {fB fU : Nat → Bool} (hB : ∀ i, bt B i = fB i) (hU : ∀ i, bt U i = fU i) (h16 : ld_16 B) : (¬ ((B &&& U) &&& (lf_borrowing G (nI p) ^^^ (-1))) = 0) ↔ ∃ i, fB i = true ∧ fU i = true ∧ ¬ (ld_d M p = 1 ∧ i = ld_a M p) := by
  rw [ld_ne0]
  constructor
  · rintro ⟨i, hi, h⟩
    rw [b_and, b_and, ld_not hi, ld_bor hr hp hi, hB, hU, Bool.and_eq_true, Bool.and_eq_true, Bool.not_eq_true', decide_eq_false_iff_not] at h
    exact ⟨i, h.1.1, h.1.2, h.2⟩
  · rintro ⟨i, h1, h2, h3⟩
    have hi : i < 16 := by
      rcases Nat.lt_or_ge i 16 with q | q
      · exact q
      · have := h16 i q
        rw [hB, h1] at this
        cases this
    refine ⟨i, by omega, ?_⟩
    rw [b_and, b_and, ld_not (by omega), ld_bor hr hp (by omega), hB, hU, Bool.and_eq_true, Bool.and_eq_true, Bool.not_eq_true', decide_eq_false_iff_not]
    exact ⟨⟨h1, h2⟩, h3⟩
theorem ld_addMeet {G : ld_gT} {M : ld_M} (hr : ld_rel G M) {dk : Int32 × Int32} {rc u : Nat → Int32} (hw : ld_way M rc u) {hh : (Nat → Int32) × (Nat → Int32)} {L : Nat} (hL : L < M.1) (hd : ld_d M L = 1) (hLR : ld_sR M L = true) (hB : ∀ p, p < M.1 → ∀ i, bt (hh.2 p) i = ld_sB M L p i) {mw : Nat → Int64} {N : Nat} (hN : 200 < N) :
    ∃ mw', lm_addMeet N dk G u hh mw (nI L) = some mw' ∧ ∀ p L', p < 120 → L' < 128 → ld_mb mw' p L' = (ld_mb mw p L' || (decide (L' = L) && ld_mt M p L)) := by
  have hk := hr.1
  have h16 : ∀ p, p < M.1 → ld_16 (hh.2 p) := by
    intro p hp i hi
    rw [hB p hp]
    cases hz : ld_sB M L p i with
    | false => rfl
    | true =>
      have hA : ld_clH M L (fun _ j => decide (j < 16)) := by
        intro p q j hp hnx hb
        rcases Nat.lt_or_ge j 16 with q1 | q1
        · exact decide_eq_true q1
        · rw [ld_hB_16 hr hp q1 (decide_eq_false (by omega))] at hb
          cases hb
      have hAi : ld_sA M L p i = false := by
        cases hq : ld_sA M L p i with
        | false => rfl
        | true => exact absurd (of_decide_eq_true (ld_sA_iff.mp hq _ hA)) (by omega)
      unfold ld_sB at hz
      rw [ld_hB_16 hr hp hi hAi] at hz
      cases hz
  have hLp := ld_loop (f := ls_addMeet_1 N G u hh (nI L)) (fun v => ∃ j, v.1 = nI j ∧ j ≤ M.1 ∧ ∀ p L', p < 120 → L' < 128 → ld_mb v.2 p L' = (ld_mb mw p L' || (decide (L' = L) && (decide (p < j) && ld_mt M p L)))) (fun v => 121 - v.1.toNatClampNeg) (fun v => ∀ p L', p < 120 → L' < 128 → ld_mb v.2 p L' = (ld_mb mw p L' || (decide (L' = L) && ld_mt M p L))) ?_ N (0, mw) ⟨0, rfl, by omega, fun p L' _ _ => by rw [decide_eq_false (show ¬ p < 0 by omega), Bool.false_and, Bool.and_false, Bool.or_false]⟩ (by show 121 - _ < N; omega)
  · obtain ⟨Y, hY, h⟩ := hLp
    refine ⟨Y.2, ?_, h⟩
    unfold lm_addMeet
    rw [hY]
    rfl
  · rintro ⟨pt, w⟩ ⟨j, hj0, hj, hw1⟩
    have hj1 : pt = nI j := hj0
    have hw2 : ∀ p L', p < 120 → L' < 128 → ld_mb w p L' = (ld_mb mw p L' || (decide (L' = L) && (decide (p < j) && ld_mt M p L))) := hw1
    clear hj0 hw1
    subst hj1
    have eg : lf_gsize G = nI M.1 := hr.2.1
    have hmf : ∀ p, ¬ p < M.1 → ld_mt M p L = false := by
      intro p hp
      cases hz : ld_mt M p L with
      | false => rfl
      | true => exact absurd (ld_mt_iff.mp hz).2.1 hp
    by_cases hjk : j < M.1
    · left
      have e0 : ¬ nI M.1 ≤ nI j := nI_ge hjk (by omega)
      have hkp := ld_keep hr hjk (hB j hjk) (hw.2.2.2 j hjk) (h16 j hjk)
      obtain ⟨r, ht, h01, hr1⟩ := ld_touch hr hjk hL hd (N := N) (by omega)
      have hmt : ld_mt M j L = true ↔ ((¬ ((hh.2 j &&& u j) &&& (lf_borrowing G (nI j) ^^^ (-1))) = 0) ∧ r = 1) := by
        rw [hkp, hr1, ld_mt_iff]
        exact ⟨fun z => ⟨z.2.2.2.2.1, z.2.2.2.2.2⟩, fun z => ⟨hL, hjk, hd, hLR, z.1, z.2⟩⟩
      have hst : ls_addMeet_1 N G u hh (nI L) (nI j, w) = (if ((hh.2 j &&& u j) &&& (lf_borrowing G (nI j) ^^^ (-1))) = 0 then some (.inl (nI j + 1, w)) else if r = 0 then some (.inl (nI j + 1, w)) else some (.inl (nI j + 1, lf_madd w (nI j) (nI L)))) := by
        simp only [ls_addMeet_1, ld_lt]
        rw [eg, if_neg e0, ld_hbh (by omega), ld_ubh (by omega), ht]
        rfl
      have hnext : ∀ w', (∀ p L', p < 120 → L' < 128 → ld_mb w' p L' = (ld_mb w p L' || (decide (p = j) && decide (L' = L) && ld_mt M j L))) → ∀ p L', p < 120 → L' < 128 → ld_mb w' p L' = (ld_mb mw p L' || (decide (L' = L) && (decide (p < j + 1) && ld_mt M p L))) := by
        intro w' h p L' hp hL'
        rw [h p L' hp hL', hw2 p L' hp hL']
        by_cases e1 : L' = L
        · rw [decide_eq_true e1, Bool.true_and, Bool.true_and, Bool.and_true]
          by_cases e2 : p = j
          · subst e2
            simp
          · rw [decide_eq_false e2, Bool.false_and, Bool.or_false]
            congr 2
            exact decide_eq_decide.mpr ⟨fun z => by omega, fun z => by omega⟩
        · rw [decide_eq_false e1, Bool.false_and, Bool.false_and, Bool.and_false, Bool.false_and, Bool.or_false, Bool.or_false]
      have hμ : 121 - (nI j + 1).toNatClampNeg < 121 - (nI j).toNatClampNeg := by
        rw [nI_1, nI_clamp (by omega), nI_clamp (by omega)]
        omega
      by_cases c1 : ((hh.2 j &&& u j) &&& (lf_borrowing G (nI j) ^^^ (-1))) = 0
      · have hm : ld_mt M j L = false := by
          cases hz : ld_mt M j L with
          | false => rfl
          | true => exact absurd c1 (hmt.mp hz).1
        refine ⟨(nI j + 1, w), by rw [hst, if_pos c1], ⟨j + 1, nI_1 j, by omega, hnext w (fun p L' _ _ => ?_)⟩, hμ⟩
        rw [hm, Bool.and_false, Bool.or_false]
      · by_cases c2 : r = 0
        · have hm : ld_mt M j L = false := by
            cases hz : ld_mt M j L with
            | false => rfl
            | true =>
              have := (hmt.mp hz).2
              rw [c2] at this
              exact absurd this (by decide)
          refine ⟨(nI j + 1, w), by rw [hst, if_neg c1, if_pos c2], ⟨j + 1, nI_1 j, by omega, hnext w (fun p L' _ _ => ?_)⟩, hμ⟩
          rw [hm, Bool.and_false, Bool.or_false]
        · have hr2 : r = 1 := by
            rcases h01 with z | z
            · exact absurd z c2
            · exact z
          have hm : ld_mt M j L = true := hmt.mpr ⟨c1, hr2⟩
          refine ⟨(nI j + 1, lf_madd w (nI j) (nI L)), by rw [hst, if_neg c1, if_neg c2], ⟨j + 1, nI_1 j, by omega, hnext _ (fun p L' _ hL' => ?_)⟩, hμ⟩
          rw [ld_mb_add (by omega) (by omega) hL', hm, Bool.and_true]
    · right
      have hjk2 : j = M.1 := by omega
      refine ⟨(nI j, w), ?_, fun p L' hp hL' => ?_⟩
      · simp only [ls_addMeet_1, ld_lt]
        rw [eg, if_pos (show nI M.1 ≤ nI j from nI_le (by omega) (by omega))]
      · show ld_mb w p L' = _
        rw [hw2 p L' hp hL']
        by_cases e : p < j
        · rw [decide_eq_true e, Bool.true_and]
        · rw [decide_eq_false e, Bool.false_and, hmf p (by omega)]
def ld_mok (M : ld_M) (mw : Nat → Int64) : Prop := ∀ p L, p < 120 → L < 128 → ld_mb mw p L = ld_mt M p L
theorem ld_findMeet {G : ld_gT} {M : ld_M} (hr : ld_rel G M) {dk : Int32 × Int32} {rc : Nat → Int32} {q : ld_pT} {u : Nat → Int32} {hh : (Nat → Int32) × (Nat → Int32)} {qq : ld_pT} {mw : Nat → Int64} (hq : ld_pk q 0) (hqq : ld_pk qq 0) (hw : ¬ dk.1 = 0 → ld_way M rc u) (hm : ¬ dk.2 = 0 → ¬ dk.1 = 0 ∧ ld_mok M mw) {N : Nat} (hN : 2000 < N) :
    ∃ dk' rc' q' u' hh' qq' mw', lm_findMeet N dk G rc q u hh qq mw = some (dk', rc', q', u', hh', qq', mw') ∧ ¬ dk'.1 = 0 ∧ ¬ dk'.2 = 0 ∧ ld_pk q' 0 ∧ ld_pk qq' 0 ∧ ld_way M rc' u' ∧ ld_mok M mw' := by
  have hk := hr.1
  unfold lm_findMeet
  by_cases h : dk.2 = 0
  · obtain ⟨dk1, rc1, q1, u1, h1, h2, h3, h4, h5⟩ := ld_findWays hr hq hw hN
    have hz : ∀ p L, p < 120 → L < 128 → ld_mb (lf_mempty mw) p L = false := by
      intro p L hp hL
      unfold ld_mb lf_mempty
      rw [show ld_flL 240 0 mw (2 * p + L / 64) = 0 from if_pos (by omega)]
      exact BitVec.getLsbD_zero
    have hLp := ld_loop (f := ls_findMeet_1 N G) (fun v => ∃ j, v.1 = nI j ∧ j ≤ M.1 ∧ v.2.1 = dk1 ∧ v.2.2.1 = rc1 ∧ v.2.2.2.1 = q1 ∧ v.2.2.2.2.1 = u1 ∧ ld_pk v.2.2.2.2.2.2.1 0 ∧ ∀ p L, p < 120 → L < 128 → ld_mb v.2.2.2.2.2.2.2 p L = (decide (L < j) && ld_mt M p L)) (fun v => 121 - v.1.toNatClampNeg) (fun v => v.2.1 = dk1 ∧ v.2.2.1 = rc1 ∧ v.2.2.2.1 = q1 ∧ v.2.2.2.2.1 = u1 ∧ ld_pk v.2.2.2.2.2.2.1 0 ∧ ld_mok M v.2.2.2.2.2.2.2) ?_ N (0, dk1, rc1, q1, u1, hh, qq, lf_mempty mw) ⟨0, rfl, by omega, rfl, rfl, rfl, rfl, hqq, fun p L hp hL => by rw [hz p L hp hL, decide_eq_false (show ¬ L < 0 by omega), Bool.false_and]⟩ (by show 121 - _ < N; omega)
    · obtain ⟨Y, hY, e1, e2, e3, e4, e5, e6⟩ := hLp
      refine ⟨(Y.2.1.1, 1), Y.2.2.1, Y.2.2.2.1, Y.2.2.2.2.1, Y.2.2.2.2.2.1, Y.2.2.2.2.2.2.1, Y.2.2.2.2.2.2.2, ?_, ?_, (show ¬ (1 : Int32) = 0 from by decide), ?_, e5, ?_, e6⟩
      · rw [if_pos h, h1]
        show Option.bind (ld_it (ls_findMeet_1 N G) N (0, dk1, rc1, q1, u1, hh, qq, lf_mempty mw)) _ = _
        rw [hY]
        rfl
      · show ¬ Y.2.1.1 = 0
        rw [e1]; exact h2
      · rw [e3]; exact h4
      · rw [e2, e4]; exact h5
    · rintro ⟨pt, dk2, rc2, q2, u2, hh2, qq2, w⟩ ⟨j, a1, hj, a2, a3, a4, a5, a6, a7⟩
      have b1 : pt = nI j := a1
      have b2 : dk2 = dk1 := a2
      have b3 : rc2 = rc1 := a3
      have b4 : q2 = q1 := a4
      have b5 : u2 = u1 := a5
      have b6 : ld_pk qq2 0 := a6
      have b7 : ∀ p L, p < 120 → L < 128 → ld_mb w p L = (decide (L < j) && ld_mt M p L) := a7
      clear a1 a2 a3 a4 a5 a6 a7
      subst b1 b2 b3 b4 b5
      have eg : lf_gsize G = nI M.1 := hr.2.1
      have hmf : ∀ p L, ¬ L < M.1 → ld_mt M p L = false := by
        intro p L hL
        cases hz : ld_mt M p L with
        | false => rfl
        | true => exact absurd (ld_mt_iff.mp hz).1 hL
      by_cases hjk : j < M.1
      · left
        have e0 : ¬ nI M.1 ≤ nI j := nI_ge hjk (by omega)
        have hμ : 121 - (nI j + 1).toNatClampNeg < 121 - (nI j).toNatClampNeg := by
          rw [nI_1, nI_clamp (by omega), nI_clamp (by omega)]
          omega
        have hskip : (∀ p, ld_mt M p j = false) → ∀ p L, p < 120 → L < 128 → ld_mb w p L = (decide (L < j + 1) && ld_mt M p L) := by
          intro hf p L hp hL
          rw [b7 p L hp hL]
          by_cases e : L = j
          · subst e; rw [hf p, Bool.and_false, Bool.and_false]
          · congr 1
            exact decide_eq_decide.mpr ⟨fun z => by omega, fun z => by omega⟩
        by_cases hd : ld_d M j = 1
        · rcases h5.1 j (by omega) with hR | hR
          · have hnR : ¬ ld_sR M j = true := by
              intro z
              have := (h5.2.2.1 j hjk).mpr z
              rw [hR] at this
              exact absurd this (by decide)
            refine ⟨(nI j + 1, dk2, rc2, q2, u2, hh2, qq2, w), ?_, ⟨j + 1, nI_1 j, by omega, rfl, rfl, rfl, rfl, b6, hskip (fun p => ?_)⟩, hμ⟩
            · simp only [ls_findMeet_1, ld_lt]
              rw [eg, if_neg e0, ld_ln1 hr hjk, decide_eq_true hd, if_neg (by decide), ld_ct0 (by omega) hR, if_pos rfl]
            · cases hz : ld_mt M p j with
              | false => rfl
              | true => exact absurd (ld_mt_iff.mp hz).2.2.2.1 hnR
          · have hjR : ld_sR M j = true := (h5.2.2.1 j hjk).mp hR
            obtain ⟨hh3, qq3, f1, f2, f3, f4, f5⟩ := ld_follow hr hh2 qq2 b6 hjk hN
            have hB : ∀ p, p < M.1 → ∀ i, bt (hh3.2 p) i = ld_sB M j p i := by
              intro p hp i
              rw [f4 p hp i]
              unfold ld_sB
              congr 1
              funext z
              exact ld_sA_eq f3 hp z
            obtain ⟨w', g1, g2⟩ := ld_addMeet hr (dk := dk2) h5 hjk hd hjR hB (mw := w) (N := N) (by omega)
            refine ⟨(nI j + 1, dk2, rc2, q2, u2, hh3, qq3, w'), ?_, ⟨j + 1, nI_1 j, by omega, rfl, rfl, rfl, rfl, f2, fun p L hp hL => ?_⟩, hμ⟩
            · simp only [ls_findMeet_1, ld_lt]
              rw [eg, if_neg e0, ld_ln1 hr hjk, decide_eq_true hd, if_neg (by decide), ld_ct1 (by omega) hR, if_neg (by decide), f1]
              show Option.bind (lm_addMeet N dk2 G u2 hh3 w (nI j)) _ = _
              rw [g1]
              rfl
            · show ld_mb w' p L = _
              rw [g2 p L hp hL, b7 p L hp hL]
              by_cases e : L = j
              · subst e
                simp
              · rw [decide_eq_false e, Bool.false_and, Bool.or_false]
                congr 1
                exact decide_eq_decide.mpr ⟨fun z => by omega, fun z => by omega⟩
        · refine ⟨(nI j + 1, dk2, rc2, q2, u2, hh2, qq2, w), ?_, ⟨j + 1, nI_1 j, by omega, rfl, rfl, rfl, rfl, b6, hskip (fun p => ?_)⟩, hμ⟩
          · simp only [ls_findMeet_1, ld_lt]
            rw [eg, if_neg e0, ld_ln1 hr hjk, decide_eq_false hd, if_pos (by decide)]
          · cases hz : ld_mt M p j with
            | false => rfl
            | true => exact absurd (ld_mt_iff.mp hz).2.2.1 hd
      · right
        refine ⟨(nI j, dk2, rc2, q2, u2, hh2, qq2, w), ?_, rfl, rfl, rfl, rfl, b6, fun p L hp hL => ?_⟩
        · simp only [ls_findMeet_1, ld_lt]
          rw [eg, if_pos (show nI M.1 ≤ nI j from nI_le (by omega) (by omega))]
        · show ld_mb w p L = _
          rw [b7 p L hp hL]
          by_cases e : L < j
          · rw [decide_eq_true e, Bool.true_and]
          · rw [decide_eq_false e, Bool.false_and, hmf p L (by omega)]
  · obtain ⟨h1, h2⟩ := hm h
    exact ⟨dk, rc, q, u, hh, qq, mw, by rw [if_neg h], h1, h, hq, hqq, hw h1, h2⟩
