/-! the reference learns -/
theorem ld_fgoAll {fb : ld_bT} {n : Int32} {M : ld_M} (hr : ld_rel (ld_Gf fb n) M) {kn hg : Int32} {fe : ld_eT} {fs : ld_sT} {L : Nat} (hL : L < M.1) (hd : ld_d M L = 1) (hR : (fe.1 L = 0 ∨ fe.1 L = 1) ∧ (fe.1 L = 1 ↔ ld_sR M L = true)) (hz : ∀ p, p < M.1 → fe.2.2 (120 * L + p) = 0) {N : Nat} (hN : 4000 < N) :
    ∃ h' fe' fs', lm_fgoAll N (n, kn, hg) fb fe fs (nI L) = some ((n, kn, h'), fe', fs') ∧ fe'.1 = fe.1 ∧ fe'.2.1 = fe.2.1 ∧ (∀ p, p < M.1 → ∀ i, bt (fe'.2.2 (120 * L + p)) i = (ld_sR M L && ld_sB M L p i)) ∧ (∀ q, q < 14400 → (∀ p, p < M.1 → q ≠ 120 * L + p) → fe'.2.2 q = fe.2.2 q) := by
  have hk := hr.1
  have hn : n = nI M.1 := hr.2.1
  obtain ⟨s0, hf0, hz0⟩ := ld_fforget (fo := (n, kn, hg)) (fs := fs) hN
  obtain ⟨-, haL, -⟩ := hr.2.2 L hL
  obtain ⟨haL, eaL⟩ := haL (by omega) (by omega)
  have eaL : fb.2.1 L = nI (ld_a M L) := eaL
  have hz1 : ∀ j, j < 1920 → ¬ s0.2 j = 1 := fun j hj e => by rw [hz0 j hj] at e; exact absurd e (by decide)
  rcases hR.1 with h0 | h0
  · have hnR : ld_sR M L = false := by
      cases hz9 : ld_sR M L with
      | false => rfl
      | true =>
        have := hR.2.mpr hz9
        rw [h0] at this
        exact absurd this (by decide)
    refine ⟨0, fe, s0, ?_, rfl, rfl, fun p hp i => by rw [hz p hp, b_0, hnR]; rfl, fun q _ _ => rfl⟩
    unfold lm_fgoAll
    rw [hf0]
    show (if ld_in (nI L) 120 = true then (if fe.1 (nI L).toNatClampNeg = 0 then Option.bind (ld_it (ls_fgoAll_1 N fb (nI L)) N ((n, kn, 0), fe, s0)) _ else _) else none) = _
    obtain ⟨K, rfl⟩ : ∃ K, N = K + 1 := ⟨N - 1, by omega⟩
    have hst : ls_fgoAll_1 (K + 1) fb (nI L) ((n, kn, 0), fe, s0) = some (.inr ((n, kn, 0), fe, s0)) := by
      unfold ls_fgoAll_1
      rw [if_pos (show (0 : Int32) ≤ 0 from by decide)]
    rw [if_pos (ld_in_nI (by omega) (by omega)), nI_clamp (by omega), if_pos h0, ld_it_r hst]
    rfl
  · have hyR : ld_sR M L = true := hR.2.mp h0
    have hn1 : ((n, kn, 0) : Int32 × Int32 × Int32).1 = nI M.1 := hn
    obtain ⟨s1, c1, hm1, hk1, hs1, hq1, hi1, hu1, hc1⟩ := ld_fmeet (fo := (n, kn, 0)) (c := 0) hn1 hk (ld_fk_0 hz0) rfl (Or.inl ⟨hL, rfl, ld_fp1 hn1 hk hL⟩) haL N
    obtain ⟨fe', fs', hit, g1, g2, g3, g4⟩ := ld_fgo hr (kn := kn) (fe := fe) hL hd hyR hz hk1 (fun j hj => by
        rw [hs1 j hj]
        exact ⟨fun z => z.elim (fun y => absurd y (hz1 j hj)) (fun y => y.2), fun z => Or.inr ⟨hL, z⟩⟩) (fun j hj e1 => Classical.byContradiction (fun hni => hz1 j hj (hq1 j hj e1 hni).1)) hN
    refine ⟨0, fe', fs', ?_, g1, g2, fun p hp i => by rw [g3 p hp i, hyR, Bool.true_and], g4⟩
    unfold lm_fgoAll
    rw [hf0]
    show (if ld_in (nI L) 120 = true then (if fe.1 (nI L).toNatClampNeg = 0 then _ else Option.bind (lm_fmeet N (n, kn, 0) s0 (nI L) (fb.2.1 (nI L).toNatClampNeg)) _) else none) = _
    rw [if_pos (ld_in_nI (by omega) (by omega)), nI_clamp (by omega), if_neg (by rw [h0]; decide), eaL, hm1]
    show Option.bind (ld_it (ls_fgoAll_2 N fb (nI L)) N ((n, kn, nI c1), fe, s1)) _ = _
    rw [show ls_fgoAll_2 N fb (nI L) = ls_fgoAll_1 N fb (nI L) from rfl, hit]
    rfl
/-- what is learnt -/
def ld_fok (M : ld_M) (fe : ld_eT) : Prop := (∀ p, p < M.1 → (fe.1 p = 0 ∨ fe.1 p = 1) ∧ (fe.1 p = 1 ↔ ld_sR M p = true)) ∧ (∀ p, p < M.1 → ∀ i, bt (fe.2.1 p) i = ld_sU M p i) ∧ (∀ L p, L < M.1 → p < M.1 → ∀ i, bt (fe.2.2 (120 * L + p)) i = (decide (ld_d M L = 1) && (ld_sR M L && ld_sB M L p i)))
theorem ld_fl1 {n kn hg : Int32} {k : Nat} (hn : n = nI k) (hk : k ≤ 120) {fe : ld_eT} {fs : ld_sT} {N : Nat} (hN : 4000 < N) : ∃ t fe', ld_it ls_flearn_1 N (0, (n, kn, hg), fe, fs) = some (t, (n, kn, hg), fe', fs) ∧ (∀ p, p < k → fe'.1 p = 0 ∧ fe'.2.1 p = 0) ∧ fe'.2.2 = fe.2.2 := by
  have hL := ld_loop (f := ls_flearn_1) (fun v => ∃ t, v.1 = nI t ∧ t ≤ k ∧ v.2.1 = (n, kn, hg) ∧ v.2.2.2 = fs ∧ (∀ p, p < t → v.2.2.1.1 p = 0 ∧ v.2.2.1.2.1 p = 0) ∧ v.2.2.1.2.2 = fe.2.2) (fun v => 121 - v.1.toNatClampNeg) (fun v => v.2.1 = (n, kn, hg) ∧ v.2.2.2 = fs ∧ (∀ p, p < k → v.2.2.1.1 p = 0 ∧ v.2.2.1.2.1 p = 0) ∧ v.2.2.1.2.2 = fe.2.2) ?_ N (0, (n, kn, hg), fe, fs) ⟨0, rfl, by omega, rfl, rfl, fun p hp => by omega, rfl⟩ (by show 121 - _ < N; omega)
  · obtain ⟨Y, hY, h1, h2, h3, h4⟩ := hL
    refine ⟨Y.1, Y.2.2.1, ?_, h3, h4⟩
    rw [hY, ← h1, ← h2]
  · rintro ⟨tk, o, e, s⟩ ⟨t, a1, ht, a2, a3, a4, a5⟩
    have b1 : tk = nI t := a1
    have b2 : o = (n, kn, hg) := a2
    have b3 : s = fs := a3
    have b4 : ∀ p, p < t → e.1 p = 0 ∧ e.2.1 p = 0 := a4
    have b5 : e.2.2 = fe.2.2 := a5
    clear a1 a2 a3 a4 a5
    subst b1 b2 b3
    by_cases h : t < k
    · left
      refine ⟨(nI t + 1, (n, kn, hg), (upd e.1 t 0, upd e.2.1 t 0, e.2.2), s), ?_, ⟨t + 1, nI_1 t, by omega, rfl, rfl, fun p hp => ?_, b5⟩, ?_⟩
      · simp only [ls_flearn_1]
        rw [hn, if_neg (nI_ge h (by omega)), if_pos (ld_in_nI (by omega) (by omega)), nI_clamp (by omega)]
        rfl
      · show upd e.1 t 0 p = 0 ∧ upd e.2.1 t 0 p = 0
        by_cases e1 : p = t
        · rw [e1]; exact ⟨pk_us, pk_us⟩
        · rw [pk_un e1, pk_un e1]; exact b4 p (by omega)
      · show 121 - (nI t + 1).toNatClampNeg < 121 - (nI t).toNatClampNeg
        rw [nI_1, nI_clamp (by omega), nI_clamp (by omega)]
        omega
    · right
      refine ⟨(nI t, (n, kn, hg), e, s), ?_, rfl, rfl, fun p hp => b4 p (by omega), b5⟩
      simp only [ls_flearn_1]
      rw [hn, if_pos (nI_le (by omega) (by omega))]
theorem ld_sU_16 {G : ld_gT} {M : ld_M} (hr : ld_rel G M) {p i : Nat} (hi : 16 ≤ i) : ld_sU M p i = false := by
  have hA : ld_clU M (fun _ j => decide (j < 16)) := by
    intro p q j hp hnx hb
    rcases Nat.lt_or_ge j 16 with q1 | q1
    · exact decide_eq_true q1
    · rw [ld_uB_16 hr hnx.1 q1 (decide_eq_false (by omega))] at hb
      cases hb
  cases hq : ld_sU M p i with
  | false => rfl
  | true => exact absurd (of_decide_eq_true (ld_sU_iff.mp hq _ hA)) (by omega)
/-- one point's uses -/
theorem ld_fl6 {fb : ld_bT} {n : Int32} {M : ld_M} (hr : ld_rel (ld_Gf fb n) M) {kn hg : Int32} {fe : ld_eT} {fs : ld_sT} {p : Nat} (hp : p < M.1) (hz : fe.2.1 p = 0) {N : Nat} (hN : 4000 < N) (w1 : (Int32 × Int32 × Int32) × ld_eT × ld_sT) : ∃ t h' fe' fs', ld_it (ls_flearn_6 N fb (nI p, w1)) N (0, (n, kn, hg), fe, fs) = some (t, (n, kn, h'), fe', fs') ∧ fe'.1 = fe.1 ∧ fe'.2.2 = fe.2.2 ∧ (∀ i, bt (fe'.2.1 p) i = ld_sU M p i) ∧ (∀ q, q ≠ p → fe'.2.1 q = fe.2.1 q) := by
  have hk := hr.1
  have hL := ld_loop (f := ls_flearn_6 N fb (nI p, w1)) (fun v => ∃ t, v.1 = nI t ∧ t ≤ 16 ∧ (∃ h', v.2.1 = (n, kn, h')) ∧ v.2.2.1.1 = fe.1 ∧ v.2.2.1.2.2 = fe.2.2 ∧ (∀ i, i < 32 → bt (v.2.2.1.2.1 p) i = (decide (i < t) && ld_sU M p i)) ∧ (∀ q, q ≠ p → v.2.2.1.2.1 q = fe.2.1 q)) (fun v => 17 - v.1.toNatClampNeg) (fun v => (∃ h', v.2.1 = (n, kn, h')) ∧ v.2.2.1.1 = fe.1 ∧ v.2.2.1.2.2 = fe.2.2 ∧ (∀ i, bt (v.2.2.1.2.1 p) i = ld_sU M p i) ∧ (∀ q, q ≠ p → v.2.2.1.2.1 q = fe.2.1 q)) ?_ N (0, (n, kn, hg), fe, fs) ⟨0, rfl, by omega, ⟨hg, rfl⟩, rfl, rfl, fun i hi => by show bt (fe.2.1 p) i = _; rw [hz, b_0, decide_eq_false (show ¬ i < 0 by omega), Bool.false_and], fun q _ => rfl⟩ (by show 17 - _ < N; omega)
  · obtain ⟨Y, hY, ⟨h', h1⟩, h2, h3, h4, h5⟩ := hL
    refine ⟨Y.1, h', Y.2.2.1, Y.2.2.2, ?_, h2, h3, h4, h5⟩
    rw [hY, ← h1]
  · rintro ⟨tk, o, e, s⟩ ⟨t, a1, ht, ⟨h', a2⟩, a3, a4, a5, a6⟩
    have b1 : tk = nI t := a1
    have b2 : o = (n, kn, h') := a2
    have b3 : e.1 = fe.1 := a3
    have b4 : e.2.2 = fe.2.2 := a4
    have b5 : ∀ i, i < 32 → bt (e.2.1 p) i = (decide (i < t) && ld_sU M p i) := a5
    have b6 : ∀ q, q ≠ p → e.2.1 q = fe.2.1 q := a6
    clear a1 a2 a3 a4 a5 a6
    subst b1 b2
    by_cases h : t < 16
    · left
      obtain ⟨h2, s2, hu⟩ := ld_fused1 hr (kn := kn) (hg := h') (fs := s) hp h hN
      have e0 : ¬ (16 : Int32) ≤ nI t := nI_ge (b := 16) h (by omega)
      have hμ : 17 - (nI t + 1).toNatClampNeg < 17 - (nI t).toNatClampNeg := by
        rw [nI_1, nI_clamp (by omega), nI_clamp (by omega)]
        omega
      cases hz9 : ld_sU M p t with
      | false =>
        rw [hz9] at hu
        refine ⟨(nI t + 1, (n, kn, h2), (e.1, upd e.2.1 p (e.2.1 p), e.2.2), s2), ?_, ⟨t + 1, nI_1 t, by omega, ⟨h2, rfl⟩, b3, b4, fun i hi => ?_, fun q hq => ?_⟩, hμ⟩
        · simp only [ls_flearn_6]
          rw [if_neg e0, hu]
          show (if ld_in (nI p) 120 = true then some (Sum.inl (nI t + 1, (n, kn, h2), (e.1, upd e.2.1 (nI p).toNatClampNeg (e.2.1 (nI p).toNatClampNeg), e.2.2), s2)) else none) = _
          rw [if_pos (ld_in_nI (by omega) (by omega)), nI_clamp (by omega)]
        · show bt (upd e.2.1 p (e.2.1 p) p) i = _
          rw [pk_us, b5 i hi]
          by_cases e1 : i = t
          · subst e1; rw [hz9, Bool.and_false, Bool.and_false]
          · congr 1
            exact decide_eq_decide.mpr ⟨fun z => by omega, fun z => by omega⟩
        · show upd e.2.1 p (e.2.1 p) q = _
          rw [pk_un hq]; exact b6 q hq
      | true =>
        rw [hz9] at hu
        refine ⟨(nI t + 1, (n, kn, h2), (e.1, upd e.2.1 p (e.2.1 p ||| ((1 : Int32) <<< (nI t &&& 31))), e.2.2), s2), ?_, ⟨t + 1, nI_1 t, by omega, ⟨h2, rfl⟩, b3, b4, fun i hi => ?_, fun q hq => ?_⟩, hμ⟩
        · simp only [ls_flearn_6]
          rw [if_neg e0, hu]
          show (if ld_in (nI p) 120 = true then some (Sum.inl (nI t + 1, (n, kn, h2), (e.1, upd e.2.1 (nI p).toNatClampNeg ((e.2.1 (nI p).toNatClampNeg) ||| ((1 : Int32) <<< (nI t &&& 31))), e.2.2), s2)) else none) = _
          rw [if_pos (ld_in_nI (by omega) (by omega)), nI_clamp (by omega)]
        · show bt (upd e.2.1 p _ p) i = _
          rw [pk_us, b_or, b5 i hi, ld_bit h hi]
          by_cases e1 : i = t
          · subst e1; rw [hz9]; simp
          · rw [decide_eq_false e1, Bool.or_false]
            congr 1
            exact decide_eq_decide.mpr ⟨fun z => by omega, fun z => by omega⟩
        · show upd e.2.1 p _ q = _
          rw [pk_un hq]; exact b6 q hq
    · right
      refine ⟨(nI t, (n, kn, h'), e, s), ?_, ⟨h', rfl⟩, b3, b4, fun i => ?_, b6⟩
      · simp only [ls_flearn_6]
        rw [if_pos (show (16 : Int32) ≤ nI t from nI_le (a := 16) (by omega) (by omega))]
      · show bt (e.2.1 p) i = _
        rcases Nat.lt_or_ge i 32 with hi | hi
        · rw [b5 i hi]
          by_cases e1 : i < t
          · rw [decide_eq_true e1, Bool.true_and]
          · rw [decide_eq_false e1, Bool.false_and, ld_sU_16 hr (by omega)]
        · rw [b_big hi, ld_sU_16 hr (by omega)]
theorem ld_fl3 {fb : ld_bT} {n : Int32} {M : ld_M} (hr : ld_rel (ld_Gf fb n) M) {kn hg : Int32} {fe : ld_eT} {fs : ld_sT} (hz : ∀ p, p < M.1 → fe.2.1 p = 0) {N : Nat} (hN : 4000 < N) : ∃ t h' fe' fs', ld_it (ls_flearn_3 N fb) N (0, (n, kn, hg), fe, fs) = some (t, (n, kn, h'), fe', fs') ∧ fe'.1 = fe.1 ∧ fe'.2.2 = fe.2.2 ∧ (∀ p, p < M.1 → ∀ i, bt (fe'.2.1 p) i = ld_sU M p i) := by
  have hk := hr.1
  have hn : n = nI M.1 := hr.2.1
  have hL := ld_loop (f := ls_flearn_3 N fb) (fun v => ∃ t, v.1 = nI t ∧ t ≤ M.1 ∧ (∃ h', v.2.1 = (n, kn, h')) ∧ v.2.2.1.1 = fe.1 ∧ v.2.2.1.2.2 = fe.2.2 ∧ (∀ p, p < t → ∀ i, bt (v.2.2.1.2.1 p) i = ld_sU M p i) ∧ (∀ p, t ≤ p → p < M.1 → v.2.2.1.2.1 p = 0)) (fun v => 121 - v.1.toNatClampNeg) (fun v => (∃ h', v.2.1 = (n, kn, h')) ∧ v.2.2.1.1 = fe.1 ∧ v.2.2.1.2.2 = fe.2.2 ∧ (∀ p, p < M.1 → ∀ i, bt (v.2.2.1.2.1 p) i = ld_sU M p i)) ?_ N (0, (n, kn, hg), fe, fs) ⟨0, rfl, by omega, ⟨hg, rfl⟩, rfl, rfl, fun p hp => by omega, fun p _ hp => hz p hp⟩ (by show 121 - _ < N; omega)
  · obtain ⟨Y, hY, ⟨h', h1⟩, h2, h3, h4⟩ := hL
    refine ⟨Y.1, h', Y.2.2.1, Y.2.2.2, ?_, h2, h3, h4⟩
    rw [hY, ← h1]
  · rintro ⟨tk, o, e, s⟩ ⟨t, a1, ht, ⟨h', a2⟩, a3, a4, a5, a6⟩
    have b1 : tk = nI t := a1
    have b2 : o = (n, kn, h') := a2
    have b3 : e.1 = fe.1 := a3
    have b4 : e.2.2 = fe.2.2 := a4
    have b5 : ∀ p, p < t → ∀ i, bt (e.2.1 p) i = ld_sU M p i := a5
    have b6 : ∀ p, t ≤ p → p < M.1 → e.2.1 p = 0 := a6
    clear a1 a2 a3 a4 a5 a6
    subst b1 b2
    by_cases h : t < M.1
    · left
      obtain ⟨t6, h6, e6, s6, g1, g2, g3, g4, g5⟩ := ld_fl6 hr (kn := kn) (hg := h') (fe := e) (fs := s) h (b6 t (by omega) h) hN ((n, kn, h'), e, s)
      refine ⟨(nI t + 1, (n, kn, h6), e6, s6), ?_, ⟨t + 1, nI_1 t, by omega, ⟨h6, rfl⟩, g2.trans b3, g3.trans b4, fun p hp i => ?_, fun p h1 h2 => ?_⟩, ?_⟩
      · simp only [ls_flearn_3]
        rw [if_neg (show ¬ n ≤ nI t from by rw [hn]; exact nI_ge h (by omega)), g1]
        rfl
      · show bt (e6.2.1 p) i = _
        by_cases e1 : p = t
        · rw [e1]; exact g4 i
        · rw [g5 p e1]; exact b5 p (by omega) i
      · show e6.2.1 p = 0
        rw [g5 p (by omega)]; exact b6 p (by omega) h2
      · show 121 - (nI t + 1).toNatClampNeg < 121 - (nI t).toNatClampNeg
        rw [nI_1, nI_clamp (by omega), nI_clamp (by omega)]
        omega
    · right
      refine ⟨(nI t, (n, kn, h'), e, s), ?_, ⟨h', rfl⟩, b3, b4, fun p hp i => b5 p (by omega) i⟩
      simp only [ls_flearn_3]
      rw [if_pos (show n ≤ nI t from by rw [hn]; exact nI_le (by omega) (by omega))]
theorem ld_fl5 {n kn hg : Int32} {k : Nat} (hn : n = nI k) (hk : k ≤ 120) {fe : ld_eT} {fs : ld_sT} {L : Nat} (hL : L < k) {N : Nat} (hN : 4000 < N) (w1 : (Int32 × Int32 × Int32) × ld_eT × ld_sT) : ∃ t fe', ld_it (ls_flearn_5 (nI L, w1)) N (0, (n, kn, hg), fe, fs) = some (t, (n, kn, hg), fe', fs) ∧ fe'.1 = fe.1 ∧ fe'.2.1 = fe.2.1 ∧ (∀ p, p < k → fe'.2.2 (120 * L + p) = 0) ∧ (∀ q, (∀ p, p < k → q ≠ 120 * L + p) → fe'.2.2 q = fe.2.2 q) := by
  have hLp := ld_loop (f := ls_flearn_5 (nI L, w1)) (fun v => ∃ t, v.1 = nI t ∧ t ≤ k ∧ v.2.1 = (n, kn, hg) ∧ v.2.2.2 = fs ∧ v.2.2.1.1 = fe.1 ∧ v.2.2.1.2.1 = fe.2.1 ∧ (∀ p, p < t → v.2.2.1.2.2 (120 * L + p) = 0) ∧ (∀ q, (∀ p, p < k → q ≠ 120 * L + p) → v.2.2.1.2.2 q = fe.2.2 q)) (fun v => 121 - v.1.toNatClampNeg) (fun v => v.2.1 = (n, kn, hg) ∧ v.2.2.2 = fs ∧ v.2.2.1.1 = fe.1 ∧ v.2.2.1.2.1 = fe.2.1 ∧ (∀ p, p < k → v.2.2.1.2.2 (120 * L + p) = 0) ∧ (∀ q, (∀ p, p < k → q ≠ 120 * L + p) → v.2.2.1.2.2 q = fe.2.2 q)) ?_ N (0, (n, kn, hg), fe, fs) ⟨0, rfl, by omega, rfl, rfl, rfl, rfl, fun p hp => by omega, fun q _ => rfl⟩ (by show 121 - _ < N; omega)
  · obtain ⟨Y, hY, h1, h2, h3, h4, h5, h6⟩ := hLp
    refine ⟨Y.1, Y.2.2.1, ?_, h3, h4, h5, h6⟩
    rw [hY, ← h1, ← h2]
  · rintro ⟨tk, o, e, s⟩ ⟨t, a1, ht, a2, a3, a4, a5, a6, a7⟩
    have b1 : tk = nI t := a1
    have b2 : o = (n, kn, hg) := a2
    have b3 : s = fs := a3
    have b4 : e.1 = fe.1 := a4
    have b5 : e.2.1 = fe.2.1 := a5
    have b6 : ∀ p, p < t → e.2.2 (120 * L + p) = 0 := a6
    have b7 : ∀ q, (∀ p, p < k → q ≠ 120 * L + p) → e.2.2 q = fe.2.2 q := a7
    clear a1 a2 a3 a4 a5 a6 a7
    subst b1 b2 b3
    by_cases h : t < k
    · left
      have ei : (120 : Int32) * nI L + nI t = nI (120 * L + t) := by rw [show (120 : Int32) * nI L = nI (120 * L) from pk_mul 120 L, nI_add]
      refine ⟨(nI t + 1, (n, kn, hg), (e.1, e.2.1, upd e.2.2 (120 * L + t) 0), s), ?_, ⟨t + 1, nI_1 t, by omega, rfl, rfl, b4, b5, fun p hp => ?_, fun q hq => ?_⟩, ?_⟩
      · simp only [ls_flearn_5]
        rw [if_neg (show ¬ n ≤ nI t from by rw [hn]; exact nI_ge h (by omega)), ei, if_pos (ld_in_nI (by omega) (by omega)), nI_clamp (by omega)]
      · show upd e.2.2 (120 * L + t) 0 (120 * L + p) = 0
        by_cases e1 : p = t
        · rw [e1]; exact pk_us
        · rw [pk_un (by omega)]; exact b6 p (by omega)
      · show upd e.2.2 (120 * L + t) 0 q = _
        rw [pk_un (hq t h)]; exact b7 q hq
      · show 121 - (nI t + 1).toNatClampNeg < 121 - (nI t).toNatClampNeg
        rw [nI_1, nI_clamp (by omega), nI_clamp (by omega)]
        omega
    · right
      refine ⟨(nI t, (n, kn, hg), e, s), ?_, rfl, rfl, b4, b5, fun p hp => b6 p (by omega), b7⟩
      simp only [ls_flearn_5]
      rw [if_pos (show n ≤ nI t from by rw [hn]; exact nI_le (by omega) (by omega))]
theorem ld_fl4 {fb : ld_bT} {n : Int32} {M : ld_M} (hr : ld_rel (ld_Gf fb n) M) {kn hg : Int32} {fe : ld_eT} {fs : ld_sT} (hR : ∀ p, p < M.1 → (fe.1 p = 0 ∨ fe.1 p = 1) ∧ (fe.1 p = 1 ↔ ld_sR M p = true)) {N : Nat} (hN : 4000 < N) : ∃ t h' fe' fs', ld_it (ls_flearn_4 N fb) N (0, (n, kn, hg), fe, fs) = some (t, (n, kn, h'), fe', fs') ∧ fe'.1 = fe.1 ∧ fe'.2.1 = fe.2.1 ∧ (∀ L p, L < M.1 → p < M.1 → ∀ i, bt (fe'.2.2 (120 * L + p)) i = (decide (ld_d M L = 1) && (ld_sR M L && ld_sB M L p i))) := by
  have hk := hr.1
  have hn : n = nI M.1 := hr.2.1
  have hLp := ld_loop (f := ls_flearn_4 N fb) (fun v => ∃ t, v.1 = nI t ∧ t ≤ M.1 ∧ (∃ h', v.2.1 = (n, kn, h')) ∧ v.2.2.1.1 = fe.1 ∧ v.2.2.1.2.1 = fe.2.1 ∧ (∀ L p, L < t → p < M.1 → ∀ i, bt (v.2.2.1.2.2 (120 * L + p)) i = (decide (ld_d M L = 1) && (ld_sR M L && ld_sB M L p i)))) (fun v => 121 - v.1.toNatClampNeg) (fun v => (∃ h', v.2.1 = (n, kn, h')) ∧ v.2.2.1.1 = fe.1 ∧ v.2.2.1.2.1 = fe.2.1 ∧ (∀ L p, L < M.1 → p < M.1 → ∀ i, bt (v.2.2.1.2.2 (120 * L + p)) i = (decide (ld_d M L = 1) && (ld_sR M L && ld_sB M L p i)))) ?_ N (0, (n, kn, hg), fe, fs) ⟨0, rfl, by omega, ⟨hg, rfl⟩, rfl, rfl, fun L p hL => by omega⟩ (by show 121 - _ < N; omega)
  · obtain ⟨Y, hY, ⟨h', h1⟩, h2, h3, h4⟩ := hLp
    refine ⟨Y.1, h', Y.2.2.1, Y.2.2.2, ?_, h2, h3, h4⟩
    rw [hY, ← h1]
  · rintro ⟨tk, o, e, s⟩ ⟨t, a1, ht, ⟨h', a2⟩, a3, a4, a5⟩
    have b1 : tk = nI t := a1
    have b2 : o = (n, kn, h') := a2
    have b3 : e.1 = fe.1 := a3
    have b4 : e.2.1 = fe.2.1 := a4
    have b5 : ∀ L p, L < t → p < M.1 → ∀ i, bt (e.2.2 (120 * L + p)) i = (decide (ld_d M L = 1) && (ld_sR M L && ld_sB M L p i)) := a5
    clear a1 a2 a3 a4 a5
    subst b1 b2
    by_cases h : t < M.1
    · left
      obtain ⟨t5, e5, g1, g2, g3, g4, g5⟩ := ld_fl5 hn hk (kn := kn) (hg := h') (fe := e) (fs := s) h hN ((n, kn, h'), e, s)
      obtain ⟨⟨hd7, ed⟩, -⟩ := hr.2.2 t h
      have ed : fb.1 t = nI (ld_d M t) := ed
      have hμ : 121 - (nI t + 1).toNatClampNeg < 121 - (nI t).toNatClampNeg := by
        rw [nI_1, nI_clamp (by omega), nI_clamp (by omega)]
        omega
      have e0 : ¬ n ≤ nI t := by rw [hn]; exact nI_ge h (by omega)
      by_cases hd : ld_d M t = 1
      · have hR5 : (e5.1 t = 0 ∨ e5.1 t = 1) ∧ (e5.1 t = 1 ↔ ld_sR M t = true) := by rw [g2, b3]; exact hR t h
        obtain ⟨h7, e7, s7, k1, k2, k3, k4, k5⟩ := ld_fgoAll hr (kn := kn) (hg := h') (fe := e5) (fs := s) h hd hR5 g4 hN
        refine ⟨(nI t + 1, (n, kn, h7), e7, s7), ?_, ⟨t + 1, nI_1 t, by omega, ⟨h7, rfl⟩, k2.trans (g2.trans b3), k3.trans (g3.trans b4), fun L p hL hp i => ?_⟩, hμ⟩
        · simp only [ls_flearn_4]
          rw [if_neg e0, g1]
          show (if ld_in (nI t) 120 = true then (if fb.1 (nI t).toNatClampNeg = 1 then Option.bind (lm_fgoAll N (n, kn, h') fb e5 s (nI t)) _ else _) else none) = _
          rw [if_pos (ld_in_nI (by omega) (by omega)), nI_clamp (by omega), ed, if_pos (show nI (ld_d M t) = (1 : Int32) from by rw [hd]; rfl), k1]
          rfl
        · show bt (e7.2.2 (120 * L + p)) i = _
          by_cases e1 : L = t
          · subst e1; rw [k4 p hp i, decide_eq_true hd, Bool.true_and]
          · rw [k5 _ (by omega) (fun q hq => by omega), g5 _ (fun q hq => by omega)]
            exact b5 L p (by omega) hp i
      · refine ⟨(nI t + 1, (n, kn, h'), e5, s), ?_, ⟨t + 1, nI_1 t, by omega, ⟨h', rfl⟩, g2.trans b3, g3.trans b4, fun L p hL hp i => ?_⟩, hμ⟩
        · simp only [ls_flearn_4]
          rw [if_neg e0, g1]
          show (if ld_in (nI t) 120 = true then (if fb.1 (nI t).toNatClampNeg = 1 then _ else some (Sum.inl (nI t + 1, (n, kn, h'), e5, s))) else none) = _
          rw [if_pos (ld_in_nI (by omega) (by omega)), nI_clamp (by omega), ed, if_neg (show ¬ nI (ld_d M t) = (1 : Int32) from fun z => hd ((nI_eq (b := 1) (by omega) (by omega)).mp z))]
        · show bt (e5.2.2 (120 * L + p)) i = _
          by_cases e1 : L = t
          · subst e1; rw [g4 p hp, b_0, decide_eq_false hd, Bool.false_and]
          · rw [g5 _ (fun q hq => by omega)]
            exact b5 L p (by omega) hp i
    · right
      refine ⟨(nI t, (n, kn, h'), e, s), ?_, ⟨h', rfl⟩, b3, b4, fun L p hL hp i => b5 L p (by omega) hp i⟩
      simp only [ls_flearn_4]
      rw [if_pos (show n ≤ nI t from by rw [hn]; exact nI_le (by omega) (by omega))]
theorem ld_flearn {fo : Int32 × Int32 × Int32} {fb : ld_bT} {fe : ld_eT} {fs : ld_sT} {M : ld_M} (hr : ld_rel (ld_Gf fb fo.1) M) (hok : ¬ fo.2.1 = 0 → ld_fok M fe) {N : Nat} (hN : 4000 < N) : ∃ kn h' fe' fs', lm_flearn N fo fb fe fs = some ((fo.1, kn, h'), fe', fs') ∧ ¬ kn = 0 ∧ ld_fok M fe' := by
  have hk := hr.1
  have hn : fo.1 = nI M.1 := hr.2.1
  unfold lm_flearn
  by_cases h : fo.2.1 = 0
  · obtain ⟨s0, hf0, hz0⟩ := ld_fforget (fo := (fo.1, 1, fo.2.2)) (fs := fs) hN
    have hz1 : ∀ j, j < 1920 → ¬ s0.2 j = 1 := fun j hj e => by rw [hz0 j hj] at e; exact absurd e (by decide)
    have hn1 : ((fo.1, 1, 0) : Int32 × Int32 × Int32).1 = nI M.1 := hn
    have hv0 : (0 < M.1 ∧ (0 : Int32) = nI 0 ∧ lf_fIsPoint (fo.1, 1, 0) 0 = 1) ∨ (¬ 0 < M.1 ∧ lf_fIsPoint (fo.1, 1, 0) 0 = 0) := by
      by_cases h0 : 0 < M.1
      · exact Or.inl ⟨h0, nI_0.symm, ld_fp1 hn1 hk h0⟩
      · exact Or.inr ⟨h0, ld_fp0 hn1 hk (fun j hj => absurd hj (by omega))⟩
    obtain ⟨s1, c1, hm1, hk1, hs1, hq1, hi1, hu1, hc1⟩ := ld_fmeet (fo := (fo.1, 1, 0)) (c := 0) hn1 hk (ld_fk_0 hz0) rfl hv0 (r := 0) (by omega) N
    obtain ⟨t2, e2, g1, g2, g3⟩ := ld_fl1 (n := fo.1) (kn := 1) (hg := nI c1) hn hk (fe := fe) (fs := s1) hN
    obtain ⟨e3, s3, k1, k2, k3⟩ := ld_freach hr (kn := 1) (fe := e2) (fs := s1) (c := c1) (fun p hp => (g2 p hp).1) hk1 (fun j hj => by
      rw [hs1 j hj]
      exact ⟨fun z => z.elim (fun y => absurd y (hz1 j hj)) (fun y => ⟨y.1, by omega⟩), fun z => Or.inr ⟨z.1, by omega⟩⟩) (fun j hj e1 => Classical.byContradiction (fun hni => hz1 j hj (hq1 j hj e1 hni).1)) hN
    obtain ⟨t4, h4, e4, s4, l1, l2, l3, l4⟩ := ld_fl3 hr (kn := 1) (hg := 0) (fe := e3) (fs := s3) (fun p hp => by rw [k2]; exact (g2 p hp).2) hN
    obtain ⟨t5, h5, e5, s5, m1, m2, m3, m4⟩ := ld_fl4 hr (kn := 1) (hg := h4) (fe := e4) (fs := s4) (fun p hp => by rw [l2]; exact k3 p hp) hN
    refine ⟨1, h5, e5, s5, ?_, by decide, fun p hp => ?_, fun p hp i => ?_, m4⟩
    · rw [if_pos h, hf0]
      show Option.bind (lm_fmeet N (fo.1, 1, 0) s0 0 0) _ = _
      have hm1 : lm_fmeet N (fo.1, 1, 0) s0 0 0 = _ := hm1
      rw [hm1]
      show Option.bind (ld_it ls_flearn_1 N (0, (fo.1, 1, nI c1), fe, s1)) _ = _
      rw [g1]
      show Option.bind (ld_it (ls_flearn_2 N fb) N ((fo.1, 1, nI c1), e2, s1)) _ = _
      rw [k1]
      show Option.bind (ld_it (ls_flearn_3 N fb) N (0, (fo.1, 1, 0), e3, s3)) _ = _
      rw [l1]
      show Option.bind (ld_it (ls_flearn_4 N fb) N (0, (fo.1, 1, h4), e4, s4)) _ = _
      rw [m1]
      rfl
    · rw [m2, l2]; exact k3 p hp
    · rw [m3]; exact l4 p hp i
  · refine ⟨fo.2.1, fo.2.2, fe, fs, by rw [if_neg h], h, hok h⟩
