/-- POINT -/
theorem ld_apoint {M : ld_M} {dk : Int32 × Int32} {G : ld_gT} {rc : Nat → Int32} {q : ld_pT} {u : Nat → Int32} {qq : ld_pT} {mw : Nat → Int64} {fo : Int32 × Int32 × Int32} {fb : ld_bT} {fe : ld_eT} (hC : ld_CI M dk G rc q u qq mw) (hF : ld_FI M fo fb fe) (v0 v1 v2 v3 : Int32) {N : Nat} (hN : 4000 < N) :
    ∃ r dk' G' fo' fb', lm_point N dk G v0 v1 v2 v3 = some (r, dk', G') ∧ lm_fpoint N fo fb v0 v1 v2 v3 = some (r, fo', fb') ∧ ∃ M', ld_CI M' dk' G' rc q u qq mw ∧ ld_FI M' fo' fb' fe := by
  have hk := hC.1.1
  have hG : G.2.2.2.2.2.2 = nI M.1 := hC.1.2.1
  obtain ⟨r, y, h1, h2, h3, h4⟩ := ld_valid v0 v1 v2 v3 (fo := fo) (fb := fb) hF.1.2.1 hk (N := N) (by omega)
  by_cases hy : y = true ∧ M.1 < 120
  · rw [if_pos hy] at h3
    obtain ⟨d, a, b, c, hd, e0, ha, hb2, hb5, hc⟩ := h4 hy.1
    have hr0 : ¬ r = 0 := fun z => by
      have := h2.mp z
      rw [hy.1] at this
      cases this
    have hR : lf_hasRoom G = 1 := by
      unfold lf_hasRoom
      rw [hG, if_neg (show ¬ (120 : Int32) ≤ nI M.1 from nI_ge (b := 120) hy.2 (by omega))]
    subst e0
    refine ⟨nI M.1, (0, 0), (upd G.1 M.1 (nI d), upd G.2.1 M.1 v1, upd G.2.2.1 M.1 v2, upd G.2.2.2.1 M.1 v3, upd G.2.2.2.2.1 M.1 (nI (M.1 + 1)), upd G.2.2.2.2.2.1 M.1 (-1), nI (M.1 + 1)), _, _, ?_, h3, ld_Madd M d a b c, ⟨ld_rel_add hC.1 hy.2 hd ha hb2 hb5 hc, hC.2.1, hC.2.2.1, fun h => absurd rfl h, fun h => absurd rfl h⟩, ld_rel_add hF.1 hy.2 hd ha hb2 hb5 hc, fun h => absurd rfl h⟩
    unfold lm_point
    rw [h1]
    simp only [Option.bind_some, ld_lt]
    rw [if_neg hr0, hR, if_neg (by decide)]
    unfold lm_add
    simp only [ld_lt]
    rw [hR, if_neg (by decide), hG, if_pos (ld_in_nI hy.2 (by omega)), nI_clamp (by omega), nI_1]
    rfl
  · rw [if_neg hy] at h3
    refine ⟨-1, dk, G, fo, fb, ?_, h3, M, hC, hF⟩
    unfold lm_point
    rw [h1]
    simp only [Option.bind_some, ld_lt]
    by_cases hr0 : r = 0
    · rw [if_pos hr0]
    · have hR : lf_hasRoom G = 0 := by
        have : ¬ M.1 < 120 := fun z => hy ⟨by
          cases hz : y with
          | true => rfl
          | false => exact absurd (h2.mpr hz) hr0, z⟩
        unfold lf_hasRoom
        rw [hG, if_pos (show (120 : Int32) ≤ nI M.1 from nI_le (a := 120) (by omega) (by omega))]
      rw [if_neg hr0, hR, if_pos rfl]
/-! the least -/
def ld_lst (f : Nat → Bool) (w : Int32) (j : Nat) (r : Int32) : Prop := (r = ld_n1 ∧ ∀ L, j ≤ L → L < 120 → w < nI L → f L = false) ∨ ∃ L, j ≤ L ∧ L < 120 ∧ r = nI L ∧ w < nI L ∧ f L = true ∧ ∀ L', j ≤ L' → L' < L → w < nI L' → f L' = false
theorem ld_lst_u {f : Nat → Bool} {w r r' : Int32} {j : Nat} (h : ld_lst f w j r) (h' : ld_lst f w j r') : r = r' := by
  rcases h with ⟨e, h⟩ | ⟨L, hj, hL, e, hw, hf, hm⟩
  · rcases h' with ⟨e', h'⟩ | ⟨L', hj', hL', e', hw', hf', hm'⟩
    · rw [e, e']
    · exact absurd (h L' hj' hL' hw') (by rw [hf']; decide)
  · rcases h' with ⟨e', h'⟩ | ⟨L', hj', hL', e', hw', hf', hm'⟩
    · exact absurd (h' L hj hL hw) (by rw [hf]; decide)
    · rcases Nat.lt_trichotomy L L' with z | z | z
      · exact absurd (hm' L hj z hw) (by rw [hf]; decide)
      · rw [e, e', z]
      · exact absurd (hm L' hj' z hw') (by rw [hf']; decide)
theorem ld_lst_c {f g : Nat → Bool} {w r : Int32} {j : Nat} (h : ld_lst f w j r) (hfg : ∀ L, L < 120 → f L = g L) : ld_lst g w j r := by
  rcases h with ⟨e, h⟩ | ⟨L, hj, hL, e, hw, hf, hm⟩
  · exact Or.inl ⟨e, fun L a b c => by rw [← hfg L b]; exact h L a b c⟩
  · exact Or.inr ⟨L, hj, hL, e, hw, by rw [← hfg L hL]; exact hf, fun L' a b c => by rw [← hfg L' (by omega)]; exact hm L' a b c⟩
theorem ld_lst_s {f : Nat → Bool} {w r : Int32} {j : Nat} (h : ld_lst f w (j + 1) r) (hf : w < nI j → f j = false) : ld_lst f w j r := by
  have hx : ∀ L, j ≤ L → ¬ j + 1 ≤ L → w < nI L → f L = false := fun L a b c => by
    have : L = j := by omega
    subst this
    exact hf c
  rcases h with ⟨e, h⟩ | ⟨L, hj, hL, e, hw, hf2, hm⟩
  · refine Or.inl ⟨e, fun L a b c => ?_⟩
    by_cases z : j + 1 ≤ L
    · exact h L z b c
    · exact hx L a z c
  · refine Or.inr ⟨L, by omega, hL, e, hw, hf2, fun L' a b c => ?_⟩
    by_cases z : j + 1 ≤ L'
    · exact hm L' z b c
    · exact hx L' a z c
theorem ld_lst_n {f : Nat → Bool} {w : Int32} {j : Nat} (hj : j < 120) (hw : w < nI j) (hf : f j = true) : ld_lst f w j (nI j) := Or.inr ⟨j, Nat.le_refl j, hj, rfl, hw, hf, fun L' a b _ => absurd a (by omega)⟩
theorem ld_n1lt {j : Nat} (h : j < 2 ^ 31) : ld_n1 < nI j := by
  have hn : ld_n1.toInt = -1 := by decide
  rw [Int32.lt_iff_toInt_lt, nI_toInt h, hn]
  omega
theorem ld_least {mw : Nat → Int64} {p : Nat} (hp : p < 120) (w : Int32) {N : Nat} (hN : 200 < N) : ∃ r, lm_least N mw (nI p) w = some r ∧ ld_lst (ld_mb mw p) w 0 r := by
  have hLp := ld_loop (f := ls_least_1 mw (nI p) w) (fun v => ∃ j, v = nI j ∧ j ≤ 120 ∧ ∀ L, L < j → w < nI L → ld_mb mw p L = false) (fun v => 121 - v.toNatClampNeg) (fun v => ∃ r, ld_ex v (fun _ => some ld_n1) (fun R9 => some R9) = some r ∧ ld_lst (ld_mb mw p) w 0 r) ?_ N 0 ⟨0, rfl, by omega, fun L h => by omega⟩ (by show 121 - _ < N; omega)
  · obtain ⟨Y, hY, r, h1, h2⟩ := hLp
    refine ⟨r, ?_, h2⟩
    unfold lm_least
    rw [hY]
    exact h1
  · rintro v ⟨j, hj1, hj, hz⟩
    subst hj1
    by_cases hj2 : j < 120
    · have e0 : ¬ (120 : Int32) ≤ nI j := nI_ge (b := 120) hj2 (by omega)
      have hμ : 121 - (nI j + 1).toNatClampNeg < 121 - (nI j).toNatClampNeg := by
        rw [nI_1, nI_clamp (by omega), nI_clamp (by omega)]
        omega
      by_cases c : nI j ≤ w
      · left
        refine ⟨nI j + 1, ?_, ⟨j + 1, nI_1 j, by omega, fun L hL hw => ?_⟩, hμ⟩
        · simp only [ls_least_1, ld_lt]
          rw [if_neg e0, if_pos c]
        · by_cases e : L = j
          · rw [e] at hw
            exact absurd c (Int32.not_le.mpr hw)
          · exact hz L (by omega) hw
      · cases hb : ld_mb mw p j with
        | false =>
          left
          refine ⟨nI j + 1, ?_, ⟨j + 1, nI_1 j, by omega, fun L hL hw => ?_⟩, hμ⟩
          · simp only [ls_least_1, ld_lt]
            rw [if_neg e0, if_neg c, ld_isAt hp hj2, hb, if_pos (by decide)]
          · by_cases e : L = j
            · rw [e]
              exact hb
            · exact hz L (by omega) hw
        | true =>
          right
          refine ⟨.inr (nI j), ?_, nI j, rfl, Or.inr ⟨j, by omega, hj2, rfl, Int32.not_le.mp c, hb, fun L' _ h => hz L' h⟩⟩
          simp only [ls_least_1, ld_lt]
          rw [if_neg e0, if_neg c, ld_isAt hp hj2, hb, if_neg (by decide)]
    · right
      refine ⟨.inl (nI j), ?_, ld_n1, rfl, Or.inl ⟨rfl, fun L _ h => hz L (by omega)⟩⟩
      simp only [ls_least_1, ld_lt]
      rw [if_pos (show (120 : Int32) ≤ nI j from nI_le (a := 120) (by omega) (by omega))]
theorem ld_fMeU {M : ld_M} {fo : Int32 × Int32 × Int32} {fb : ld_bT} {fe : ld_eT} (hF : ld_FI M fo fb fe) (fs : ld_sT) {p L : Nat} (hp : p < M.1) (hL : L < M.1) {N : Nat} (hN : 4000 < N) : ∃ fo' fe' fs', lm_fmeets N fo fb fe fs (nI p) (nI L) = some (ld_bi (ld_mt M p L), fo', fe', fs') ∧ ¬ fo'.2.1 = 0 ∧ ld_FI M fo' fb fe' := by
  obtain ⟨fo', fe', fs', hl, hkn, hok, hf1, hF'⟩ := ld_FIl hF fs hN
  refine ⟨fo', fe', fs', ?_, hkn, hF'⟩
  rw [← ld_fMeK (fs := fs') hF'.1 hkn hok hp hL (N := N) (by omega)]
  unfold lm_fmeets
  rw [(ld_fsame hl hkn).1 (nI p)]
theorem ld_fmetL {M : ld_M} {fo : Int32 × Int32 × Int32} {fb : ld_bT} {fe : ld_eT} (hF : ld_FI M fo fb fe) (fs : ld_sT) {p : Nat} (hp : p < M.1) (w : Int32) {N : Nat} (hN : 4000 < N) : ∃ r fo' fe' fs', lm_fmet N fo fb fe fs (nI p) w = some (r, fo', fe', fs') ∧ ld_lst (ld_mt M p) w 0 r ∧ (¬ fo.2.1 = 0 → ¬ fo'.2.1 = 0) ∧ ld_FI M fo' fb fe' := by
  have hk := hF.1.1
  have hn : fo.1 = nI M.1 := hF.1.2.1
  have hmf : ∀ L, ¬ L < M.1 → ld_mt M p L = false := by
    intro L hL
    cases hz : ld_mt M p L with
    | false => rfl
    | true => exact absurd (ld_mt_iff.mp hz).1 hL
  have hLp := ld_loop (f := ls_fmet_1 N fb (nI p) w) (fun v => ∃ j, v.2.1 = nI j - 1 ∧ j ≤ M.1 ∧ ld_lst (ld_mt M p) w j v.1 ∧ (¬ fo.2.1 = 0 → ¬ v.2.2.1.2.1 = 0) ∧ ld_FI M v.2.2.1 fb v.2.2.2.1) (fun v => (v.2.1 + 1).toNatClampNeg) (fun v => ld_lst (ld_mt M p) w 0 v.1 ∧ (¬ fo.2.1 = 0 → ¬ v.2.2.1.2.1 = 0) ∧ ld_FI M v.2.2.1 fb v.2.2.2.1) ?_ N (ld_n1, fo.1 - 1, fo, fe, fs) ⟨M.1, by rw [hn], Nat.le_refl _, Or.inl ⟨rfl, fun L h _ _ => hmf L (by omega)⟩, id, hF⟩ (by show (fo.1 - 1 + 1).toNatClampNeg < N; rw [Int32.sub_add_cancel, hn, nI_clamp (by omega)]; omega)
  · obtain ⟨Y, hY, h1, h2, h3⟩ := hLp
    refine ⟨Y.1, Y.2.2.1, Y.2.2.2.1, Y.2.2.2.2, ?_, h1, h2, h3⟩
    simp only [lm_fmet, ld_lt]
    rw [ld_fp1 hn hk hp, if_neg (by decide), hY]
    rfl
  · rintro ⟨b, i, fo1, fe1, fs1⟩ ⟨j, a1, hj, a2, a3, a4⟩
    have b1 : i = nI j - 1 := a1
    have b2 : ld_lst (ld_mt M p) w j b := a2
    have b3 : ¬ fo.2.1 = 0 → ¬ fo1.2.1 = 0 := a3
    have b4 : ld_FI M fo1 fb fe1 := a4
    clear a1 a2 a3 a4
    cases j with
    | zero =>
      right
      refine ⟨(b, i, fo1, fe1, fs1), ?_, b2, b3, b4⟩
      simp only [ls_fmet_1]
      rw [b1, if_pos (by decide)]
    | succ j =>
      left
      rw [nI_pred] at b1
      subst b1
      have e0 : ¬ nI j < 0 := nI_pos (by omega)
      have hμ : (nI j - 1 + 1).toNatClampNeg < (nI j + 1).toNatClampNeg := by
        rw [Int32.sub_add_cancel, nI_1, nI_clamp (by omega), nI_clamp (by omega)]
        omega
      by_cases c : nI j ≤ w
      · refine ⟨(b, nI j - 1, fo1, fe1, fs1), ?_, ⟨j, rfl, by omega, ld_lst_s b2 (fun z => absurd c (Int32.not_le.mpr z)), b3, b4⟩, hμ⟩
        simp only [ls_fmet_1]
        rw [if_neg e0, if_pos c]
      · obtain ⟨fo2, fe2, fs2, m1, m2, m3⟩ := ld_fMeU b4 fs1 hp (show j < M.1 by omega) hN
        cases hz : ld_mt M p j with
        | false =>
          refine ⟨(b, nI j - 1, fo2, fe2, fs2), ?_, ⟨j, rfl, by omega, ld_lst_s b2 (fun _ => hz), fun _ => m2, m3⟩, hμ⟩
          simp only [ls_fmet_1]
          rw [if_neg e0, if_neg c, m1, hz]
          rfl
        | true =>
          refine ⟨(nI j, nI j - 1, fo2, fe2, fs2), ?_, ⟨j, rfl, by omega, ld_lst_n (by omega) (Int32.not_le.mp c) hz, fun _ => m2, m3⟩, hμ⟩
          simp only [ls_fmet_1]
          rw [if_neg e0, if_neg c, m1, hz]
          rfl
/-- MET -/
theorem ld_amet {M : ld_M} {dk : Int32 × Int32} {G : ld_gT} {rc : Nat → Int32} {q : ld_pT} {u : Nat → Int32} (hh : (Nat → Int32) × (Nat → Int32)) {qq : ld_pT} {mw : Nat → Int64} {fo : Int32 × Int32 × Int32} {fb : ld_bT} {fe : ld_eT} (hC : ld_CI M dk G rc q u qq mw) (hF : ld_FI M fo fb fe) (fs : ld_sT) (v w : Int32) {N : Nat} (hN : 4000 < N) :
    ∃ r dk' rc' q' u' hh' qq' mw' fo' fe' fs', lm_met N dk G rc q u hh qq mw v w = some (r, dk', rc', q', u', hh', qq', mw') ∧ lm_fmet N fo fb fe fs v w = some (r, fo', fe', fs') ∧ ld_CI M dk' G rc' q' u' qq' mw' ∧ ld_FI M fo' fb fe' := by
  obtain ⟨hr, hq, hqq, hw, hm⟩ := id hC
  have hk := hr.1
  rcases ld_pcase M hk v with ⟨p, hp, rfl⟩ | hv
  · obtain ⟨dk', rc', q', u', hh', qq', mw', h1, h2, h3, h4, h5, h6, h7⟩ := ld_findMeet hr (hh := hh) hq hqq hw hm (N := N) (by omega)
    obtain ⟨r, l1, l2⟩ := ld_least (mw := mw') (show p < 120 by omega) w (N := N) (by omega)
    obtain ⟨r', fo', fe', fs', f1, f2, f3, f4⟩ := ld_fmetL hF fs hp w hN
    have e : r' = r := ld_lst_u f2 (ld_lst_c l2 (fun L hL => h7 p L (by omega) (by omega)))
    subst e
    refine ⟨r', dk', rc', q', u', hh', qq', mw', fo', fe', fs', ?_, f1, ⟨hr, h4, h5, fun _ => h6, fun _ => ⟨h2, h7⟩⟩, f4⟩
    simp only [lm_met, ld_lt]
    rw [ld_pt1 hr hp, if_neg (by decide), h1]
    show Option.bind (lm_least N mw' (nI p) w) _ = _
    rw [l1]
    rfl
  · refine ⟨ld_n1, dk, rc, q, u, hh, qq, mw, fo, fe, fs, ?_, ?_, hC, hF⟩
    · simp only [lm_met, ld_lt]
      rw [ld_pt0 hr hv, if_pos rfl]
      rfl
    · simp only [lm_fmet, ld_lt]
      rw [ld_fp0 hF.1.2.1 hk hv, if_pos rfl]
