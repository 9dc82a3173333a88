/-! the reading calls -/
theorem ld_fsame {fo fo' : Int32 × Int32 × Int32} {fb : ld_bT} {fe fe' : ld_eT} {fs fs' : ld_sT} {N : Nat} (h : lm_flearn N fo fb fe fs = some (fo', fe', fs')) (hk : ¬ fo'.2.1 = 0) : (∀ v, lm_fIsReached N fo fb fe fs v = lm_fIsReached N fo' fb fe' fs' v) ∧ (∀ v w, lm_fholders N fo fb fe fs v w = lm_fholders N fo' fb fe' fs' v w) ∧ (∀ v, lm_fused N fo fb fe fs v = lm_fused N fo' fb fe' fs' v) := by
  refine ⟨fun v => ?_, fun v w => ?_, fun v => ?_⟩
  · unfold lm_fIsReached; rw [h, ld_flk hk]
  · unfold lm_fholders; rw [h, ld_flk hk]
  · unfold lm_fused; rw [h, ld_flk hk]
/-- after learning -/
theorem ld_FIl {M : ld_M} {fo : Int32 × Int32 × Int32} {fb : ld_bT} {fe : ld_eT} (hF : ld_FI M fo fb fe) (fs : ld_sT) {N : Nat} (hN : 4000 < N) : ∃ fo' fe' fs', lm_flearn N fo fb fe fs = some (fo', fe', fs') ∧ ¬ fo'.2.1 = 0 ∧ ld_fok M fe' ∧ fo'.1 = fo.1 ∧ ld_FI M fo' fb fe' := by
  obtain ⟨kn, h', fe', fs', h1, h2, h3⟩ := ld_flearn hF.1 (fs := fs) hF.2 hN
  exact ⟨(fo.1, kn, h'), fe', fs', h1, h2, h3, rfl, hF.1, fun _ => h3⟩
theorem ld_fRe0 {M : ld_M} {fo : Int32 × Int32 × Int32} {fb : ld_bT} {fe : ld_eT} {fs : ld_sT} (hr : ld_rel (ld_Gf fb fo.1) M) (hk : ¬ fo.2.1 = 0) {v : Int32} (hv : ∀ j, j < M.1 → v ≠ nI j) (N : Nat) : lm_fIsReached N fo fb fe fs v = some (0, fo, fe, fs) ∧ (∀ w, lm_fholders N fo fb fe fs v w = some (0, fo, fe, fs)) ∧ lm_fused N fo fb fe fs v = some (0, fo, fe, fs) := by
  have h0 := ld_fp0 hr.2.1 hr.1 hv
  refine ⟨?_, fun w => ?_, ?_⟩
  · unfold lm_fIsReached
    rw [ld_flk hk]
    simp only [Option.bind_some, ld_lt]
    rw [h0, if_pos rfl]
  · unfold lm_fholders
    rw [ld_flk hk]
    simp only [Option.bind_some, ld_lt]
    rw [h0, if_pos rfl]
  · unfold lm_fused
    rw [ld_flk hk]
    simp only [Option.bind_some, ld_lt]
    rw [h0, if_pos rfl]
theorem ld_pcase (M : ld_M) (hk : M.1 ≤ 120) (v : Int32) : (∃ p, p < M.1 ∧ v = nI p) ∨ (∀ j, j < M.1 → v ≠ nI j) := by
  by_cases h : ∃ p, p < M.1 ∧ v = nI p
  · exact Or.inl h
  · exact Or.inr (fun j hj e => h ⟨j, hj, e⟩)
/-- IS REACHED -/
theorem ld_areach {M : ld_M} {dk : Int32 × Int32} {G : ld_gT} {rc : Nat → Int32} {q : ld_pT} {u : Nat → Int32} {qq : ld_pT} {mw : Nat → Int64} {fo : Int32 × Int32 × Int32} {fb : ld_bT} {fe : ld_eT} (hC : ld_CI M dk G rc q u qq mw) (hF : ld_FI M fo fb fe) (fs : ld_sT) (v : Int32) {N : Nat} (hN : 4000 < N) :
    ∃ r dk' rc' q' u' fo' fe' fs', lm_isReached N dk G rc q u v = some (r, dk', rc', q', u') ∧ lm_fIsReached N fo fb fe fs v = some (r, fo', fe', fs') ∧ ld_CI M dk' G rc' q' u' qq mw ∧ ld_FI M fo' fb fe' := by
  obtain ⟨hr, hq, hqq, hw, hm⟩ := id hC
  have hk := hr.1
  obtain ⟨fo', fe', fs', hl, hkn, hok, hf1, hF'⟩ := ld_FIl hF fs hN
  have hsm := (ld_fsame hl hkn).1 v
  rcases ld_pcase M hk v with ⟨p, hp, rfl⟩ | hv
  · obtain ⟨dk', rc', q', u', h1, h2, h3, h4, h5⟩ := ld_findWays hr hq hw (N := N) (by omega)
    refine ⟨ld_bi (ld_sR M p), dk', rc', q', u', fo', fe', fs', ?_, by rw [hsm]; exact ld_fReK hF'.1 hkn hok hp N, ⟨hr, h4, hqq, fun _ => h5, fun z => ?_⟩, hF'⟩
    · simp only [lm_isReached, ld_lt]
      rw [ld_pt1 hr hp, if_neg (by decide), h1]
      show some (lf_comesTo rc' (nI p), dk', rc', q', u') = _
      rcases h5.1 p (by omega) with h | h
      · have : ld_sR M p = false := by
          cases hz : ld_sR M p with
          | false => rfl
          | true =>
            have := (h5.2.2.1 p hp).mpr hz
            rw [h] at this
            exact absurd this (by decide)
        rw [ld_ct0 (by omega) h, this]
        rfl
      · rw [ld_ct1 (by omega) h, (h5.2.2.1 p hp).mp h]
        rfl
    · rw [h3] at z
      exact ⟨h2, (hm z).2⟩
  · refine ⟨0, dk, rc, q, u, fo', fe', fs', ?_, by rw [hsm]; exact (ld_fRe0 hF'.1 hkn hv N).1, hC, hF'⟩
    simp only [lm_isReached, ld_lt]
    rw [ld_pt0 hr hv, if_pos rfl]
/-- USED -/
theorem ld_aused {M : ld_M} {dk : Int32 × Int32} {G : ld_gT} {rc : Nat → Int32} {q : ld_pT} {u : Nat → Int32} {qq : ld_pT} {mw : Nat → Int64} {fo : Int32 × Int32 × Int32} {fb : ld_bT} {fe : ld_eT} (hC : ld_CI M dk G rc q u qq mw) (hF : ld_FI M fo fb fe) (fs : ld_sT) (v : Int32) {N : Nat} (hN : 4000 < N) :
    ∃ r dk' rc' q' u' fo' fe' fs', lm_used N dk G rc q u v = some (r, dk', rc', q', u') ∧ lm_fused N fo fb fe fs v = some (r, fo', fe', fs') ∧ ld_CI M dk' G rc' q' u' qq mw ∧ ld_FI M fo' fb fe' := by
  obtain ⟨hr, hq, hqq, hw, hm⟩ := id hC
  have hk := hr.1
  obtain ⟨fo', fe', fs', hl, hkn, hok, hf1, hF'⟩ := ld_FIl hF fs hN
  have hsm := (ld_fsame hl hkn).2.2 v
  rcases ld_pcase M hk v with ⟨p, hp, rfl⟩ | hv
  · obtain ⟨dk', rc', q', u', h1, h2, h3, h4, h5⟩ := ld_findWays hr hq hw (N := N) (by omega)
    refine ⟨u' p, dk', rc', q', u', fo', fe', fs', ?_, ?_, ⟨hr, h4, hqq, fun _ => h5, fun z => ?_⟩, hF'⟩
    · simp only [lm_used, ld_lt]
      rw [ld_pt1 hr hp, if_neg (by decide), h1]
      show some (lf_ubehind u' (nI p), dk', rc', q', u') = _
      rw [ld_ubh (by omega)]
    · rw [hsm, ld_fUsK hF'.1 hkn hp N]
      have : fe'.2.1 p = u' p := b_ext (fun i _ => by rw [hok.2.1 p hp i, h5.2.2.2 p hp i])
      rw [this]
    · rw [h3] at z
      exact ⟨h2, (hm z).2⟩
  · refine ⟨0, dk, rc, q, u, fo', fe', fs', ?_, by rw [hsm]; exact (ld_fRe0 hF'.1 hkn hv N).2.2, hC, hF'⟩
    simp only [lm_used, ld_lt]
    rw [ld_pt0 hr hv, if_pos rfl]
/-- HOLDERS -/
theorem ld_aholders {M : ld_M} {dk : Int32 × Int32} {G : ld_gT} {rc : Nat → Int32} {q : ld_pT} {u : Nat → Int32} (hh : (Nat → Int32) × (Nat → Int32)) {qq : ld_pT} {mw : Nat → Int64} {fo : Int32 × Int32 × Int32} {fb : ld_bT} {fe : ld_eT} (hC : ld_CI M dk G rc q u qq mw) (hF : ld_FI M fo fb fe) (fs : ld_sT) (v w : Int32) {N : Nat} (hN : 4000 < N) :
    ∃ r dk' rc' q' u' hh' qq' fo' fe' fs', lm_holders N dk G rc q u hh qq v w = some (r, dk', rc', q', u', hh', qq') ∧ lm_fholders N fo fb fe fs v w = some (r, fo', fe', fs') ∧ ld_CI M dk' G rc' q' u' qq' mw ∧ ld_FI M fo' fb fe' := by
  obtain ⟨hr, hq, hqq, hw, hm⟩ := id hC
  have hk := hr.1
  obtain ⟨fo', fe', fs', hl, hkn, hok, hf1, hF'⟩ := ld_FIl hF fs hN
  have hsm := (ld_fsame hl hkn).2.1 v w
  rcases ld_pcase M hk v with ⟨p, hp, rfl⟩ | hv
  · rcases ld_pcase M hk w with ⟨L, hL, rfl⟩ | hv
    · have hHo := ld_fHoK (fe := fe') (fs := fs') hF'.1 hkn hp hL N
      have hbits := hok.2.2 L p hL hp
      by_cases hd : ld_d M L = 1
      · obtain ⟨dk', rc', q', u', h1, h2, h3, h4, h5⟩ := ld_findWays hr hq hw (N := N) (by omega)
        rcases h5.1 L (by omega) with h | h
        · have hnR : ld_sR M L = false := by
            cases hz : ld_sR M L with
            | false => rfl
            | true =>
              have := (h5.2.2.1 L hL).mpr hz
              rw [h] at this
              exact absurd this (by decide)
          refine ⟨0, dk', rc', q', u', hh, qq, fo', fe', fs', ?_, ?_, ⟨hr, h4, hqq, fun _ => h5, fun z => ?_⟩, hF'⟩
          · simp only [lm_holders, ld_lt]
            rw [ld_pt1 hr hp, if_neg (by decide), ld_ln1 hr hL, decide_eq_true hd, if_neg (by decide), h1]
            show (if lf_comesTo rc' (nI L) = 0 then some (0, dk', rc', q', u', hh, qq) else _) = _
            rw [ld_ct0 (by omega) h, if_pos rfl]
          · rw [hsm, hHo]
            have : fe'.2.2 (120 * L + p) = 0 := b_ext (fun i _ => by rw [hbits i, hnR, b_0]; simp)
            rw [this]
          · rw [h3] at z
            exact ⟨h2, (hm z).2⟩
        · have hyR : ld_sR M L = true := (h5.2.2.1 L hL).mp h
          obtain ⟨hh3, qq3, f1, f2, f3, f4, f5⟩ := ld_follow hr hh qq hqq hL (N := N) (by omega)
          refine ⟨hh3.2 p, dk', rc', q', u', hh3, qq3, fo', fe', fs', ?_, ?_, ⟨hr, h4, f2, fun _ => h5, fun z => ?_⟩, hF'⟩
          · simp only [lm_holders, ld_lt]
            rw [ld_pt1 hr hp, if_neg (by decide), ld_ln1 hr hL, decide_eq_true hd, if_neg (by decide), h1]
            show (if lf_comesTo rc' (nI L) = 0 then _ else Option.bind (lm_follow N G hh qq (nI L)) _) = _
            rw [ld_ct1 (by omega) h, if_neg (by decide), f1]
            show some (lf_hbehind hh3 (nI p), dk', rc', q', u', hh3, qq3) = _
            rw [ld_hbh (by omega)]
          · rw [hsm, hHo]
            have : fe'.2.2 (120 * L + p) = hh3.2 p := by
              refine b_ext (fun i _ => ?_)
              rw [hbits i, decide_eq_true hd, hyR, Bool.true_and, Bool.true_and, f4 p hp i]
              unfold ld_sB
              congr 1
              funext z
              exact (ld_sA_eq f3 hp z).symm
            rw [this]
          · rw [h3] at z
            exact ⟨h2, (hm z).2⟩
      · refine ⟨0, dk, rc, q, u, hh, qq, fo', fe', fs', ?_, ?_, hC, hF'⟩
        · simp only [lm_holders, ld_lt]
          rw [ld_pt1 hr hp, if_neg (by decide), ld_ln1 hr hL, decide_eq_false hd, if_pos (by decide)]
        · rw [hsm, hHo]
          have : fe'.2.2 (120 * L + p) = 0 := b_ext (fun i _ => by rw [hbits i, decide_eq_false hd, b_0]; rfl)
          rw [this]
    · refine ⟨0, dk, rc, q, u, hh, qq, fo', fe', fs', ?_, ?_, hC, hF'⟩
      · have : lf_isLoan G w = 0 := by
          simp only [lf_isLoan, ld_lt]
          rw [ld_pt0 hr hv, if_pos rfl]
        simp only [lm_holders, ld_lt]
        rw [ld_pt1 hr hp, if_neg (by decide), this, if_pos rfl]
      · rw [hsm]
        unfold lm_fholders
        rw [ld_flk hkn]
        simp only [Option.bind_some, ld_lt]
        rw [ld_fp1 hF'.1.2.1 hk hp, ld_fp0 hF'.1.2.1 hk hv, if_neg (by decide), if_pos rfl]
  · refine ⟨0, dk, rc, q, u, hh, qq, fo', fe', fs', ?_, by rw [hsm]; exact (ld_fRe0 hF'.1 hkn hv N).2.1 w, hC, hF'⟩
    simp only [lm_holders, ld_lt]
    rw [ld_pt0 hr hv, if_pos rfl]
/-- IS ALIVE -/
theorem ld_aalive {M : ld_M} {dk : Int32 × Int32} {G : ld_gT} {rc : Nat → Int32} {q : ld_pT} {u : Nat → Int32} (hh : (Nat → Int32) × (Nat → Int32)) {qq : ld_pT} {mw : Nat → Int64} {fo : Int32 × Int32 × Int32} {fb : ld_bT} {fe : ld_eT} (hC : ld_CI M dk G rc q u qq mw) (hF : ld_FI M fo fb fe) (fs : ld_sT) (v w : Int32) {N : Nat} (hN : 4000 < N) :
    ∃ r dk' rc' q' u' hh' qq' fo' fe' fs', lm_isAlive N dk G rc q u hh qq v w = some (r, dk', rc', q', u', hh', qq') ∧ lm_fIsAlive N fo fb fe fs v w = some (r, fo', fe', fs') ∧ ld_CI M dk' G rc' q' u' qq' mw ∧ ld_FI M fo' fb fe' := by
  obtain ⟨r1, dk1, rc1, q1, u1, hh1, qq1, fo1, fe1, fs1, a1, a2, a3, a4⟩ := ld_aholders hh hC hF fs v w hN
  obtain ⟨r2, dk2, rc2, q2, u2, fo2, fe2, fs2, b1, b2, b3, b4⟩ := ld_aused a3 a4 fs1 v hN
  refine ⟨if (r1 &&& r2) = 0 then 0 else 1, dk2, rc2, q2, u2, hh1, qq1, fo2, fe2, fs2, ?_, ?_, b3, b4⟩
  · unfold lm_isAlive
    rw [a1]
    show Option.bind (lm_used N dk1 G rc1 q1 u1 v) _ = _
    rw [b1]
    show (if (r1 &&& r2) = 0 then some (0, dk2, rc2, q2, u2, hh1, qq1) else some (1, dk2, rc2, q2, u2, hh1, qq1)) = _
    by_cases h : (r1 &&& r2) = 0
    · rw [if_pos h, if_pos h]
    · rw [if_neg h, if_neg h]
  · unfold lm_fIsAlive
    rw [a2]
    show Option.bind (lm_fused N fo1 fb fe1 fs1 v) _ = _
    rw [b2]
    show (if (r1 &&& r2) = 0 then some (0, fo2, fe2, fs2) else some (1, fo2, fe2, fs2)) = _
    by_cases h : (r1 &&& r2) = 0
    · rw [if_pos h, if_pos h]
    · rw [if_neg h, if_neg h]
