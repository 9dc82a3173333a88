theorem ld_bif : ld_bi false = 0 := rfl
theorem ld_bitt : ld_bi true = 1 := rfl
/-! the reference's answers, once it has learnt; then ahead of that too -/
theorem ld_flk {fo : Int32 × Int32 × Int32} {fb : ld_bT} {fe : ld_eT} {fs : ld_sT} (hk : ¬ fo.2.1 = 0) (N : Nat) : lm_flearn N fo fb fe fs = some (fo, fe, fs) := by
  unfold lm_flearn
  rw [if_neg hk]
theorem ld_fReK {fo : Int32 × Int32 × Int32} {fb : ld_bT} {fe : ld_eT} {fs : ld_sT} {M : ld_M} (hr : ld_rel (ld_Gf fb fo.1) M) (hk : ¬ fo.2.1 = 0) (ok : ld_fok M fe) {p : Nat} (hp : p < M.1) (N : Nat) : lm_fIsReached N fo fb fe fs (nI p) = some (ld_bi (ld_sR M p), fo, fe, fs) := by
  have hk1 := hr.1
  unfold lm_fIsReached
  rw [ld_flk hk]
  show (ld_lt (lf_fIsPoint fo (nI p)) (fun r_2 => if r_2 = 0 then _ else if ld_in (nI p) 120 = true then (if fe.1 (nI p).toNatClampNeg = 0 then some (0, fo, fe, fs) else some (1, fo, fe, fs)) else none)) = _
  simp only [ld_lt]
  rw [ld_fp1 hr.2.1 hk1 hp, if_neg (by decide), if_pos (ld_in_nI (by omega) (by omega)), nI_clamp (by omega)]
  rcases (ok.1 p hp).1 with h | h
  · have : ld_sR M p = false := by
      cases hz : ld_sR M p with
      | false => rfl
      | true =>
        have := (ok.1 p hp).2.mpr hz
        rw [h] at this
        exact absurd this (by decide)
    rw [if_pos h, this]
    rfl
  · rw [if_neg (by rw [h]; decide), (ok.1 p hp).2.mp h]
    rfl
theorem ld_fHoK {fo : Int32 × Int32 × Int32} {fb : ld_bT} {fe : ld_eT} {fs : ld_sT} {M : ld_M} (hr : ld_rel (ld_Gf fb fo.1) M) (hk : ¬ fo.2.1 = 0) {p L : Nat} (hp : p < M.1) (hL : L < M.1) (N : Nat) : lm_fholders N fo fb fe fs (nI p) (nI L) = some (fe.2.2 (120 * L + p), fo, fe, fs) := by
  have hk1 := hr.1
  unfold lm_fholders
  rw [ld_flk hk]
  show (ld_lt (lf_fIsPoint fo (nI p)) (fun r_2 => if r_2 = 0 then _ else ld_lt (lf_fIsPoint fo (nI L)) (fun r_4 => if r_4 = 0 then _ else if ld_in ((120 * nI L) + nI p) 14400 = true then (some (fe.2.2 ((120 * nI L) + nI p).toNatClampNeg, fo, fe, fs)) else none))) = _
  simp only [ld_lt]
  have ei : (120 : Int32) * nI L + nI p = nI (120 * L + p) := by rw [show (120 : Int32) * nI L = nI (120 * L) from pk_mul 120 L, nI_add]
  rw [ld_fp1 hr.2.1 hk1 hp, if_neg (by decide), ld_fp1 hr.2.1 hk1 hL, if_neg (by decide), ei, if_pos (ld_in_nI (by omega) (by omega)), nI_clamp (by omega)]
theorem ld_fUsK {fo : Int32 × Int32 × Int32} {fb : ld_bT} {fe : ld_eT} {fs : ld_sT} {M : ld_M} (hr : ld_rel (ld_Gf fb fo.1) M) (hk : ¬ fo.2.1 = 0) {p : Nat} (hp : p < M.1) (N : Nat) : lm_fused N fo fb fe fs (nI p) = some (fe.2.1 p, fo, fe, fs) := by
  have hk1 := hr.1
  unfold lm_fused
  rw [ld_flk hk]
  show (ld_lt (lf_fIsPoint fo (nI p)) (fun r_2 => if r_2 = 0 then _ else if ld_in (nI p) 120 = true then (some (fe.2.1 (nI p).toNatClampNeg, fo, fe, fs)) else none)) = _
  simp only [ld_lt]
  rw [ld_fp1 hr.2.1 hk1 hp, if_neg (by decide), if_pos (ld_in_nI (by omega) (by omega)), nI_clamp (by omega)]
theorem ld_fAlK {fo : Int32 × Int32 × Int32} {fb : ld_bT} {fe : ld_eT} {fs : ld_sT} {M : ld_M} (hr : ld_rel (ld_Gf fb fo.1) M) (hk : ¬ fo.2.1 = 0) {p L : Nat} (hp : p < M.1) (hL : L < M.1) (N : Nat) : lm_fIsAlive N fo fb fe fs (nI p) (nI L) = some ((if (fe.2.2 (120 * L + p) &&& fe.2.1 p) = 0 then 0 else 1), fo, fe, fs) := by
  unfold lm_fIsAlive
  rw [ld_fHoK hr hk hp hL N]
  show Option.bind (lm_fused N fo fb fe fs (nI p)) _ = _
  rw [ld_fUsK hr hk hp N]
  show (if (fe.2.2 (120 * L + p) &&& fe.2.1 p) = 0 then some (0, fo, fe, fs) else some (1, fo, fe, fs)) = _
  by_cases h : (fe.2.2 (120 * L + p) &&& fe.2.1 p) = 0
  · rw [if_pos h, if_pos h]
  · rw [if_neg h, if_neg h]
/-- alive, and not only by one's own -/
theorem ld_fown {M : ld_M} {H U : Int32} {fB fU : Nat → Bool} {a : Nat} (ha : a < 16) (hB : ∀ i, bt H i = fB i) (hU : ∀ i, bt U i = fU i) (hne : ¬ (H &&& U) = 0) : (¬ (H &&& U) = ((1 : Int32) <<< (nI a &&& 31))) ↔ ∃ i, fB i = true ∧ fU i = true ∧ ¬ i = a := by
  constructor
  · intro h
    refine Classical.byContradiction (fun q => h (b_ext (fun i hi => ?_)))
    rw [ld_bit ha hi]
    have hz : ∀ i, ¬ i = a → bt (H &&& U) i = false := by
      intro i hia
      cases hb : bt (H &&& U) i with
      | false => rfl
      | true =>
        rw [b_and, Bool.and_eq_true, hB, hU] at hb
        exact absurd ⟨i, hb.1, hb.2, hia⟩ q
    by_cases e : i = a
    · subst e
      rw [decide_eq_true rfl]
      obtain ⟨j, hj, hb⟩ := ld_ne0.mp hne
      by_cases e2 : j = i
      · rw [e2] at hb; exact hb
      · rw [hz j e2] at hb; cases hb
    · rw [decide_eq_false e]; exact hz i e
  · rintro ⟨i, h1, h2, h3⟩ h
    have hb : bt (H &&& U) i = true := by rw [b_and, hB, hU, h1, h2]; rfl
    have hi : i < 32 := by
      rcases Nat.lt_or_ge i 32 with z | z
      · exact z
      · rw [b_big z] at hb; cases hb
    rw [h, ld_bit ha hi, decide_eq_false h3] at hb
    cases hb
theorem ld_fMeK {fo : Int32 × Int32 × Int32} {fb : ld_bT} {fe : ld_eT} {fs : ld_sT} {M : ld_M} (hr : ld_rel (ld_Gf fb fo.1) M) (hk : ¬ fo.2.1 = 0) (ok : ld_fok M fe) {p L : Nat} (hp : p < M.1) (hL : L < M.1) {N : Nat} (hN : 10 < N) : lm_fmeets N fo fb fe fs (nI p) (nI L) = some (ld_bi (ld_mt M p L), fo, fe, fs) := by
  have hk1 := hr.1
  obtain ⟨⟨hd7, ed⟩, ha, -, hb, hc, -, -⟩ := hr.2.2 p hp
  obtain ⟨⟨hd7L, edL⟩, -, -, hbL, hcL, -, -⟩ := hr.2.2 L hL
  have ed : fb.1 p = nI (ld_d M p) := ed
  have edL : fb.1 L = nI (ld_d M L) := edL
  have hno : ∀ (_ : ¬ ld_mt M p L = true), ld_bi (ld_mt M p L) = 0 := by
    intro h
    unfold ld_bi
    rw [if_neg h]
  have hyes : ∀ (_ : ld_mt M p L = true), ld_bi (ld_mt M p L) = 1 := by
    intro h
    unfold ld_bi
    rw [if_pos h]
  have in1 : ld_in (nI p) 120 = true := ld_in_nI (by omega) (by omega)
  have in2 : ld_in (nI L) 120 = true := ld_in_nI (by omega) (by omega)
  have c1 : (nI p).toNatClampNeg = p := nI_clamp (by omega)
  have c2 : (nI L).toNatClampNeg = L := nI_clamp (by omega)
  have hRe := ld_fReK (fs := fs) hr hk ok hp N
  have hAl := ld_fAlK (fe := fe) (fs := fs) hr hk hp hL N
  have hHo := ld_fHoK (fe := fe) (fs := fs) hr hk hp hL N
  have hUs := ld_fUsK (fe := fe) (fs := fs) hr hk hp N
  unfold lm_fmeets
  rw [hRe]
  cases hR : ld_sR M p with
  | false =>
    have : ¬ ld_mt M p L = true := by
      intro h
      obtain ⟨-, -, -, hLR, ⟨i, hi, -⟩, -⟩ := ld_mt_iff.mp h
      rw [ld_sB_R hLR hi] at hR
      cases hR
    rw [hno this]
    rfl
  | true =>
    simp only [ld_bi, if_true, Option.bind_some, in1, in2, c1, c2, hAl, hHo, hUs, ed, edL]
    rw [if_neg (show ¬ (1 : Int32) = 0 from by decide)]
    have hdn : ∀ d e : Nat, d < 7 → e < 7 → (nI d = nI e ↔ d = e) := fun d e h1 h2 => nI_eq (by omega) (by omega)
    have e1 : ∀ d : Nat, d < 7 → (nI d = (1 : Int32) ↔ d = 1) := fun d h => hdn d 1 h (by omega)
    have e6 : ∀ d : Nat, d < 7 → (nI d = (6 : Int32) ↔ d = 6) := fun d h => hdn d 6 h (by omega)
    have e5 : ∀ d : Nat, d < 7 → (nI d < (5 : Int32) ↔ d < 5) := fun d h => nI_ltI (b := 5) (by omega) (by omega)
    simp only [e1 _ hd7, e1 _ hd7L, e6 _ hd7, e5 _ hd7]
    by_cases hdL : ld_d M L = 1
    · obtain ⟨⟨hbL1, hbL2⟩, ebL⟩ := hbL (Or.inl hdL)
      obtain ⟨hcL2, ecL⟩ := hcL hdL
      have ebL : fb.2.2.1 L = nI (ld_b M L) := ebL
      have ecL : fb.2.2.2.1 L = nI (ld_c M L) := ecL
      have hHB : ∀ i, bt (fe.2.2 (120 * L + p)) i = (ld_sR M L && ld_sB M L p i) := by
        intro i
        rw [ok.2.2 L p hL hp i, decide_eq_true hdL, Bool.true_and]
      have hUB : ∀ i, bt (fe.2.1 p) i = ld_sU M p i := ok.2.1 p hp
      have ec1 : (nI (ld_c M L) = (1 : Int32)) ↔ ld_c M L = 1 := nI_eq (b := 1) (by omega) (by omega)
      simp only [hdL, if_true, ebL, ecL, ec1]
      have hal : (¬ (fe.2.2 (120 * L + p) &&& fe.2.1 p) = 0) ↔ (ld_sR M L = true ∧ ∃ i, ld_sB M L p i = true ∧ ld_sU M p i = true) := by
        rw [ld_ne0]
        constructor
        · rintro ⟨i, hi, h⟩
          rw [b_and, hHB, hUB, Bool.and_eq_true, Bool.and_eq_true] at h
          exact ⟨h.1.1, i, h.1.2, h.2⟩
        · rintro ⟨h1, i, h2, h3⟩
          have hi : i < 16 := by
            rcases Nat.lt_or_ge i 16 with z | z
            · exact z
            · rw [ld_sU_16 hr z] at h3; cases h3
          exact ⟨i, by omega, by rw [b_and, hHB, hUB, h1, h2, h3]; rfl⟩
      have hdead : (fe.2.2 (120 * L + p) &&& fe.2.1 p) = 0 → ¬ ld_mt M p L = true := by
        intro h0 h
        obtain ⟨-, -, -, hLR, ⟨i, h1, h2, -⟩, -⟩ := ld_mt_iff.mp h
        exact hal.mpr ⟨hLR, i, h1, h2⟩ h0
      by_cases hz : (fe.2.2 (120 * L + p) &&& fe.2.1 p) = 0
      · have h9 := hno (hdead hz)
        unfold ld_bi at h9
        rw [h9]
        simp only [hz, if_true]
        by_cases q1 : ld_d M p = 1
        · rw [if_pos q1]
        · rw [if_neg q1]
          by_cases q2 : ld_d M p < 5
          · rw [if_pos q2]
          · rw [if_neg q2]
      · have h1z : ¬ (1 : Int32) = 0 := by decide
        simp only [hz, if_false, h1z]
        obtain ⟨hLR, hex⟩ := hal.mp hz
        by_cases q1 : ld_d M p = 1
        · obtain ⟨⟨hb1, hb2⟩, eb⟩ := hb (Or.inl q1)
          obtain ⟨hc2, ec⟩ := hc q1
          obtain ⟨ha16, ea⟩ := ha (by omega) (by omega)
          have eb : fb.2.2.1 p = nI (ld_b M p) := eb
          have ec : fb.2.2.2.1 p = nI (ld_c M p) := ec
          have ea : fb.2.1 p = nI (ld_a M p) := ea
          have ec2 : (nI (ld_c M p) = (1 : Int32)) ↔ ld_c M p = 1 := nI_eq (b := 1) (by omega) (by omega)
          have n16 : ¬ (1 : Nat) = 6 := by decide
          simp only [q1, if_true, eb, ec, ea, ec2, n16, if_false, ld_foverlap hb1 hb2 hbL1 hbL2 hN, Option.bind_some]
          have hown := ld_fown (M := M) ha16 hHB hUB hz
          have hex2 : (∃ i, (ld_sR M L && ld_sB M L p i) = true ∧ ld_sU M p i = true ∧ ¬ i = ld_a M p) ↔ ∃ i, ld_sB M L p i = true ∧ ld_sU M p i = true ∧ ¬ (ld_d M p = 1 ∧ i = ld_a M p) := by
            constructor
            · rintro ⟨i, h1, h2, h3⟩
              rw [Bool.and_eq_true] at h1
              exact ⟨i, h1.2, h2, fun z => h3 z.2⟩
            · rintro ⟨i, h1, h2, h3⟩
              exact ⟨i, by rw [hLR, h1]; rfl, h2, fun z => h3 ⟨q1, z⟩⟩
          have hmt : ld_mt M p L = true ↔ ((¬ (fe.2.2 (120 * L + p) &&& fe.2.1 p) = ((1 : Int32) <<< (nI (ld_a M p) &&& 31))) ∧ ld_ag M p L ∧ ld_ov (ld_b M p) (ld_b M L) = true) := by
            rw [ld_mt_iff, hown, hex2]
            exact ⟨fun z => z.2.2.2.2, fun z => ⟨hL, hp, hdL, hLR, z⟩⟩
          have hag : ld_ag M p L ↔ (ld_c M p = 1 ∨ ld_c M L = 1) := by
            unfold ld_ag
            rw [q1]
            omega
          cases hov : ld_ov (ld_b M p) (ld_b M L) with
          | false =>
            have h9 : ¬ ld_mt M p L = true := fun z => by
              have := (hmt.mp z).2.2
              rw [hov] at this
              cases this
            simp [ld_bif, ld_bitt, h9]
          | true =>
            rw [hov] at hmt
            by_cases w1 : (fe.2.2 (120 * L + p) &&& fe.2.1 p) = ((1 : Int32) <<< (nI (ld_a M p) &&& 31))
            · have h9 : ¬ ld_mt M p L = true := fun z => (hmt.mp z).1 w1
              simp [ld_bif, ld_bitt, h9, w1]
            · by_cases w2 : ld_c M p = 1
              · have h9 : ld_mt M p L = true := hmt.mpr ⟨w1, hag.mpr (Or.inl w2), rfl⟩
                simp [ld_bif, ld_bitt, h9, w1, w2]
              · by_cases w3 : ld_c M L = 1
                · have h9 : ld_mt M p L = true := hmt.mpr ⟨w1, hag.mpr (Or.inr w3), rfl⟩
                  simp [ld_bif, ld_bitt, h9, w1, w2, w3]
                · have h9 : ¬ ld_mt M p L = true := fun z => by
                    have := hag.mp (hmt.mp z).2.1
                    omega
                  simp [ld_bif, ld_bitt, h9, w1, w2, w3]
        · simp only [q1, if_false]
          by_cases q2 : ld_d M p < 5
          · have h9 : ¬ ld_mt M p L = true := fun z => by
              have := (ld_mt_iff.mp z).2.2.2.2.2.1
              unfold ld_ag at this
              omega
            simp [ld_bif, ld_bitt, h9, q2]
          · obtain ⟨⟨hb1, hb2⟩, eb⟩ := hb (Or.inr (by omega))
            have eb : fb.2.2.1 p = nI (ld_b M p) := eb
            simp only [q2, if_false, eb, ld_foverlap hb1 hb2 hbL1 hbL2 hN, Option.bind_some]
            have hmt : ld_mt M p L = true ↔ (ld_ag M p L ∧ ld_ov (ld_b M p) (ld_b M L) = true) := by
              rw [ld_mt_iff]
              refine ⟨fun z => z.2.2.2.2.2, fun z => ⟨hL, hp, hdL, hLR, ?_, z⟩⟩
              obtain ⟨i, h1, h2⟩ := hex
              exact ⟨i, h1, h2, fun z => q1 z.1⟩
            have hag : ld_ag M p L ↔ (ld_d M p = 6 ∨ ld_c M L = 1) := by
              unfold ld_ag
              omega
            cases hov : ld_ov (ld_b M p) (ld_b M L) with
            | false =>
              have h9 : ¬ ld_mt M p L = true := fun z => by
                have := (hmt.mp z).2
                rw [hov] at this
                cases this
              simp [ld_bif, ld_bitt, h9]
            | true =>
              rw [hov] at hmt
              by_cases w2 : ld_d M p = 6
              · have h9 : ld_mt M p L = true := hmt.mpr ⟨hag.mpr (Or.inl w2), rfl⟩
                simp [ld_bif, ld_bitt, h9, w2]
              · by_cases w3 : ld_c M L = 1
                · have h9 : ld_mt M p L = true := hmt.mpr ⟨hag.mpr (Or.inr w3), rfl⟩
                  simp [ld_bif, ld_bitt, h9, w2, w3]
                · have h9 : ¬ ld_mt M p L = true := fun z => by
                    have := hag.mp (hmt.mp z).1
                    omega
                  simp [ld_bif, ld_bitt, h9, w2, w3]
    · have h9 : ¬ ld_mt M p L = true := fun z => hdL (ld_mt_iff.mp z).2.2.1
      simp [ld_bif, ld_bitt, h9, hdL]
