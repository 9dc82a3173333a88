/-! the reference: used later -/
theorem ld_uB_us {M : ld_M} {p r : Nat} {B : Nat → Bool} (h : ld_us M p r) : ld_uB M p B r = true := by
  unfold ld_uB
  rcases h with ⟨h1, h2⟩ | ⟨h1, h2⟩
  · rw [if_neg (by omega), if_neg (by omega), if_pos h1, decide_eq_true h2.symm, Bool.or_true]
  · rw [if_neg (by omega), if_pos h1, decide_eq_true h2.symm, Bool.or_true]
theorem ld_uB_nc {M : ld_M} {p r : Nat} {B : Nat → Bool} (hd : ld_d M p < 7) (h : ¬ ld_ch M p r) (hB : B r = true) : ld_uB M p B r = true := by
  unfold ld_uB
  unfold ld_ch at h
  by_cases h1 : ld_d M p = 1 ∨ ld_d M p = 3
  · rw [if_pos h1, hB, decide_eq_false (by omega)]; rfl
  · rw [if_neg h1]
    by_cases h2 : ld_d M p = 2
    · rw [if_pos h2, hB, decide_eq_false (show ¬ r = ld_a M p by omega)]; rfl
    · rw [if_neg h2]
      by_cases h3 : ld_d M p = 4
      · rw [if_pos h3, hB]; rfl
      · rw [if_neg h3]; exact hB
theorem ld_uB_no {M : ld_M} {p r : Nat} {B : Nat → Bool} (hu : ¬ ld_us M p r) (h : ld_ch M p r ∨ B r = false) : ld_uB M p B r = false := by
  unfold ld_uB
  unfold ld_us at hu
  unfold ld_ch at h
  by_cases h1 : ld_d M p = 1 ∨ ld_d M p = 3
  · rw [if_pos h1]
    rcases h with h | h
    · rw [decide_eq_true h.2.2.symm]; simp
    · rw [h]; rfl
  · rw [if_neg h1]
    by_cases h2 : ld_d M p = 2
    · rw [if_pos h2, decide_eq_false (show ¬ r = ld_b M p by omega), Bool.or_false]
      rcases h with h | h
      · rw [decide_eq_true h.2.2.symm]; simp
      · rw [h]; rfl
    · rw [if_neg h2]
      have h : B r = false := by
        rcases h with h | h
        · omega
        · exact h
      by_cases h3 : ld_d M p = 4
      · rw [if_pos h3, h, decide_eq_false (show ¬ r = ld_a M p by omega)]; rfl
      · rw [if_neg h3]; exact h
theorem ld_fused1 {fb : ld_bT} {n : Int32} {M : ld_M} (hr : ld_rel (ld_Gf fb n) M) {kn hg : Int32} {fs : ld_sT} {pt r : Nat} (hpt : pt < M.1) (hr16 : r < 16) {N : Nat} (hN : 4000 < N) :
    ∃ h' fs', lm_fIsUsed N (n, kn, hg) fb fs (nI pt) (nI r) = some (ld_bi (ld_sU M pt r), (n, kn, h'), fs') := by
  have hk := hr.1
  have hn : n = nI M.1 := hr.2.1
  obtain ⟨s0, hf0, hz0⟩ := ld_fforget (fo := (n, kn, hg)) (fs := fs) hN
  obtain ⟨-, -, -, -, -, hnx, hny⟩ := hr.2.2 pt hpt
  have hnx : ld_nxI (fb.2.2.2.2.1 pt) (ld_x M pt) := hnx
  have hny : ld_nxI (fb.2.2.2.2.2 pt) (ld_y M pt) := hny
  have hn1 : ((n, kn, 0) : Int32 × Int32 × Int32).1 = nI M.1 := hn
  obtain ⟨s1, c1, hm1, hk1, hs1, hq1, hi1, hu1, hc1⟩ := ld_fmeet (fo := (n, kn, 0)) (c := 0) hn1 hk (ld_fk_0 hz0) rfl (ld_fnxP hn1 hk hnx) (r := 0) (by omega) N
  have hn2 : ((n, kn, nI c1) : Int32 × Int32 × Int32).1 = nI M.1 := hn
  obtain ⟨s2, c2, hm2, hk2, hs2, hq2, hi2, hu2, hc2⟩ := ld_fmeet (fo := (n, kn, nI c1)) hn2 hk hk1 rfl (ld_fnxP hn2 hk hny) (r := 0) (by omega) N
  have hz1 : ∀ j, j < 1920 → ¬ s0.2 j = 1 := fun j hj e => by rw [hz0 j hj] at e; exact absurd e (by decide)
  have hsn : ∀ j, j < 1920 → (s2.2 j = 1 ↔ ((ld_x M pt < M.1 ∧ j = 16 * ld_x M pt) ∨ (ld_y M pt < M.1 ∧ j = 16 * ld_y M pt))) := by
    intro j hj
    rw [hs2 j hj, hs1 j hj]
    constructor
    · rintro ((h | h) | h)
      · exact absurd h (hz1 j hj)
      · exact Or.inl h
      · exact Or.inr h
    · rintro (h | h)
      · exact Or.inl (Or.inr h)
      · exact Or.inr h
  have hL := ld_loop (f := ls_fIsUsed_1 N fb (nI r)) (fun v => ∃ c, v.1 = (n, kn, nI c) ∧ ld_fk v.2 c ∧ (∀ j, j < 1920 → v.2.2 j = 1 → j % 16 = 0 ∧ j / 16 < M.1 ∧ ∀ V, ld_clU M V → ld_uB M (j / 16) (V (j / 16)) r = true → V pt r = true) ∧ (∀ x, ld_nx M pt x → v.2.2 (16 * x) = 1) ∧ (∀ j, j < 1920 → v.2.2 j = 1 → ¬ ld_ip v.2 c j → ¬ ld_us M (j / 16) r ∧ (ld_ch M (j / 16) r ∨ ∀ x, ld_nx M (j / 16) x → v.2.2 (16 * x) = 1))) (fun v => 1920 - ld_sn v.2 + v.1.2.2.toNatClampNeg) (fun y => (∃ h' fs', y = .inl ((n, kn, h'), fs') ∧ ld_sU M pt r = false) ∨ (∃ h' fs', y = .inr (1, (n, kn, h'), fs') ∧ ld_sU M pt r = true)) ?_ N ((n, kn, nI c2), s2) ⟨c2, rfl, hk2, ?_, ?_, ?_⟩ ?_
  · obtain ⟨Y, hY, h⟩ := hL
    have hrun : lm_fIsUsed N (n, kn, hg) fb fs (nI pt) (nI r) = ld_ex Y (fun y1 => some (0, y1.1, y1.2)) (fun R9 => some R9) := by
      unfold lm_fIsUsed
      rw [hf0]
      show (if ld_in (nI pt) 120 = true then Option.bind (lm_fmeet N (n, kn, 0) s0 (fb.2.2.2.2.1 (nI pt).toNatClampNeg) 0) _ else none) = _
      rw [if_pos (ld_in_nI (by omega) (by omega)), nI_clamp (by omega)]
      have hm1 : lm_fmeet N (n, kn, 0) s0 (fb.2.2.2.2.1 pt) 0 = _ := hm1
      rw [hm1]
      show Option.bind (lm_fmeet N (n, kn, nI c1) s1 (fb.2.2.2.2.2 pt) 0) _ = _
      have hm2 : lm_fmeet N (n, kn, nI c1) s1 (fb.2.2.2.2.2 pt) 0 = _ := hm2
      rw [hm2]
      show Option.bind (ld_it (ls_fIsUsed_1 N fb (nI r)) N ((n, kn, nI c2), s2)) _ = _
      rw [hY]
      rfl
    rcases h with ⟨h', fs', rfl, hu⟩ | ⟨h', fs', rfl, hu⟩
    · exact ⟨h', fs', by rw [hrun, hu]; rfl⟩
    · exact ⟨h', fs', by rw [hrun, hu]; rfl⟩
  · rintro ⟨o, s⟩ ⟨c, a1, a2, a3, a4, a5⟩
    have b1 : o = (n, kn, nI c) := a1
    have b2 : ld_fk s c := a2
    have b3 : ∀ j, j < 1920 → s.2 j = 1 → j % 16 = 0 ∧ j / 16 < M.1 ∧ ∀ V, ld_clU M V → ld_uB M (j / 16) (V (j / 16)) r = true → V pt r = true := a3
    have b4 : ∀ x, ld_nx M pt x → s.2 (16 * x) = 1 := a4
    have b5 : ∀ j, j < 1920 → s.2 j = 1 → ¬ ld_ip s c j → ¬ ld_us M (j / 16) r ∧ (ld_ch M (j / 16) r ∨ ∀ x, ld_nx M (j / 16) x → s.2 (16 * x) = 1) := a5
    clear a1 a2 a3 a4 a5
    subst b1
    have hcs : c ≤ ld_sn s := b2.2.2.2
    have hsl := ld_sn_le s
    cases c with
    | zero =>
      right
      refine ⟨.inl ((n, kn, nI 0), s), ?_, Or.inl ⟨nI 0, s, rfl, ?_⟩⟩
      · unfold ls_fIsUsed_1
        rw [if_pos (show nI 0 ≤ 0 from by decide)]
      · cases hz : ld_sU M pt r with
        | false => rfl
        | true =>
          exfalso
          -- a closed set without it
          have hcl : ld_clU M (fun q i => @decide (¬ (i = r ∧ ∀ x, ld_nx M q x → s.2 (16 * x) = 1)) (Classical.propDecidable _)) := by
            intro q x i hq hnx hb
            refine @decide_eq_true _ (Classical.propDecidable _) ?_
            rintro ⟨rfl, hall⟩
            have hsx := hall x hnx
            have hxk := hnx.1
            have h5 := b5 (16 * x) (by omega) hsx ld_ip_0
            rw [show 16 * x / 16 = x by omega] at h5
            have : ld_uB M x ((fun q i_1 => @decide (¬ (i_1 = i ∧ ∀ x, ld_nx M q x → s.2 (16 * x) = 1)) (Classical.propDecidable _)) x) i = false := by
              apply ld_uB_no h5.1
              rcases h5.2 with h | h
              · exact Or.inl h
              · exact Or.inr (@decide_eq_false _ (Classical.propDecidable _) (fun z => z ⟨rfl, h⟩))
            rw [this] at hb
            cases hb
          have h1 := ld_sU_iff.mp hz _ hcl
          exact @of_decide_eq_true _ (Classical.propDecidable _) h1 ⟨rfl, b4⟩
    | succ c =>
      obtain ⟨j, hj, ej, ej1, hipj, hfk, hip⟩ := ld_fpop b2
      obtain ⟨hj16, hjk, hjS⟩ := b3 j hj ej1
      have hst : ls_fIsUsed_1 N fb (nI r) ((n, kn, nI (c + 1)), s) = (Option.bind (lm_fuses N (n, kn, nI c) fb (nI (j / 16)) (nI r)) (fun r_7 => if r_7 = 0 then (Option.bind (lm_fchanges N (n, kn, nI c) fb (nI (j / 16)) (nI r)) (fun r_9 => if r_9 = 0 then (Option.bind (lm_fmeet N (n, kn, nI c) s (fb.2.2.2.2.1 (j / 16)) 0) (fun r_12 => Option.bind (lm_fmeet N r_12.1 r_12.2 (fb.2.2.2.2.2 (j / 16)) 0) (fun r_13 => some (.inl (r_13.1, r_13.2))))) else some (.inl ((n, kn, nI c), s)))) else some (.inr (.inr (1, (n, kn, nI c), s))))) := by
        unfold ls_fIsUsed_1
        have e0 : ¬ nI (c + 1) ≤ 0 := nI_nle (by omega) (by omega)
        rw [if_neg (show ¬ nI (c + 1) ≤ 0 from e0)]
        simp only [nI_pred]
        rw [if_pos (ld_in_nI (by omega) (by omega)), nI_clamp (show c < 2 ^ 31 by omega), ej, ld_d16 hj, if_pos (ld_in_nI (by omega) (by omega)), nI_clamp (show j / 16 < 2 ^ 31 by omega)]
      rcases ld_fus hr hjk hr16 N (n, kn, nI c) with ⟨hu, hus⟩ | ⟨hu, hus⟩
      · right
        refine ⟨.inr (1, (n, kn, nI c), s), ?_, Or.inr ⟨nI c, s, rfl, ?_⟩⟩
        · rw [hst, hu]; rfl
        · rw [ld_sU_iff]
          exact fun V hV => hjS V hV (ld_uB_us hus)
      · left
        rcases ld_fchg hr hjk hr16 N (n, kn, nI c) with ⟨hch, hc9⟩ | ⟨hch, hc9⟩
        · refine ⟨((n, kn, nI c), s), ?_, ⟨c, rfl, hfk, b3, b4, fun i hi h1 hni => ?_⟩, ?_⟩
          · rw [hst, hu]
            show (Option.bind (lm_fchanges N (n, kn, nI c) fb (nI (j / 16)) (nI r)) _) = _
            rw [hch]; rfl
          · by_cases e1 : i = j
            · rw [e1]; exact ⟨hus, Or.inl hc9⟩
            · exact b5 i hi h1 (fun z => hni ((hip i hi).mpr ⟨z, e1⟩))
          · show 1920 - ld_sn s + (nI c).toNatClampNeg < 1920 - ld_sn s + (nI (c + 1)).toNatClampNeg
            rw [nI_clamp (by omega), nI_clamp (by omega)]
            omega
        · obtain ⟨⟨hd7, -⟩, -, -, -, -, hnx3, hny3⟩ := hr.2.2 (j / 16) hjk
          have hnx3 : ld_nxI (fb.2.2.2.2.1 (j / 16)) (ld_x M (j / 16)) := hnx3
          have hny3 : ld_nxI (fb.2.2.2.2.2 (j / 16)) (ld_y M (j / 16)) := hny3
          have hn3 : ((n, kn, nI c) : Int32 × Int32 × Int32).1 = nI M.1 := hn
          obtain ⟨s3, c3, hm3, hk3, hs3, hq3, hi3, hu3, hc3⟩ := ld_fmeet (fo := (n, kn, nI c)) hn3 hk hfk rfl (ld_fnxP hn3 hk hnx3) (r := 0) (by omega) N
          have hn4 : ((n, kn, nI c3) : Int32 × Int32 × Int32).1 = nI M.1 := hn
          obtain ⟨s4, c4, hm4, hk4, hs4, hq4, hi4, hu4, hc4⟩ := ld_fmeet (fo := (n, kn, nI c3)) hn4 hk hk3 rfl (ld_fnxP hn4 hk hny3) (r := 0) (by omega) N
          have hsnd : ∀ x, ld_nx M (j / 16) x → ∀ V, ld_clU M V → ld_uB M x (V x) r = true → V pt r = true := by
            intro x hx V hV hb
            exact hjS V hV (ld_uB_nc hd7 hc9 (hV (j / 16) x r hjk hx hb))
          refine ⟨((n, kn, nI c4), s4), ?_, ⟨c4, rfl, hk4, ?_, ?_, ?_⟩, ?_⟩
          · rw [hst, hu]
            show (Option.bind (lm_fchanges N (n, kn, nI c) fb (nI (j / 16)) (nI r)) _) = _
            rw [hch]
            show Option.bind (lm_fmeet N (n, kn, nI c) s (fb.2.2.2.2.1 (j / 16)) 0) _ = _
            have hm3 : lm_fmeet N (n, kn, nI c) s (fb.2.2.2.2.1 (j / 16)) 0 = _ := hm3
            rw [hm3]
            show Option.bind (lm_fmeet N (n, kn, nI c3) s3 (fb.2.2.2.2.2 (j / 16)) 0) _ = _
            have hm4 : lm_fmeet N (n, kn, nI c3) s3 (fb.2.2.2.2.2 (j / 16)) 0 = _ := hm4
            rw [hm4]
            rfl
          · intro i hi h1
            have h1 : s4.2 i = 1 := h1
            rcases (hs4 i hi).mp h1 with h1 | ⟨hx, rfl⟩
            · rcases (hs3 i hi).mp h1 with h1 | ⟨hx, rfl⟩
              · exact b3 i hi h1
              · rw [show (16 * ld_x M (j / 16) + 0) / 16 = ld_x M (j / 16) by omega]
                exact ⟨by omega, hx, hsnd _ ⟨hx, Or.inl rfl⟩⟩
            · rw [show (16 * ld_y M (j / 16) + 0) / 16 = ld_y M (j / 16) by omega]
              exact ⟨by omega, hx, hsnd _ ⟨hx, Or.inr rfl⟩⟩
          · intro x hx
            have hxk := hx.1
            exact (hs4 _ (by omega)).mpr (Or.inl ((hs3 _ (by omega)).mpr (Or.inl (b4 x hx))))
          · intro i hi h1 hni
            obtain ⟨f1, f2⟩ := hq4 i hi h1 hni
            obtain ⟨f3, f4⟩ := hq3 i hi f1 f2
            by_cases e1 : i = j
            · rw [e1]
              refine ⟨hus, Or.inr (fun x hx => ?_)⟩
              have hxk := hx.1
              show s4.2 (16 * x) = 1
              rcases hx.2 with e2 | e2
              · exact (hs4 _ (by omega)).mpr (Or.inl ((hs3 _ (by omega)).mpr (Or.inr ⟨by omega, by omega⟩)))
              · exact (hs4 _ (by omega)).mpr (Or.inr ⟨by omega, by omega⟩)
            · obtain ⟨g1, g2⟩ := b5 i hi f3 (fun z => f4 ((hip i hi).mpr ⟨z, e1⟩))
              refine ⟨g1, g2.imp id (fun g x hx => ?_)⟩
              have hxk := hx.1
              exact (hs4 _ (by omega)).mpr (Or.inl ((hs3 _ (by omega)).mpr (Or.inl (g x hx))))
          · show 1920 - ld_sn s4 + (nI c4).toNatClampNeg < 1920 - ld_sn s + (nI (c + 1)).toNatClampNeg
            have h2 := ld_sn_le s4
            have h3 : c4 ≤ ld_sn s4 := hk4.2.2.2
            rw [nI_clamp (by omega), nI_clamp (by omega)]
            omega
  · intro j hj h1
    rcases (hsn j hj).mp h1 with ⟨hx, rfl⟩ | ⟨hx, rfl⟩
    · rw [show 16 * ld_x M pt / 16 = ld_x M pt by omega]
      exact ⟨by omega, hx, fun V hV hb => hV pt _ r hpt ⟨hx, Or.inl rfl⟩ hb⟩
    · rw [show 16 * ld_y M pt / 16 = ld_y M pt by omega]
      exact ⟨by omega, hx, fun V hV hb => hV pt _ r hpt ⟨hx, Or.inr rfl⟩ hb⟩
  · intro x hx
    have hxk := hx.1
    rcases hx.2 with e | e
    · exact (hsn _ (by omega)).mpr (Or.inl ⟨by omega, by omega⟩)
    · exact (hsn _ (by omega)).mpr (Or.inr ⟨by omega, by omega⟩)
  · intro j hj h1 hni
    obtain ⟨f1, f2⟩ := hq2 j hj h1 hni
    obtain ⟨f3, f4⟩ := hq1 j hj f1 f2
    exact absurd f3 (hz1 j hj)
  · show 1920 - ld_sn s2 + (nI c2).toNatClampNeg < N
    have h3 : c2 ≤ ld_sn s2 := hk2.2.2.2
    have h2 := ld_sn_le s2
    rw [nI_clamp (by omega)]
    omega
