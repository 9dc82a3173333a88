/-! the reference's three searches -/
theorem ld_d16 {j : Nat} (hj : j < 1920) : nI j / 16 = nI (j / 16) := pk_div (d := 16) (by omega) (by omega) (by omega)
theorem ld_r16 {j : Nat} (hj : j < 1920) : nI j - nI j / 16 * 16 = nI (j % 16) := pk_rem (d := 16) (by omega) (by omega) (by omega)
/-- which points a way comes to -/
theorem ld_freach {fb : ld_bT} {n : Int32} {M : ld_M} (hr : ld_rel (ld_Gf fb n) M) {kn : Int32} {fe : ld_eT} {fs : ld_sT} {c : Nat} (hz : ∀ p, p < M.1 → fe.1 p = 0) (hk0 : ld_fk fs c) (hs0 : ∀ j, j < 1920 → (fs.2 j = 1 ↔ (0 < M.1 ∧ j = 0))) (hp0 : ∀ j, j < 1920 → fs.2 j = 1 → ld_ip fs c j) {N : Nat} (hN : 4000 < N) :
    ∃ fe' fs', ld_it (ls_flearn_2 N fb) N ((n, kn, nI c), fe, fs) = some ((n, kn, 0), fe', fs') ∧ fe'.2 = fe.2 ∧ (∀ p, p < M.1 → (fe'.1 p = 0 ∨ fe'.1 p = 1) ∧ (fe'.1 p = 1 ↔ ld_sR M p = true)) := by
  have hk := hr.1
  have hn : n = nI M.1 := hr.2.1
  have hL := ld_loop (f := ls_flearn_2 N fb) (fun v => ∃ c, v.1 = (n, kn, nI c) ∧ ld_fk v.2.2 c ∧ v.2.1.2 = fe.2 ∧ (∀ j, j < 1920 → v.2.2.2 j = 1 → j % 16 = 0 ∧ j / 16 < M.1 ∧ ld_sR M (j / 16) = true) ∧ (0 < M.1 → v.2.2.2 0 = 1) ∧ (∀ j, j < 1920 → v.2.2.2 j = 1 → ¬ ld_ip v.2.2 c j → ∀ x, ld_nx M (j / 16) x → v.2.2.2 (16 * x) = 1) ∧ (∀ p, p < M.1 → (v.2.1.1 p = 0 ∨ v.2.1.1 p = 1) ∧ (v.2.1.1 p = 1 ↔ (v.2.2.2 (16 * p) = 1 ∧ ¬ ld_ip v.2.2 c (16 * p))))) (fun v => 1920 - ld_sn v.2.2 + v.1.2.2.toNatClampNeg) (fun v => v.1 = (n, kn, 0) ∧ v.2.1.2 = fe.2 ∧ (∀ p, p < M.1 → (v.2.1.1 p = 0 ∨ v.2.1.1 p = 1) ∧ (v.2.1.1 p = 1 ↔ ld_sR M p = true))) ?_ N ((n, kn, nI c), fe, fs) ⟨c, rfl, hk0, rfl, ?_, ?_, ?_, ?_⟩ ?_
  · obtain ⟨Y, hY, h1, h2, h3⟩ := hL
    refine ⟨Y.2.1, Y.2.2, ?_, h2, h3⟩
    rw [hY, ← h1]
  · rintro ⟨o, e, s⟩ ⟨c, a1, a2, a3, a4, a5, a6, a7⟩
    have b1 : o = (n, kn, nI c) := a1
    have b2 : ld_fk s c := a2
    have b3 : e.2 = fe.2 := a3
    have b4 : ∀ j, j < 1920 → s.2 j = 1 → j % 16 = 0 ∧ j / 16 < M.1 ∧ ld_sR M (j / 16) = true := a4
    have b5 : 0 < M.1 → s.2 0 = 1 := a5
    have b6 : ∀ j, j < 1920 → s.2 j = 1 → ¬ ld_ip s c j → ∀ x, ld_nx M (j / 16) x → s.2 (16 * x) = 1 := a6
    have b7 : ∀ p, p < M.1 → (e.1 p = 0 ∨ e.1 p = 1) ∧ (e.1 p = 1 ↔ (s.2 (16 * p) = 1 ∧ ¬ ld_ip s c (16 * p))) := a7
    clear a1 a2 a3 a4 a5 a6 a7
    subst b1
    have hcs : c ≤ ld_sn s := b2.2.2.2
    have hsl := ld_sn_le s
    cases c with
    | zero =>
      right
      refine ⟨((n, kn, nI 0), e, s), ?_, rfl, b3, fun p hp => ⟨(b7 p hp).1, ?_⟩⟩
      · unfold ls_flearn_2
        rw [if_pos (show nI 0 ≤ 0 from by decide)]
      · show e.1 p = 1 ↔ _
        rw [(b7 p hp).2]
        constructor
        · intro h
          have := (b4 (16 * p) (by omega) h.1).2.2
          rwa [show 16 * p / 16 = p by omega] at this
        · intro h
          have hcl : ld_clR M (fun p => decide (s.2 (16 * p) = 1)) := by
            refine ⟨fun h0 => decide_eq_true (b5 h0), fun p q hp hS hnx => ?_⟩
            have hS : s.2 (16 * p) = 1 := of_decide_eq_true hS
            exact decide_eq_true (b6 (16 * p) (by omega) hS ld_ip_0 q (by rw [show 16 * p / 16 = p by omega]; exact hnx))
          exact ⟨of_decide_eq_true (ld_sR_iff.mp h _ hcl), ld_ip_0⟩
    | succ c =>
      left
      obtain ⟨j, hj, ej, ej1, hipj, hfk, hip⟩ := ld_fpop b2
      obtain ⟨hj16, hjk, hjR⟩ := b4 j hj ej1
      obtain ⟨-, -, -, -, -, hnx, hny⟩ := hr.2.2 (j / 16) hjk
      have hnx : ld_nxI (fb.2.2.2.2.1 (j / 16)) (ld_x M (j / 16)) := hnx
      have hny : ld_nxI (fb.2.2.2.2.2 (j / 16)) (ld_y M (j / 16)) := hny
      have hsR : ∀ x, ld_nx M (j / 16) x → ld_sR M x = true := by
        intro x hx
        rw [ld_sR_iff] at hjR ⊢
        exact fun V hV => hV.2 _ x hjk (hjR V hV) hx
      have hn1 : ((n, kn, nI c) : Int32 × Int32 × Int32).1 = nI M.1 := hn
      obtain ⟨s1, c1, hm1, hk1, hs1, hq1, hi1, hu1, hc1⟩ := ld_fmeet (fo := (n, kn, nI c)) hn1 hk hfk rfl (ld_fnxP hn1 hk hnx) (r := 0) (by omega) N
      have hn2 : ((n, kn, nI c1) : Int32 × Int32 × Int32).1 = nI M.1 := hn
      obtain ⟨s2, c2, hm2, hk2, hs2, hq2, hi2, hu2, hc2⟩ := ld_fmeet (fo := (n, kn, nI c1)) hn2 hk hk1 rfl (ld_fnxP hn2 hk hny) (r := 0) (by omega) N
      have hip2 : ∀ i, i < 1920 → s.2 i = 1 → (ld_ip s2 c2 i ↔ (ld_ip s (c + 1) i ∧ i ≠ j)) := by
        intro i hi h1
        rw [← hip i hi]
        constructor
        · intro z
          rcases hu2 i hi z with z | z
          · rcases hu1 i hi z with z | z
            · exact z
            · exact absurd h1 z
          · exact absurd ((hs1 i hi).mpr (Or.inl h1)) z
        · intro z; exact hi2 i hi (hi1 i hi z)
      refine ⟨((n, kn, nI c2), (upd e.1 (j / 16) 1, e.2.1, e.2.2), s2), ?_, ⟨c2, rfl, hk2, b3, ?_, ?_, ?_, ?_⟩, ?_⟩
      · unfold ls_flearn_2
        have e0 : ¬ nI (c + 1) ≤ 0 := nI_nle (by omega) (by omega)
        show (if nI (c + 1) ≤ 0 then _ else if ld_in (nI (c + 1) - 1) 1920 = true then (if ld_in ((s.1 (nI (c + 1) - 1).toNatClampNeg) / 16) 120 = true then (Option.bind (lm_fmeet N (n, kn, nI (c + 1) - 1) s (fb.2.2.2.2.1 ((s.1 (nI (c + 1) - 1).toNatClampNeg) / 16).toNatClampNeg) 0) (fun r_19 => Option.bind (lm_fmeet N r_19.1 r_19.2 (fb.2.2.2.2.2 ((s.1 (nI (c + 1) - 1).toNatClampNeg) / 16).toNatClampNeg) 0) (fun r_20 => some (Sum.inl (r_20.1, (upd e.1 (((s.1 (nI (c + 1) - 1).toNatClampNeg) / 16).toNatClampNeg) (vp_nar .boolean 1), e.2.1, e.2.2), r_20.2))))) else none) else none) = _
        rw [if_neg e0, nI_pred, if_pos (ld_in_nI (by omega) (by omega)), nI_clamp (by omega), ej, ld_d16 hj, if_pos (ld_in_nI (by omega) (by omega)), nI_clamp (by omega)]
        have hm1 : lm_fmeet N (n, kn, nI c) s (fb.2.2.2.2.1 (j / 16)) 0 = _ := hm1
        rw [hm1]
        show Option.bind (lm_fmeet N (n, kn, nI c1) s1 (fb.2.2.2.2.2 (j / 16)) 0) _ = _
        have hm2 : lm_fmeet N (n, kn, nI c1) s1 (fb.2.2.2.2.2 (j / 16)) 0 = _ := hm2
        rw [hm2]
        rfl
      · intro i hi h1
        have h1 : s2.2 i = 1 := h1
        rcases (hs2 i hi).mp h1 with h1 | ⟨hx, rfl⟩
        · rcases (hs1 i hi).mp h1 with h1 | ⟨hx, rfl⟩
          · exact b4 i hi h1
          · exact ⟨by omega, by rw [show (16 * ld_x M (j / 16) + 0) / 16 = ld_x M (j / 16) by omega]; exact hx, by rw [show (16 * ld_x M (j / 16) + 0) / 16 = ld_x M (j / 16) by omega]; exact hsR _ ⟨hx, Or.inl rfl⟩⟩
        · exact ⟨by omega, by rw [show (16 * ld_y M (j / 16) + 0) / 16 = ld_y M (j / 16) by omega]; exact hx, by rw [show (16 * ld_y M (j / 16) + 0) / 16 = ld_y M (j / 16) by omega]; exact hsR _ ⟨hx, Or.inr rfl⟩⟩
      · intro h0; exact (hs2 0 (by omega)).mpr (Or.inl ((hs1 0 (by omega)).mpr (Or.inl (b5 h0))))
      · intro i hi h1 hni x hx
        have hxk := hx.1
        obtain ⟨f1, f2⟩ := hq2 i hi h1 hni
        obtain ⟨f3, f4⟩ := hq1 i hi f1 f2
        show s2.2 (16 * x) = 1
        by_cases e1 : i = j
        · subst e1
          rcases hx.2 with e2 | e2
          · exact (hs2 _ (by omega)).mpr (Or.inl ((hs1 _ (by omega)).mpr (Or.inr ⟨by omega, by omega⟩)))
          · exact (hs2 _ (by omega)).mpr (Or.inr ⟨by omega, by omega⟩)
        · have f5 : ¬ ld_ip s (c + 1) i := fun z => f4 ((hip i hi).mpr ⟨z, e1⟩)
          exact (hs2 _ (by omega)).mpr (Or.inl ((hs1 _ (by omega)).mpr (Or.inl (b6 i hi f3 f5 x hx))))
      · intro p hp
        show (upd e.1 (j / 16) 1 p = 0 ∨ upd e.1 (j / 16) 1 p = 1) ∧ (upd e.1 (j / 16) 1 p = 1 ↔ _)
        by_cases e1 : p = j / 16
        · rw [e1, pk_us]
          refine ⟨Or.inr rfl, fun _ => ?_, fun _ => rfl⟩
          have e2 : 16 * (j / 16) = j := by omega
          rw [e2]
          refine ⟨(hs2 j hj).mpr (Or.inl ((hs1 j hj).mpr (Or.inl ej1))), fun z => ?_⟩
          exact ((hip2 j hj ej1).mp z).2 rfl
        · rw [pk_un e1]
          refine ⟨(b7 p hp).1, ?_⟩
          rw [(b7 p hp).2]
          have hne : 16 * p ≠ j := by omega
          constructor
          · rintro ⟨g1, g2⟩
            exact ⟨(hs2 _ (by omega)).mpr (Or.inl ((hs1 _ (by omega)).mpr (Or.inl g1))), fun z => g2 ((hip2 _ (by omega) g1).mp z).1⟩
          · rintro ⟨g1, g2⟩
            obtain ⟨f1, f2⟩ := hq2 _ (by omega) g1 g2
            obtain ⟨f3, f4⟩ := hq1 _ (by omega) f1 f2
            exact ⟨f3, fun z => f4 ((hip _ (by omega)).mpr ⟨z, hne⟩)⟩
      · show 1920 - ld_sn s2 + (nI c2).toNatClampNeg < 1920 - ld_sn s + (nI (c + 1)).toNatClampNeg
        have h2 := ld_sn_le s2
        have h3 : c2 ≤ ld_sn s2 := hk2.2.2.2
        rw [nI_clamp (by omega), nI_clamp (by omega)]
        omega
  · intro j hj h1
    obtain ⟨h0, rfl⟩ := (hs0 j hj).mp h1
    refine ⟨by omega, by omega, ?_⟩
    rw [ld_sR_iff]
    exact fun V hV => hV.1 h0
  · intro h0; exact (hs0 0 (by omega)).mpr ⟨h0, rfl⟩
  · intro j hj h1 hni; exact absurd (hp0 j hj h1) hni
  · intro p hp
    show (fe.1 p = 0 ∨ fe.1 p = 1) ∧ (fe.1 p = 1 ↔ _)
    rw [hz p hp]
    refine ⟨Or.inl rfl, fun z => absurd z (by decide), fun z => absurd (hp0 _ (by omega) z.1) z.2⟩
  · show 1920 - ld_sn fs + (nI c).toNatClampNeg < N
    have h3 : c ≤ ld_sn fs := hk0.2.2.2
    have h2 := ld_sn_le fs
    rw [nI_clamp (by omega)]
    omega
