/-! the reference: who holds a loan -/
def ld_xt (fs : ld_sT) (c : Nat) (fs' : ld_sT) (c' : Nat) (P : Nat → Prop) : Prop := ld_fk fs' c' ∧ (∀ j, j < 1920 → (fs'.2 j = 1 ↔ fs.2 j = 1 ∨ P j)) ∧ (∀ j, j < 1920 → fs'.2 j = 1 → ¬ ld_ip fs' c' j → fs.2 j = 1 ∧ ¬ ld_ip fs c j) ∧ (∀ j, j < 1920 → ld_ip fs c j → ld_ip fs' c' j) ∧ (∀ j, j < 1920 → ld_ip fs' c' j → ld_ip fs c j ∨ ¬ fs.2 j = 1) ∧ ld_sn fs' + c = ld_sn fs + c'
theorem ld_xt.rf {fs : ld_sT} {c : Nat} {P : Nat → Prop} (h : ld_fk fs c) (hP : ∀ j, ¬ P j) : ld_xt fs c fs c P := ⟨h, fun j _ => ⟨fun z => Or.inl z, fun z => z.elim id (fun y => absurd y (hP j))⟩, fun _ _ a b => ⟨a, b⟩, fun _ _ z => z, fun _ _ z => Or.inl z, rfl⟩
theorem ld_xt.tr {fs fs1 fs2 : ld_sT} {c c1 c2 : Nat} {P P' Q : Nat → Prop} (h : ld_xt fs c fs1 c1 P) (h' : ld_xt fs1 c1 fs2 c2 P') (hQ : ∀ j, Q j ↔ (P j ∨ P' j)) : ld_xt fs c fs2 c2 Q := by
  obtain ⟨a1, a2, a3, a4, a5, a6⟩ := h
  obtain ⟨b1, b2, b3, b4, b5, b6⟩ := h'
  refine ⟨b1, fun j hj => ?_, fun j hj e hi => ?_, fun j hj z => b4 j hj (a4 j hj z), fun j hj z => ?_, by omega⟩
  · rw [b2 j hj, a2 j hj, hQ j, or_assoc]
  · obtain ⟨f1, f2⟩ := b3 j hj e hi
    exact a3 j hj f1 f2
  · rcases b5 j hj z with z | z
    · exact a5 j hj z
    · exact Or.inr (fun y => z ((a2 j hj).mpr (Or.inl y)))
theorem ld_xt.im {fs fs1 : ld_sT} {c c1 : Nat} {P Q : Nat → Prop} (h : ld_xt fs c fs1 c1 P) (hQ : ∀ j, Q j ↔ P j) : ld_xt fs c fs1 c1 Q := ⟨h.1, fun j hj => by rw [h.2.1 j hj, hQ j], h.2.2⟩
/-- the pairs that a holder behind a point gives on to a point behind it -/
def ld_T (M : ld_M) (x r j : Nat) : Prop := x < M.1 ∧ ((¬ ld_ch M x r ∧ j = 16 * x + r) ∨ (ld_d M x = 2 ∧ ld_b M x = r ∧ j = 16 * x + ld_a M x))
theorem ld_fthr {fb : ld_bT} {n : Int32} {M : ld_M} (hr : ld_rel (ld_Gf fb n) M) {kn : Int32} {fs : ld_sT} {c : Nat} (h : ld_fk fs c) {v : Int32} {x r : Nat} (hv : ld_nxI v x) (hr16 : r < 16) (N : Nat) :
    ∃ fs' c', lm_fthrough N (n, kn, nI c) fb fs v (nI r) = some ((n, kn, nI c'), fs') ∧ ld_xt fs c fs' c' (ld_T M x r) := by
  have hk := hr.1
  have hn : n = nI M.1 := hr.2.1
  have hn1 : ((n, kn, nI c) : Int32 × Int32 × Int32).1 = nI M.1 := hn
  rcases ld_fnxP hn1 hk hv with ⟨hx, rfl, hp⟩ | ⟨hx, hp⟩
  · obtain ⟨⟨hd7, ed⟩, ha, hb2, -⟩ := hr.2.2 x hx
    have ed : fb.1 x = nI (ld_d M x) := ed
    -- the second giving on
    have hsec : ∀ (s1 : ld_sT) (c1 : Nat), ld_fk s1 c1 → ∃ fs' c', (if ld_in (nI x) 120 = true then (if (fb.1 (nI x).toNatClampNeg) = 2 then if (fb.2.2.1 (nI x).toNatClampNeg) = nI r then Option.bind (lm_fmeet N (n, kn, nI c1) s1 (nI x) (fb.2.1 (nI x).toNatClampNeg)) (fun r_8 => some (r_8.1, r_8.2)) else some ((n, kn, nI c1), s1) else some ((n, kn, nI c1), s1)) else none) = some ((n, kn, nI c'), fs') ∧ ld_xt s1 c1 fs' c' (fun j => ld_d M x = 2 ∧ ld_b M x = r ∧ j = 16 * x + ld_a M x) := by
      intro s1 c1 h1
      rw [if_pos (ld_in_nI (by omega) (by omega)), nI_clamp (by omega), ed]
      by_cases e2 : ld_d M x = 2
      · obtain ⟨hb16, eb⟩ := hb2 e2
        obtain ⟨ha16, ea⟩ := ha (by omega) (by omega)
        have eb : fb.2.2.1 x = nI (ld_b M x) := eb
        have ea : fb.2.1 x = nI (ld_a M x) := ea
        rw [if_pos (show nI (ld_d M x) = (2 : Int32) from by rw [e2]; rfl), eb, ea]
        by_cases e3 : ld_b M x = r
        · have hn2 : ((n, kn, nI c1) : Int32 × Int32 × Int32).1 = nI M.1 := hn
          obtain ⟨s2, c2, hm2, hx2⟩ := ld_fmeet (fo := (n, kn, nI c1)) hn2 hk h1 rfl (Or.inl ⟨hx, rfl, ld_fp1 hn2 hk hx⟩) (r := ld_a M x) ha16 N
          refine ⟨s2, c2, ?_, ld_xt.im (P := fun j => x < M.1 ∧ j = 16 * x + ld_a M x) hx2 (fun j => ⟨fun z => ⟨hx, z.2.2⟩, fun z => ⟨e2, e3, z.2⟩⟩)⟩
          rw [if_pos (show nI (ld_b M x) = nI r from by rw [e3]), hm2]
          rfl
        · refine ⟨s1, c1, ?_, ld_xt.rf h1 (fun j z => e3 z.2.1)⟩
          rw [if_neg (fun z => e3 ((nI_eq (by omega) (by omega)).mp z))]
      · refine ⟨s1, c1, ?_, ld_xt.rf h1 (fun j z => e2 z.1)⟩
        rw [if_neg (show ¬ nI (ld_d M x) = (2 : Int32) from fun z => e2 ((nI_eq (b := 2) (by omega) (by omega)).mp z))]
    rcases ld_fchg hr hx hr16 N (n, kn, nI c) with ⟨hch, hc9⟩ | ⟨hch, hc9⟩
    · obtain ⟨s2, c2, hm2, hx2⟩ := hsec fs c h
      refine ⟨s2, c2, ?_, hx2.im (fun j => ⟨fun z => z.2.elim (fun y => absurd hc9 y.1) id, fun z => ⟨hx, Or.inr z⟩⟩)⟩
      simp only [lm_fthrough, ld_lt]
      rw [hp, if_neg (by decide), hch]
      exact hm2
    · obtain ⟨s1, c1, hm1, hx1⟩ := ld_fmeet (fo := (n, kn, nI c)) hn1 hk h rfl (Or.inl ⟨hx, rfl, hp⟩) hr16 N
      have hx1 : ld_xt fs c s1 c1 (fun j => x < M.1 ∧ j = 16 * x + r) := hx1
      obtain ⟨s2, c2, hm2, hx2⟩ := hsec s1 c1 hx1.1
      refine ⟨s2, c2, ?_, hx1.tr hx2 (fun j => ?_)⟩
      · simp only [lm_fthrough, ld_lt]
        rw [hp, if_neg (by decide), hch]
        show Option.bind (lm_fmeet N (n, kn, nI c) fs (nI x) (nI r)) _ = _
        rw [hm1]
        exact hm2
      · constructor
        · rintro ⟨-, z | z⟩
          · exact Or.inl ⟨hx, z.2⟩
          · exact Or.inr z
        · rintro (z | z)
          · exact ⟨hx, Or.inl ⟨hc9, z.2⟩⟩
          · exact ⟨hx, Or.inr z⟩
  · refine ⟨fs, c, ?_, ld_xt.rf h (fun j z => hx z.1)⟩
    simp only [lm_fthrough, ld_lt]
    rw [hp, if_pos rfl]
theorem ld_sB_16 {G : ld_gT} {M : ld_M} (hr : ld_rel G M) {L p i : Nat} (hp : p < M.1) (hi : 16 ≤ i) : ld_sB M L p i = false := by
  have hA : ld_clH M L (fun _ j => decide (j < 16)) := by
    intro p q j hp hnx hb
    rcases Nat.lt_or_ge j 16 with q1 | q1
    · exact decide_eq_true q1
    · rw [ld_hB_16 hr hp q1 (decide_eq_false (by omega))] at hb
      cases hb
  have hAi : ld_sA M L p i = false := by
    cases hq : ld_sA M L p i with
    | false => rfl
    | true => exact absurd (of_decide_eq_true (ld_sA_iff.mp hq _ hA)) (by omega)
  unfold ld_sB
  exact ld_hB_16 hr hp hi hAi
theorem ld_hB_nc {M : ld_M} {L p r : Nat} {A : Nat → Bool} (h : ¬ ld_ch M p r) (hA : A r = true) : ld_hB M L p A r = true := by
  unfold ld_hB
  unfold ld_ch at h
  by_cases h1 : ld_d M p = 1
  · rw [if_pos h1, if_neg (by omega)]; exact hA
  · rw [if_neg h1]
    by_cases h2 : ld_d M p = 2
    · rw [if_pos h2, if_neg (by omega)]; exact hA
    · rw [if_neg h2]
      by_cases h3 : ld_d M p = 3
      · rw [if_pos h3, if_neg (by omega)]; exact hA
      · rw [if_neg h3]; exact hA
/-- what is held behind a point is held ahead of the next -/
theorem ld_sA_nx {M : ld_M} {L p x r : Nat} (hp : p < M.1) (hnx : ld_nx M p x) (h : ld_sB M L p r = true) : ld_sA M L x r = true := by
  rw [ld_sA_iff]
  intro V hV
  exact hV p x r hp hnx (ld_hB_mono (fun i hi => ld_sA_iff.mp hi V hV) h)
theorem ld_fgo {fb : ld_bT} {n : Int32} {M : ld_M} (hr : ld_rel (ld_Gf fb n) M) {kn : Int32} {fe : ld_eT} {fs : ld_sT} {L c : Nat} (hL : L < M.1) (hd : ld_d M L = 1) (hLR : ld_sR M L = true) (hz : ∀ p, p < M.1 → fe.2.2 (120 * L + p) = 0) (hk0 : ld_fk fs c) (hs0 : ∀ j, j < 1920 → (fs.2 j = 1 ↔ j = 16 * L + ld_a M L)) (hp0 : ∀ j, j < 1920 → fs.2 j = 1 → ld_ip fs c j) {N : Nat} (hN : 4000 < N) :
    ∃ fe' fs', ld_it (ls_fgoAll_1 N fb (nI L)) N ((n, kn, nI c), fe, fs) = some ((n, kn, 0), fe', fs') ∧ fe'.1 = fe.1 ∧ fe'.2.1 = fe.2.1 ∧ (∀ p, p < M.1 → ∀ i, bt (fe'.2.2 (120 * L + p)) i = ld_sB M L p i) ∧ (∀ q, q < 14400 → (∀ p, p < M.1 → q ≠ 120 * L + p) → fe'.2.2 q = fe.2.2 q) := by
  have hk := hr.1
  have hn : n = nI M.1 := hr.2.1
  obtain ⟨-, haL, -⟩ := hr.2.2 L hL
  have haL := (haL (by omega) (by omega)).1
  have hLp := ld_loop (f := ls_fgoAll_1 N fb (nI L)) (fun v => ∃ c, v.1 = (n, kn, nI c) ∧ ld_fk v.2.2 c ∧ v.2.1.1 = fe.1 ∧ v.2.1.2.1 = fe.2.1 ∧ (∀ j, j < 1920 → v.2.2.2 j = 1 → j / 16 < M.1 ∧ ld_sB M L (j / 16) (j % 16) = true) ∧ v.2.2.2 (16 * L + ld_a M L) = 1 ∧ (∀ j, j < 1920 → v.2.2.2 j = 1 → ¬ ld_ip v.2.2 c j → ∀ x, ld_nx M (j / 16) x → ∀ i, i < 1920 → ld_T M x (j % 16) i → v.2.2.2 i = 1) ∧ (∀ p, p < M.1 → ld_16 (v.2.1.2.2 (120 * L + p)) ∧ ∀ i, i < 16 → (bt (v.2.1.2.2 (120 * L + p)) i = true ↔ (v.2.2.2 (16 * p + i) = 1 ∧ ¬ ld_ip v.2.2 c (16 * p + i)))) ∧ (∀ q, q < 14400 → (∀ p, p < M.1 → q ≠ 120 * L + p) → v.2.1.2.2 q = fe.2.2 q)) (fun v => 1920 - ld_sn v.2.2 + v.1.2.2.toNatClampNeg) (fun v => v.1 = (n, kn, 0) ∧ v.2.1.1 = fe.1 ∧ v.2.1.2.1 = fe.2.1 ∧ (∀ p, p < M.1 → ∀ i, bt (v.2.1.2.2 (120 * L + p)) i = ld_sB M L p i) ∧ (∀ q, q < 14400 → (∀ p, p < M.1 → q ≠ 120 * L + p) → v.2.1.2.2 q = fe.2.2 q)) ?_ N ((n, kn, nI c), fe, fs) ⟨c, rfl, hk0, rfl, rfl, ?_, ?_, ?_, ?_, fun q _ _ => rfl⟩ ?_
  · obtain ⟨Y, hY, h1, h2, h3, h4, h5⟩ := hLp
    refine ⟨Y.2.1, Y.2.2, ?_, h2, h3, h4, h5⟩
    rw [hY, ← h1]
  · rintro ⟨o, e, s⟩ ⟨c, a1, a2, a3, a4, a5, a6, a7, a8, a9⟩
    have b1 : o = (n, kn, nI c) := a1
    have b2 : ld_fk s c := a2
    have b3 : e.1 = fe.1 := a3
    have b4 : e.2.1 = fe.2.1 := a4
    have b5 : ∀ j, j < 1920 → s.2 j = 1 → j / 16 < M.1 ∧ ld_sB M L (j / 16) (j % 16) = true := a5
    have b6 : s.2 (16 * L + ld_a M L) = 1 := a6
    have b7 : ∀ j, j < 1920 → s.2 j = 1 → ¬ ld_ip s c j → ∀ x, ld_nx M (j / 16) x → ∀ i, i < 1920 → ld_T M x (j % 16) i → s.2 i = 1 := a7
    have b8 : ∀ p, p < M.1 → ld_16 (e.2.2 (120 * L + p)) ∧ ∀ i, i < 16 → (bt (e.2.2 (120 * L + p)) i = true ↔ (s.2 (16 * p + i) = 1 ∧ ¬ ld_ip s c (16 * p + i))) := a8
    have b9 : ∀ q, q < 14400 → (∀ p, p < M.1 → q ≠ 120 * L + p) → e.2.2 q = fe.2.2 q := a9
    clear a1 a2 a3 a4 a5 a6 a7 a8 a9
    subst b1
    have hcs : c ≤ ld_sn s := b2.2.2.2
    have hsl := ld_sn_le s
    cases c with
    | zero =>
      right
      refine ⟨((n, kn, nI 0), e, s), ?_, rfl, b3, b4, fun p hp i => ?_, b9⟩
      · unfold ls_fgoAll_1
        rw [if_pos (show nI 0 ≤ 0 from by decide)]
      · show bt (e.2.2 (120 * L + p)) i = _
        rcases Nat.lt_or_ge i 16 with hi | hi
        · refine ld_beq (fun hb => ?_) (fun hb => ?_)
          · have h1 := (((b8 p hp).2 i hi).mp hb).1
            have := (b5 _ (by omega) h1).2
            rwa [show (16 * p + i) / 16 = p by omega, show (16 * p + i) % 16 = i by omega] at this
          · -- what is ahead, by what was seen
            have hV : ∀ p, p < M.1 → ∀ i, ld_hB M L p (fun i => @decide (∃ p', p' < M.1 ∧ ld_nx M p' p ∧ i < 16 ∧ s.2 (16 * p' + i) = 1) (Classical.propDecidable _)) i = true → i < 16 ∧ s.2 (16 * p + i) = 1 := by
              intro p hp i hb
              have hgo : ∀ r, (@decide (∃ p', p' < M.1 ∧ ld_nx M p' p ∧ r < 16 ∧ s.2 (16 * p' + r) = 1) (Classical.propDecidable _)) = true → r < 16 ∧ ∀ z, z < 1920 → ld_T M p r z → s.2 z = 1 := by
                intro r hr9
                obtain ⟨p', hp', hnx, hr16, hs⟩ := @of_decide_eq_true _ (Classical.propDecidable _) hr9
                refine ⟨hr16, fun z hz9 hT => ?_⟩
                refine b7 (16 * p' + r) (by omega) hs ld_ip_0 p ?_ z hz9 ?_
                · rw [show (16 * p' + r) / 16 = p' by omega]; exact hnx
                · rw [show (16 * p' + r) % 16 = r by omega]; exact hT
              obtain ⟨⟨hd7, -⟩, hap, -⟩ := hr.2.2 p hp
              have hkeep : ¬ ld_ch M p i → (@decide (∃ p', p' < M.1 ∧ ld_nx M p' p ∧ i < 16 ∧ s.2 (16 * p' + i) = 1) (Classical.propDecidable _)) = true → i < 16 ∧ s.2 (16 * p + i) = 1 := by
                intro hc9 h9
                obtain ⟨h1, h2⟩ := hgo i h9
                exact ⟨h1, h2 _ (by omega) ⟨hp, Or.inl ⟨hc9, rfl⟩⟩⟩
              unfold ld_hB at hb
              by_cases h1 : ld_d M p = 1
              · rw [if_pos h1] at hb
                have hap := (hap (by omega) (by omega)).1
                by_cases ei : i = ld_a M p
                · rw [if_pos ei] at hb
                  have epL := of_decide_eq_true hb
                  rw [ei, epL] at *
                  exact ⟨haL, b6⟩
                · rw [if_neg ei] at hb
                  exact hkeep (fun z => ei z.2.2.symm) hb
              · rw [if_neg h1] at hb
                by_cases h2 : ld_d M p = 2
                · rw [if_pos h2] at hb
                  have hap := (hap (by omega) (by omega)).1
                  by_cases ei : i = ld_a M p
                  · rw [if_pos ei] at hb
                    obtain ⟨g1, g2⟩ := hgo _ hb
                    rw [ei]
                    exact ⟨hap, g2 _ (by omega) ⟨hp, Or.inr ⟨h2, rfl, rfl⟩⟩⟩
                  · rw [if_neg ei] at hb
                    exact hkeep (fun z => ei z.2.2.symm) hb
                · rw [if_neg h2] at hb
                  by_cases h3 : ld_d M p = 3
                  · rw [if_pos h3] at hb
                    by_cases ei : i = ld_a M p
                    · rw [if_pos ei] at hb; cases hb
                    · rw [if_neg ei] at hb
                      exact hkeep (fun z => ei z.2.2.symm) hb
                  · rw [if_neg h3] at hb
                    exact hkeep (fun z => by unfold ld_ch at z; omega) hb
            have hcl : ld_clH M L (fun q i => @decide (∃ p', p' < M.1 ∧ ld_nx M p' q ∧ i < 16 ∧ s.2 (16 * p' + i) = 1) (Classical.propDecidable _)) := by
              intro p q i hp hnx hb
              obtain ⟨h1, h2⟩ := hV p hp i hb
              exact @decide_eq_true _ (Classical.propDecidable _) ⟨p, hp, hnx, h1, h2⟩
            have h2 := hV p hp i (ld_hB_mono (fun z hz9 => ld_sA_iff.mp hz9 _ hcl) hb)
            exact ((b8 p hp).2 i hi).mpr ⟨h2.2, ld_ip_0⟩
        · rw [(b8 p hp).1 i hi, ld_sB_16 hr hp hi]
    | succ c =>
      left
      obtain ⟨j, hj, ej, ej1, hipj, hfk, hip⟩ := ld_fpop b2
      obtain ⟨hjk, hjB⟩ := b5 j hj ej1
      obtain ⟨-, -, -, -, -, hnx, hny⟩ := hr.2.2 (j / 16) hjk
      have hnx : ld_nxI (fb.2.2.2.2.1 (j / 16)) (ld_x M (j / 16)) := hnx
      have hny : ld_nxI (fb.2.2.2.2.2 (j / 16)) (ld_y M (j / 16)) := hny
      obtain ⟨s1, c1, hm1, hx1⟩ := ld_fthr hr (kn := kn) hfk hnx (r := j % 16) (by omega) N
      obtain ⟨s2, c2, hm2, hx2⟩ := ld_fthr hr (kn := kn) hx1.1 hny (r := j % 16) (by omega) N
      obtain ⟨hk2, hs2, hq2, hi2, hu2, hc2⟩ := hx1.tr hx2 (Q := fun i => ld_T M (ld_x M (j / 16)) (j % 16) i ∨ ld_T M (ld_y M (j / 16)) (j % 16) i) (fun _ => Iff.rfl)
      have hip2 : ∀ i, i < 1920 → s.2 i = 1 → (ld_ip s2 c2 i ↔ (ld_ip s (c + 1) i ∧ i ≠ j)) := by
        intro i hi h1
        rw [← hip i hi]
        constructor
        · intro z
          rcases hu2 i hi z with z | z
          · exact z
          · exact absurd h1 z
        · intro z; exact hi2 i hi z
      have hTB : ∀ x, ld_nx M (j / 16) x → ∀ i, i < 1920 → ld_T M x (j % 16) i → i / 16 < M.1 ∧ ld_sB M L (i / 16) (i % 16) = true := by
        intro x hx i hi hT
        have hA := ld_sA_nx hjk hx hjB
        obtain ⟨hxk, hT⟩ := hT
        obtain ⟨⟨hd7, -⟩, hax, -⟩ := hr.2.2 x hxk
        rcases hT with ⟨h1, rfl⟩ | ⟨h1, h2, rfl⟩
        · rw [show (16 * x + j % 16) / 16 = x by omega, show (16 * x + j % 16) % 16 = j % 16 by omega]
          exact ⟨hxk, ld_hB_nc h1 hA⟩
        · have hax := (hax (by omega) (by omega)).1
          rw [show (16 * x + ld_a M x) / 16 = x by omega, show (16 * x + ld_a M x) % 16 = ld_a M x by omega]
          refine ⟨hxk, ?_⟩
          unfold ld_sB ld_hB
          rw [if_neg (by omega), if_pos h1, if_pos rfl, h2]
          exact hA
      refine ⟨((n, kn, nI c2), (e.1, e.2.1, upd e.2.2 (120 * L + j / 16) (e.2.2 (120 * L + j / 16) ||| ((1 : Int32) <<< (nI (j % 16) &&& 31)))), s2), ?_, ⟨c2, rfl, hk2, b3, b4, ?_, ?_, ?_, ?_, ?_⟩, ?_⟩
      · unfold ls_fgoAll_1
        have e0 : ¬ nI (c + 1) ≤ 0 := nI_nle (by omega) (by omega)
        have ei : (120 : Int32) * nI L + nI (j / 16) = nI (120 * L + j / 16) := by rw [show (120 : Int32) * nI L = nI (120 * L) from pk_mul 120 L, nI_add]
        rw [if_neg (show ¬ nI (c + 1) ≤ 0 from e0)]
        simp only [nI_pred]
        rw [if_pos (ld_in_nI (by omega) (by omega)), nI_clamp (show c < 2 ^ 31 by omega), ej, ld_r16 hj, ld_d16 hj, ei, if_pos (ld_in_nI (by omega) (by omega)), if_pos (ld_in_nI (by omega) (by omega)), nI_clamp (show j / 16 < 2 ^ 31 by omega), nI_clamp (show 120 * L + j / 16 < 2 ^ 31 by omega), hm1]
        show Option.bind (lm_fthrough N (n, kn, nI c1) fb s1 (fb.2.2.2.2.2 (j / 16)) (nI (j % 16))) _ = _
        rw [hm2]
        rfl
      · intro i hi h1
        have h1 : s2.2 i = 1 := h1
        rcases (hs2 i hi).mp h1 with h1 | h1 | h1
        · exact b5 i hi h1
        · exact hTB _ ⟨h1.1, Or.inl rfl⟩ i hi h1
        · exact hTB _ ⟨h1.1, Or.inr rfl⟩ i hi h1
      · exact (hs2 _ (by omega)).mpr (Or.inl b6)
      · intro i hi h1 hni x hx z hz9 hT
        obtain ⟨f3, f4⟩ := hq2 i hi h1 hni
        show s2.2 z = 1
        by_cases e1 : i = j
        · subst e1
          rcases hx.2 with e2 | e2
          · subst e2; exact (hs2 z hz9).mpr (Or.inr (Or.inl hT))
          · subst e2; exact (hs2 z hz9).mpr (Or.inr (Or.inr hT))
        · exact (hs2 z hz9).mpr (Or.inl (b7 i hi f3 (fun y => f4 ((hip i hi).mpr ⟨y, e1⟩)) x hx z hz9 hT))
      · intro p hp
        show ld_16 (upd e.2.2 (120 * L + j / 16) _ (120 * L + p)) ∧ ∀ i, i < 16 → (bt (upd e.2.2 (120 * L + j / 16) _ (120 * L + p)) i = true ↔ _)
        have hother : ∀ i, i < 16 → 16 * p + i ≠ j → ((s.2 (16 * p + i) = 1 ∧ ¬ ld_ip s (c + 1) (16 * p + i)) ↔ (s2.2 (16 * p + i) = 1 ∧ ¬ ld_ip s2 c2 (16 * p + i))) := by
          intro i hi hne
          constructor
          · rintro ⟨g1, g2⟩
            exact ⟨(hs2 _ (by omega)).mpr (Or.inl g1), fun z => g2 ((hip2 _ (by omega) g1).mp z).1⟩
          · rintro ⟨g1, g2⟩
            obtain ⟨f3, f4⟩ := hq2 _ (by omega) g1 g2
            exact ⟨f3, fun z => f4 ((hip _ (by omega)).mpr ⟨z, hne⟩)⟩
        by_cases e1 : p = j / 16
        · subst e1
          rw [pk_us]
          refine ⟨ld_16_or (b8 _ hjk).1 (ld_16_bit (by omega)), fun i hi => ?_⟩
          rw [b_or, ld_bit (by omega) (by omega), Bool.or_eq_true, decide_eq_true_iff]
          by_cases e2 : i = j % 16
          · have e3 : 16 * (j / 16) + i = j := by omega
            rw [e3]
            refine ⟨fun _ => ⟨(hs2 j hj).mpr (Or.inl ej1), fun z => ((hip2 j hj ej1).mp z).2 rfl⟩, fun _ => Or.inr e2⟩
          · rw [← hother i hi (by omega), ← (b8 _ hjk).2 i hi]
            exact ⟨fun z => z.elim id (fun y => absurd y e2), fun z => Or.inl z⟩
        · rw [pk_un (by omega)]
          refine ⟨(b8 p hp).1, fun i hi => ?_⟩
          rw [(b8 p hp).2 i hi]
          exact hother i hi (by omega)
      · intro q hq hne
        show upd e.2.2 (120 * L + j / 16) _ q = _
        rw [pk_un (hne _ hjk)]
        exact b9 q hq hne
      · show 1920 - ld_sn s2 + (nI c2).toNatClampNeg < 1920 - ld_sn s + (nI (c + 1)).toNatClampNeg
        have h2 := ld_sn_le s2
        have h3 : c2 ≤ ld_sn s2 := hk2.2.2.2
        rw [nI_clamp (by omega), nI_clamp (by omega)]
        omega
  · intro j hj h1
    have e1 := (hs0 j hj).mp h1
    subst e1
    rw [show (16 * L + ld_a M L) / 16 = L by omega, show (16 * L + ld_a M L) % 16 = ld_a M L by omega]
    refine ⟨hL, ?_⟩
    unfold ld_sB ld_hB
    rw [if_pos hd, if_pos rfl, decide_eq_true rfl]
  · exact (hs0 _ (by omega)).mpr rfl
  · intro j hj h1 hni; exact absurd (hp0 j hj h1) hni
  · intro p hp
    show ld_16 (fe.2.2 (120 * L + p)) ∧ ∀ i, i < 16 → (bt (fe.2.2 (120 * L + p)) i = true ↔ _)
    rw [hz p hp]
    refine ⟨ld_16_0, fun i hi => ?_⟩
    rw [b_0]
    exact ⟨fun z => (by cases z), fun z => absurd (hp0 _ (by omega) z.1) z.2⟩
  · show 1920 - ld_sn fs + (nI c).toNatClampNeg < N
    have h3 : c ≤ ld_sn fs := hk0.2.2.2
    have h2 := ld_sn_le fs
    rw [nI_clamp (by omega)]
    omega
