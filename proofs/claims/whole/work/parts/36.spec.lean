/-! what the document asks, as functions of the mathematical graph -/
noncomputable def ld_sR (M : ld_M) (p : Nat) : Bool := @decide (∀ V, ld_clR M V → V p = true) (Classical.propDecidable _)
noncomputable def ld_sU (M : ld_M) (p i : Nat) : Bool := @decide (∀ V, ld_clU M V → V p i = true) (Classical.propDecidable _)
noncomputable def ld_sA (M : ld_M) (L p i : Nat) : Bool := @decide (∀ V, ld_clH M L V → V p i = true) (Classical.propDecidable _)
noncomputable def ld_sB (M : ld_M) (L p i : Nat) : Bool := ld_hB M L p (ld_sA M L p) i
theorem ld_sR_iff {M : ld_M} {p : Nat} : ld_sR M p = true ↔ ∀ V, ld_clR M V → V p = true := @decide_eq_true_iff _ (Classical.propDecidable _)
theorem ld_sU_iff {M : ld_M} {p i : Nat} : ld_sU M p i = true ↔ ∀ V, ld_clU M V → V p i = true := @decide_eq_true_iff _ (Classical.propDecidable _)
theorem ld_sA_iff {M : ld_M} {L p i : Nat} : ld_sA M L p i = true ↔ ∀ V, ld_clH M L V → V p i = true := @decide_eq_true_iff _ (Classical.propDecidable _)
theorem ld_sR_eq {M : ld_M} {S : Nat → Bool} (h : ld_lsR M S) {p : Nat} (hp : p < M.1) : S p = ld_sR M p := ld_beq (fun hs => ld_sR_iff.mpr (fun V hV => h.2 V hV p hp hs)) (fun hd => ld_sR_iff.mp hd S h.1)
theorem ld_sU_eq {M : ld_M} {S : Nat → Nat → Bool} (h : ld_lsU M S) {p : Nat} (hp : p < M.1) (i : Nat) : S p i = ld_sU M p i := ld_beq (fun hs => ld_sU_iff.mpr (fun V hV => h.2 V hV p i hp hs)) (fun hd => ld_sU_iff.mp hd S h.1)
theorem ld_sA_eq {M : ld_M} {L : Nat} {S : Nat → Nat → Bool} (h : ld_lsH M L S) {p : Nat} (hp : p < M.1) (i : Nat) : S p i = ld_sA M L p i := ld_beq (fun hs => ld_sA_iff.mpr (fun V hV => h.2 V hV p i hp hs)) (fun hd => ld_sA_iff.mp hd S h.1)
theorem ld_hB_src {M : ld_M} {L p : Nat} {A : Nat → Bool} {i : Nat} (h : ld_hB M L p A i = true) : (∃ j, A j = true) ∨ p = L := by
  unfold ld_hB at h
  by_cases h1 : ld_d M p = 1
  · rw [if_pos h1] at h
    by_cases e : i = ld_a M p
    · rw [if_pos e] at h; exact Or.inr (of_decide_eq_true h)
    · rw [if_neg e] at h; exact Or.inl ⟨i, h⟩
  · rw [if_neg h1] at h
    by_cases h2 : ld_d M p = 2
    · rw [if_pos h2] at h
      by_cases e : i = ld_a M p
      · rw [if_pos e] at h; exact Or.inl ⟨_, h⟩
      · rw [if_neg e] at h; exact Or.inl ⟨i, h⟩
    · rw [if_neg h2] at h
      by_cases h3 : ld_d M p = 3
      · rw [if_pos h3] at h
        by_cases e : i = ld_a M p
        · rw [if_pos e] at h; cases h
        · rw [if_neg e] at h; exact Or.inl ⟨i, h⟩
      · rw [if_neg h3] at h; exact Or.inl ⟨i, h⟩
/-- who holds a loan that a way comes to stands where a way comes to -/
theorem ld_sB_R {M : ld_M} {L p i : Nat} (hL : ld_sR M L = true) (h : ld_sB M L p i = true) : ld_sR M p = true := by
  have hcl : ld_clH M L (fun p _ => ld_sR M p) := by
    intro p q i hp hnx hb
    have hpR : ld_sR M p = true := by
      rcases ld_hB_src hb with ⟨_, h⟩ | h
      · exact h
      · rw [h]; exact hL
    show ld_sR M q = true
    rw [ld_sR_iff] at hpR ⊢
    exact fun V hV => hV.2 p q hp (hpR V hV) hnx
  rcases ld_hB_src h with ⟨j, hj⟩ | h
  · exact ld_sA_iff.mp hj _ hcl
  · rw [h]; exact hL
/-- the places go ill together -/
def ld_ag (M : ld_M) (p L : Nat) : Prop := (ld_d M p = 6 ∨ (ld_d M p = 1 ∧ ld_c M p = 1)) ∨ ((ld_d M p = 5 ∨ (ld_d M p = 1 ∧ ld_c M p = 0)) ∧ ld_c M L = 1)
noncomputable def ld_mt (M : ld_M) (p L : Nat) : Bool := @decide (L < M.1 ∧ p < M.1 ∧ ld_d M L = 1 ∧ ld_sR M L = true ∧ (∃ i, ld_sB M L p i = true ∧ ld_sU M p i = true ∧ ¬ (ld_d M p = 1 ∧ i = ld_a M p)) ∧ ld_ag M p L ∧ ld_ov (ld_b M p) (ld_b M L) = true) (Classical.propDecidable _)
theorem ld_mt_iff {M : ld_M} {p L : Nat} : ld_mt M p L = true ↔ (L < M.1 ∧ p < M.1 ∧ ld_d M L = 1 ∧ ld_sR M L = true ∧ (∃ i, ld_sB M L p i = true ∧ ld_sU M p i = true ∧ ¬ (ld_d M p = 1 ∧ i = ld_a M p)) ∧ ld_ag M p L ∧ ld_ov (ld_b M p) (ld_b M L) = true) := @decide_eq_true_iff _ (Classical.propDecidable _)
theorem ld_bi1 {b : Bool} : ld_bi b = 1 ↔ b = true := by cases b <;> decide
theorem ld_bi0 {b : Bool} : ld_bi b = 0 ↔ b = false := by cases b <;> decide
/-- what is found out of the ways -/
def ld_way (M : ld_M) (rc u : Nat → Int32) : Prop := (∀ j, j < 120 → rc j = 0 ∨ rc j = 1) ∧ (∀ j, j < 120 → rc j = 1 → j < M.1) ∧ (∀ p, p < M.1 → (rc p = 1 ↔ ld_sR M p = true)) ∧ (∀ p, p < M.1 → ∀ i, bt (u p) i = ld_sU M p i)
theorem ld_findWays {G : ld_gT} {M : ld_M} (hr : ld_rel G M) {dk : Int32 × Int32} {rc : Nat → Int32} {q : ld_pT} {u : Nat → Int32} (hq : ld_pk q 0) (hw : ¬ dk.1 = 0 → ld_way M rc u) {N : Nat} (hN : 2000 < N) :
    ∃ dk' rc' q' u', lm_findWays N dk G rc q u = some (dk', rc', q', u') ∧ ¬ dk'.1 = 0 ∧ dk'.2 = dk.2 ∧ ld_pk q' 0 ∧ ld_way M rc' u' := by
  unfold lm_findWays
  by_cases h : dk.1 = 0
  · obtain ⟨rc', q', h1, h2, h3, h4, h5⟩ := ld_rfind hr rc q hq (N := N) (by omega)
    obtain ⟨u', h6, h7, h8⟩ := ld_ufind hr u hN
    refine ⟨(1, dk.2), rc', q', u', ?_, (show ¬ (1 : Int32) = 0 from by decide), rfl, h2, h4, h5, fun p hp => ?_, fun p hp i => ld_sU_eq h7 hp i⟩
    · rw [if_pos h, h1]
      show Option.bind (lm_ufind N G u) _ = _
      rw [h6]
      rfl
    · have := ld_sR_eq h3 hp
      rw [← this]
      exact ⟨fun z => decide_eq_true z, fun z => of_decide_eq_true z⟩
  · refine ⟨dk, rc, q, u, ?_, h, rfl, hq, hw h⟩
    rw [if_neg h]
