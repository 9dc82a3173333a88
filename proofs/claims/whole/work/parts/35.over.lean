/-! places that overlap: class and reference alike -/
noncomputable def ld_ov (x y : Nat) : Bool := @decide (∃ j, x / 10 ^ j = y ∨ y / 10 ^ j = x) (Classical.propDecidable _)
theorem ld_ov_iff {x y : Nat} : ld_ov x y = true ↔ ∃ j, x / 10 ^ j = y ∨ y / 10 ^ j = x := by
  unfold ld_ov
  exact @decide_eq_true_iff _ (Classical.propDecidable _)
theorem ld_pws (l t : Nat) : l / 10 ^ (t + 1) = l / 10 ^ t / 10 := by rw [Nat.pow_succ, Nat.div_div_eq_div_mul]
theorem ld_pwl {l t j : Nat} (h : t ≤ j) : l / 10 ^ j ≤ l / 10 ^ t := Nat.div_le_div_left (Nat.pow_le_pow_right (by omega) h) (Nat.pow_pos (by omega))
theorem ld_pwl2 {l t j : Nat} (h : t < j) : l / 10 ^ j ≤ l / 10 ^ t / 10 := by
  rw [← ld_pws]
  exact ld_pwl h
/-- l cut to the first that is not above s -/
theorem ld_cut {l s t : Nat} (hs : 1 ≤ s) (h1 : l / 10 ^ t ≤ s) (h2 : ∀ i, i < t → s < l / 10 ^ i) : (l / 10 ^ t = s) ↔ ∃ j, l / 10 ^ j = s := by
  constructor
  · intro h; exact ⟨t, h⟩
  · rintro ⟨j, hj⟩
    rcases Nat.lt_trichotomy j t with h | h | h
    · have := h2 j h; omega
    · subst h; exact hj
    · have h3 := ld_pwl2 (l := l) h
      omega
theorem ld_ov_le {x y : Nat} (h : y ≤ x) (hy : 1 ≤ y) : ld_ov x y = true ↔ ∃ j, x / 10 ^ j = y := by
  rw [ld_ov_iff]
  constructor
  · rintro ⟨j, e | e⟩
    · exact ⟨j, e⟩
    · have : y / 10 ^ j ≤ y := Nat.div_le_self _ _
      exact ⟨0, by rw [Nat.pow_zero, Nat.div_one]; omega⟩
  · rintro ⟨j, e⟩; exact ⟨j, Or.inl e⟩
theorem ld_ov_ge {x y : Nat} (h : x ≤ y) (hx : 1 ≤ x) : ld_ov x y = true ↔ ∃ j, y / 10 ^ j = x := by
  rw [ld_ov_iff]
  constructor
  · rintro ⟨j, e | e⟩
    · have : x / 10 ^ j ≤ x := Nat.div_le_self _ _
      exact ⟨0, by rw [Nat.pow_zero, Nat.div_one]; omega⟩
    · exact ⟨j, e⟩
  · rintro ⟨j, e⟩; exact ⟨j, Or.inr e⟩
theorem ld_ovloop {p0 p1 : Int32} {l s N : Nat} (he : (if p1 < p0 then p1 else p0) = nI s) (hs : 1 ≤ s) (hs2 : s < 10000) (hl : l < 10000) (hN : 10 < N) : ∃ t, ld_it (ls_overlap_1 p0 p1) N (nI l, 0) = some (nI (l / 10 ^ t), nI t) ∧ l / 10 ^ t ≤ s ∧ ∀ i, i < t → s < l / 10 ^ i := by
  have hle : ∀ t, l / 10 ^ t ≤ l := fun t => Nat.div_le_self _ _
  have h4 : l / 10 ^ 4 = 0 := Nat.div_eq_of_lt (by omega)
  have hL := ld_loop (f := ls_overlap_1 p0 p1) (fun v => ∃ t, v = (nI (l / 10 ^ t), nI t) ∧ t ≤ 4 ∧ ∀ i, i < t → s < l / 10 ^ i) (fun v => 5 - v.2.toNatClampNeg) (fun v => ∃ t, v = (nI (l / 10 ^ t), nI t) ∧ l / 10 ^ t ≤ s ∧ ∀ i, i < t → s < l / 10 ^ i) ?_ N (nI l, 0) ⟨0, by rw [Nat.pow_zero, Nat.div_one]; rfl, by omega, fun i hi => by omega⟩ (by show 5 - _ < N; omega)
  · obtain ⟨Y, hY, t, rfl, h1, h2⟩ := hL
    exact ⟨t, hY, h1, h2⟩
  · rintro v ⟨t, rfl, ht, h2⟩
    have hm := hle t
    by_cases h : l / 10 ^ t ≤ s
    · right
      refine ⟨_, ?_, t, rfl, h, h2⟩
      unfold ls_overlap_1
      by_cases h5 : (4 : Int32) ≤ nI t
      · rw [if_pos (show (4 : Int32) ≤ nI t from h5)]
      · rw [if_neg (show ¬ (4 : Int32) ≤ nI t from h5), he, if_pos (show nI (l / 10 ^ t) ≤ nI s from nI_le h (by omega))]
    · left
      have ht4 : t < 4 := by
        rcases Nat.lt_or_ge t 4 with q | q
        · exact q
        · exact absurd (show l / 10 ^ t ≤ s by rw [show t = 4 by omega, h4]; omega) h
      refine ⟨(nI (l / 10 ^ (t + 1)), nI (t + 1)), ?_, ⟨t + 1, rfl, by omega, fun i hi => ?_⟩, ?_⟩
      · unfold ls_overlap_1
        rw [if_neg (show ¬ (4 : Int32) ≤ nI t from nI_ge (b := 4) ht4 (by omega)), he, if_neg (show ¬ nI (l / 10 ^ t) ≤ nI s from nI_ge (by omega) (by omega))]
        show some (Sum.inl (nI (l / 10 ^ t) / 10, nI t + 1)) = _
        rw [ld_d10 (by omega), nI_1, ld_pws]
      · by_cases e : i = t
        · subst e; omega
        · exact h2 i (by omega)
      · show 5 - (nI (t + 1)).toNatClampNeg < 5 - (nI t).toNatClampNeg
        rw [nI_clamp (by omega), nI_clamp (by omega)]
        omega
theorem ld_overlap {x y N : Nat} (hx : 1 ≤ x) (hx2 : x < 10000) (hy : 1 ≤ y) (hy2 : y < 10000) (hN : 10 < N) : lm_overlap N (nI x) (nI y) = some (ld_bi (ld_ov x y)) := by
  unfold lm_overlap
  by_cases h : y < x
  · have e1 : (if nI y < nI x then nI y else nI x) = nI y := if_pos (nI_lt h (by omega))
    have e2 : (if nI x < nI y then nI y else nI x) = nI x := if_neg (nI_nlt (by omega) (by omega))
    obtain ⟨t, hY, h1, h2⟩ := ld_ovloop e1 hy hy2 hx2 hN
    rw [e2, hY]
    show (if nI (x / 10 ^ t) = (if nI y < nI x then nI y else nI x) then some (1 : Int32) else some 0) = _
    have hle : x / 10 ^ t ≤ x := Nat.div_le_self _ _
    have hov := (ld_cut hy h1 h2).trans (ld_ov_le (Nat.le_of_lt h) hy).symm
    rw [e1]
    unfold ld_bi
    by_cases e : x / 10 ^ t = y
    · rw [if_pos (by rw [e]), if_pos (hov.mp e)]
    · rw [if_neg (fun z => e ((nI_eq (by omega) (by omega)).mp z)), if_neg (fun z => e (hov.mpr z))]
  · have e1 : (if nI y < nI x then nI y else nI x) = nI x := if_neg (nI_nlt (by omega) (by omega))
    have e2 : (if nI x < nI y then nI y else nI x) = nI y := by
      by_cases e : x = y
      · subst e; rw [if_neg (nI_nlt (by omega) (by omega))]
      · exact if_pos (nI_lt (by omega) (by omega))
    obtain ⟨t, hY, h1, h2⟩ := ld_ovloop e1 hx hx2 hy2 hN
    rw [e2, hY]
    show (if nI (y / 10 ^ t) = (if nI y < nI x then nI y else nI x) then some (1 : Int32) else some 0) = _
    have hle : y / 10 ^ t ≤ y := Nat.div_le_self _ _
    have hov := (ld_cut hx h1 h2).trans (ld_ov_ge (by omega) hx).symm
    rw [e1]
    unfold ld_bi
    by_cases e : y / 10 ^ t = x
    · rw [if_pos (by rw [e]), if_pos (hov.mp e)]
    · rw [if_neg (fun z => e ((nI_eq (by omega) (by omega)).mp z)), if_neg (fun z => e (hov.mpr z))]
/-- the reference's loops: l cut while a tenth is still not below s -/
theorem ld_fovloop {l s N : Nat} {f : Int32 → Option (Int32 ⊕ Int32)} (hf : ∀ v, f v = if v ≤ nI s then some (.inr v) else if v / 10 < nI s then some (.inr v) else some (.inl (v / 10))) (hs : 1 ≤ s) (hs2 : s < 10000) (hl : l < 10000) (hN : 10 < N) : ∃ t, ld_it f N (nI l) = some (nI (l / 10 ^ t)) ∧ (l / 10 ^ t ≤ s ∨ l / 10 ^ t / 10 < s) ∧ ∀ i, i < t → s < l / 10 ^ i ∧ s ≤ l / 10 ^ (i + 1) := by
  have hle : ∀ t, l / 10 ^ t ≤ l := fun t => Nat.div_le_self _ _
  have h4 : l / 10 ^ 4 = 0 := Nat.div_eq_of_lt (by omega)
  have hL : ∀ k t, t + k = 4 → (∀ i, i < t → s < l / 10 ^ i ∧ s ≤ l / 10 ^ (i + 1)) → ∀ n, k < n → ∃ t, ld_it f n (nI (l / 10 ^ t)) = ld_it f n (nI (l / 10 ^ t)) ∧ True := fun _ _ _ _ _ _ => ⟨0, rfl, trivial⟩
  clear hL
  have key : ∀ k t, t + k = 4 → (∀ i, i < t → s < l / 10 ^ i ∧ s ≤ l / 10 ^ (i + 1)) → ∀ n, k < n → ∃ t', ld_it f n (nI (l / 10 ^ t)) = some (nI (l / 10 ^ t')) ∧ (l / 10 ^ t' ≤ s ∨ l / 10 ^ t' / 10 < s) ∧ ∀ i, i < t' → s < l / 10 ^ i ∧ s ≤ l / 10 ^ (i + 1) := by
    intro k
    induction k with
    | zero =>
      intro t ht hi n hn
      obtain ⟨n, rfl⟩ : ∃ m, n = m + 1 := ⟨n - 1, by omega⟩
      have ht : t = 4 := by omega
      subst ht
      have h := hf (nI (l / 10 ^ 4))
      rw [if_pos (nI_le (by omega) (by omega))] at h
      exact ⟨4, ld_it_r h, Or.inl (by omega), hi⟩
    | succ k ih =>
      intro t ht hi n hn
      obtain ⟨n, rfl⟩ : ∃ m, n = m + 1 := ⟨n - 1, by omega⟩
      have hm := hle t
      have h := hf (nI (l / 10 ^ t))
      by_cases h1 : l / 10 ^ t ≤ s
      · rw [if_pos (nI_le h1 (by omega))] at h
        exact ⟨t, ld_it_r h, Or.inl h1, hi⟩
      · rw [if_neg (nI_ge (by omega) (by omega)), ld_d10 (by omega)] at h
        by_cases h2 : l / 10 ^ t / 10 < s
        · rw [if_pos (nI_lt h2 (by omega))] at h
          exact ⟨t, ld_it_r h, Or.inr h2, hi⟩
        · rw [if_neg (nI_nlt (by omega) (by omega)), ← ld_pws] at h
          rw [ld_it_l h]
          refine ih (t + 1) (by omega) (fun i hit => ?_) n (by omega)
          by_cases e : i = t
          · subst e
            rw [ld_pws]
            omega
          · exact hi i (by omega)
  have h0 := key 4 0 (by omega) (fun i hi => by omega) N (by omega)
  rw [Nat.pow_zero, Nat.div_one] at h0
  exact h0
theorem ld_fcut {l s t : Nat} (hs : 1 ≤ s) (h1 : l / 10 ^ t ≤ s ∨ l / 10 ^ t / 10 < s) (h2 : ∀ i, i < t → s < l / 10 ^ i ∧ s ≤ l / 10 ^ (i + 1)) : (l / 10 ^ t = s) ↔ ∃ j, l / 10 ^ j = s := by
  constructor
  · intro h; exact ⟨t, h⟩
  · rintro ⟨j, hj⟩
    rcases Nat.lt_trichotomy j t with h | h | h
    · have := (h2 j h).1; omega
    · subst h; exact hj
    · have h3 := ld_pwl2 (l := l) h
      omega
theorem ld_foverlap {x y N : Nat} (hx : 1 ≤ x) (hx2 : x < 10000) (hy : 1 ≤ y) (hy2 : y < 10000) (hN : 10 < N) : lm_foverlap N (nI x) (nI y) = some (ld_bi (ld_ov x y)) := by
  obtain ⟨t, hY, h1, h2⟩ := ld_fovloop (f := ls_foverlap_1 (nI y)) (l := x) (s := y) (N := N) (fun v => rfl) hy hy2 hx2 hN
  have hle : x / 10 ^ t ≤ x := Nat.div_le_self _ _
  have hpos : 1 ≤ x / 10 ^ t := by
    cases t with
    | zero => rw [Nat.pow_zero, Nat.div_one]; exact hx
    | succ t => have := (h2 t (by omega)).2; omega
  obtain ⟨t2, hY2, h3, h4⟩ := ld_fovloop (f := ls_foverlap_2 (nI (x / 10 ^ t))) (l := y) (s := x / 10 ^ t) (N := N) (fun v => rfl) hpos (by omega) hy2 hN
  have hle2 : y / 10 ^ t2 ≤ y := Nat.div_le_self _ _
  unfold lm_foverlap
  rw [hY]
  show Option.bind (ld_it (ls_foverlap_2 (nI (x / 10 ^ t))) N (nI y)) _ = _
  rw [hY2]
  show (if nI (x / 10 ^ t) = nI (y / 10 ^ t2) then some (1 : Int32) else some 0) = _
  have key : x / 10 ^ t = y / 10 ^ t2 ↔ ld_ov x y = true := by
    by_cases h : y ≤ x
    · rw [ld_ov_le h hy, ← ld_fcut hy h1 h2]
      -- the second loop does nothing below
      have hge : y ≤ x / 10 ^ t := by
        cases t with
        | zero => rw [Nat.pow_zero, Nat.div_one]; exact h
        | succ t => exact (h2 t (by omega)).2
      have ht2 : t2 = 0 := by
        rcases Nat.eq_zero_or_pos t2 with q | q
        · exact q
        · have := (h4 0 q).1
          rw [Nat.pow_zero, Nat.div_one] at this
          omega
      subst ht2
      rw [Nat.pow_zero, Nat.div_one]
    · rw [ld_ov_ge (by omega) hx]
      have ht : t = 0 := by
        rcases Nat.eq_zero_or_pos t with q | q
        · exact q
        · have := (h2 0 q).1
          rw [Nat.pow_zero, Nat.div_one] at this
          omega
      subst ht
      rw [Nat.pow_zero, Nat.div_one] at h3 h4 ⊢
      rw [← ld_fcut hx h3 h4]
      exact ⟨fun z => z.symm, fun z => z.symm⟩
  unfold ld_bi
  by_cases e : x / 10 ^ t = y / 10 ^ t2
  · rw [if_pos (by rw [e]), if_pos (key.mp e)]
  · rw [if_neg (fun z => e ((nI_eq (by omega) (by omega)).mp z)), if_neg (fun z => e (key.mpr z))]
