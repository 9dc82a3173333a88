/-! places: class and reference read them alike -/
theorem ld_it_l {σ ρ : Type} {f : σ → Option (σ ⊕ ρ)} {n : Nat} {x x' : σ} (h : f x = some (.inl x')) : ld_it f (n + 1) x = ld_it f n x' := by
  show (f x).bind _ = _
  rw [h]
  rfl
theorem ld_it_r {σ ρ : Type} {f : σ → Option (σ ⊕ ρ)} {n : Nat} {x : σ} {r : ρ} (h : f x = some (.inr r)) : ld_it f (n + 1) x = some r := by
  show (f x).bind _ = _
  rw [h]
  rfl
def ld_pl (n : Nat) : Bool := decide (0 < n ∧ n < 10000 ∧ n % 10 ≠ 0 ∧ (n / 10 = 0 ∨ n / 10 % 10 ≠ 0) ∧ (n / 100 = 0 ∨ n / 100 % 10 ≠ 0) ∧ (n / 1000 = 0 ∨ n / 1000 % 10 ≠ 0))
def ld_bi (b : Bool) : Int32 := if b = true then 1 else 0
theorem ld_d10 {m : Nat} (hm : m < 2 ^ 31) : nI m / 10 = nI (m / 10) := pk_div (d := 10) hm (by omega) (by omega)
theorem ld_r10 {m : Nat} (hm : m < 2 ^ 31) : nI m - nI m / 10 * 10 = nI (m % 10) := pk_rem (d := 10) hm (by omega) (by omega)
theorem ld_plst {m t : Nat} (hm : m < 2 ^ 31) (ht : t < 4) (h0 : 0 < m) : ls_isPlace_1 (nI m, nI t) = if m % 10 = 0 then some (.inr (.inr 0)) else some (.inl (nI (m / 10), nI (t + 1))) := by
  unfold ls_isPlace_1
  show (if (4 : Int32) ≤ nI t then _ else if nI m ≤ 0 then _ else if nI m - nI m / 10 * 10 = 0 then _ else some (Sum.inl (nI m / 10, nI t + 1))) = _
  rw [if_neg (show ¬ (4 : Int32) ≤ nI t from nI_ge (b := 4) ht (by omega)), if_neg (nI_nle h0 hm), ld_r10 hm, ld_d10 hm, nI_1]
  by_cases e : m % 10 = 0
  · rw [if_pos e, e, if_pos nI_0]
  · rw [if_neg e, if_neg (nI_ne0 (by omega) (by omega))]
theorem ld_plex0 {t : Nat} (ht : t < 4) : ls_isPlace_1 (nI 0, nI t) = some (.inr (.inl (nI 0, nI t))) := by
  unfold ls_isPlace_1
  show (if (4 : Int32) ≤ nI t then _ else if nI 0 ≤ 0 then _ else _) = _
  rw [if_neg (show ¬ (4 : Int32) ≤ nI t from nI_ge (b := 4) ht (by omega)), if_pos (by decide)]
theorem ld_plex4 {m : Nat} : ls_isPlace_1 (nI m, nI 4) = some (.inr (.inl (nI m, nI 4))) := by
  unfold ls_isPlace_1
  show (if (4 : Int32) ≤ nI 4 then _ else _) = _
  rw [if_pos (by decide)]
theorem ld_place {n N : Nat} (hn : n < 2 ^ 31) (h0 : 0 < n) (hN : 10 < N) : lm_isPlace N (nI n) = some (ld_bi (ld_pl n)) := by
  obtain ⟨K, rfl⟩ : ∃ K, N = K + 5 := ⟨N - 5, by omega⟩
  have hb : ∀ (c : Prop) [Decidable c], ld_pl n = decide c → lm_isPlace (K + 5) (nI n) = some (if c then 1 else 0) → lm_isPlace (K + 5) (nI n) = some (ld_bi (ld_pl n)) := by
    intro c _ e h
    rw [h, e]
    unfold ld_bi
    by_cases hc : c
    · rw [if_pos hc, if_pos (decide_eq_true hc)]
    · rw [if_neg hc, if_neg (by rw [decide_eq_false hc]; decide)]
  have hend : ∀ (m t : Nat), m < 2 ^ 31 → (Option.some (Sum.inl (nI m, nI t)) : Option ((Int32 × Int32) ⊕ Int32)).bind (fun Y1 => ld_ex Y1 (fun y1 => if nI n ≤ 0 then some 0 else if y1.1 = 0 then some 1 else some 0) (fun R9 => some R9)) = some (if m = 0 then (1 : Int32) else 0) := by
    intro m t hm
    show (if nI n ≤ 0 then some (0 : Int32) else if nI m = 0 then some 1 else some 0) = _
    rw [if_neg (nI_nle h0 hn)]
    by_cases e : m = 0
    · rw [if_pos e, e, if_pos nI_0]
    · rw [if_neg e, if_neg (nI_ne0 (by omega) hm)]
  have hz : ∀ (m t : Nat), (Option.some (Sum.inr (0 : Int32)) : Option ((Int32 × Int32) ⊕ Int32)).bind (fun Y1 => ld_ex Y1 (fun y1 => if nI n ≤ 0 then some 0 else if y1.1 = 0 then some 1 else some 0) (fun R9 => some R9)) = some 0 := fun _ _ => rfl
  unfold lm_isPlace at *
  have s0 := ld_plst (m := n) (t := 0) hn (by omega) h0
  by_cases c0 : n % 10 = 0
  · rw [if_pos c0] at s0
    rw [ld_it_r (show ls_isPlace_1 (nI n, 0) = _ from s0), hz 0 0]
    rw [show ld_pl n = false from decide_eq_false (by omega)]
    rfl
  rw [if_neg c0] at s0
  rw [ld_it_l (show ls_isPlace_1 (nI n, 0) = _ from s0)]
  by_cases z1 : n / 10 = 0
  · rw [z1, ld_it_r (ld_plex0 (by omega)), hend 0 1 (by omega), show ld_pl n = true from decide_eq_true (by omega)]
    rfl
  have s1 := ld_plst (m := n / 10) (t := 1) (by omega) (by omega) (by omega)
  by_cases c1 : n / 10 % 10 = 0
  · rw [if_pos c1] at s1
    rw [ld_it_r s1, hz 0 0, show ld_pl n = false from decide_eq_false (by omega)]
    rfl
  rw [if_neg c1] at s1
  rw [ld_it_l s1, show n / 10 / 10 = n / 100 by omega]
  by_cases z2 : n / 100 = 0
  · rw [z2, ld_it_r (ld_plex0 (by omega)), hend 0 2 (by omega), show ld_pl n = true from decide_eq_true (by omega)]
    rfl
  have s2 := ld_plst (m := n / 100) (t := 2) (by omega) (by omega) (by omega)
  by_cases c2 : n / 100 % 10 = 0
  · rw [if_pos c2] at s2
    rw [ld_it_r s2, hz 0 0, show ld_pl n = false from decide_eq_false (by omega)]
    rfl
  rw [if_neg c2] at s2
  rw [ld_it_l s2, show n / 100 / 10 = n / 1000 by omega]
  by_cases z3 : n / 1000 = 0
  · rw [z3, ld_it_r (ld_plex0 (by omega)), hend 0 3 (by omega), show ld_pl n = true from decide_eq_true (by omega)]
    rfl
  have s3 := ld_plst (m := n / 1000) (t := 3) (by omega) (by omega) (by omega)
  by_cases c3 : n / 1000 % 10 = 0
  · rw [if_pos c3] at s3
    rw [ld_it_r s3, hz 0 0, show ld_pl n = false from decide_eq_false (by omega)]
    rfl
  rw [if_neg c3] at s3
  rw [ld_it_l s3, ld_it_r ld_plex4, hend _ 4 (by omega)]
  by_cases z4 : n / 1000 / 10 = 0
  · rw [if_pos z4, show ld_pl n = true from decide_eq_true (by omega)]
    rfl
  · rw [if_neg z4, show ld_pl n = false from decide_eq_false (by omega)]
    rfl
theorem ld_place0 {v : Int32} {N : Nat} (hv : v ≤ 0) (hN : 10 < N) : lm_isPlace N v = some 0 := by
  obtain ⟨K, rfl⟩ : ∃ K, N = K + 1 := ⟨N - 1, by omega⟩
  unfold lm_isPlace
  have h : ls_isPlace_1 (v, 0) = some (.inr (.inl (v, 0))) := by
    unfold ls_isPlace_1
    show (if (4 : Int32) ≤ 0 then _ else if v ≤ 0 then _ else _) = _
    rw [if_neg (by decide), if_pos hv]
  rw [ld_it_r h]
  show (if v ≤ 0 then some (0 : Int32) else _) = _
  rw [if_pos hv]
/-- the reference's -/
def ld_D (n t : Nat) : Prop := ∀ j, j < t → n / 10 ^ j % 10 ≠ 0
theorem ld_fplace {n N : Nat} (hn : n < 2 ^ 31) (h0 : 0 < n) (hN : 40 < N) : lm_fIsPlace N (nI n) = some (ld_bi (ld_pl n)) := by
  have hpw : ∀ t, n / 10 ^ (t + 1) = n / 10 ^ t / 10 := fun t => by rw [Nat.pow_succ, Nat.div_div_eq_div_mul]
  have hle : ∀ t, n / 10 ^ t ≤ n := fun t => Nat.div_le_self _ _
  have h10 : n / 10 ^ 10 = 0 := by
    apply Nat.div_eq_of_lt
    omega
  have hL := ld_loop (f := ls_fIsPlace_2) (fun v => ∃ t g, v = (nI (n / 10 ^ t), nI t, g) ∧ t ≤ 10 ∧ (∀ i, i < t → n / 10 ^ i ≠ 0) ∧ ((g = 1 ∧ ld_D n t) ∨ (g = 0 ∧ ¬ ld_D n t))) (fun v => 20 - v.2.1.toNatClampNeg) (fun v => ∃ t g, v = (nI 0, nI t, g) ∧ t ≤ 10 ∧ n / 10 ^ t = 0 ∧ (∀ i, i < t → n / 10 ^ i ≠ 0) ∧ ((g = 1 ∧ ld_D n t) ∨ (g = 0 ∧ ¬ ld_D n t))) ?_ N (nI n, 0, 1) ⟨0, 1, by rw [Nat.pow_zero, Nat.div_one]; rfl, by omega, fun i hi => by omega, Or.inl ⟨rfl, fun j hj => by omega⟩⟩ (by show 20 - _ < N; omega)
  · obtain ⟨Y, hY, t, g, rfl, ht, hz, hnz, hg⟩ := hL
    unfold lm_fIsPlace
    rw [if_neg (nI_nle h0 hn), hY]
    show (if g = 0 then some (0 : Int32) else if 5 ≤ nI t then some 0 else some 1) = _
    have ht0 : t ≠ 0 := by
      intro e
      subst e
      rw [Nat.pow_zero, Nat.div_one] at hz
      omega
    have hpl : ld_pl n = true ↔ (ld_D n t ∧ t < 5) := by
      have hD : ∀ k, ld_D n (k + 1) ↔ ld_D n k ∧ n / 10 ^ k % 10 ≠ 0 := by
        intro k
        constructor
        · intro h; exact ⟨fun j hj => h j (by omega), h k (by omega)⟩
        · intro h j hj
          by_cases e : j = k
          · subst e; exact h.2
          · exact h.1 j (by omega)
      have hD0 : ld_D n 0 ↔ True := ⟨fun _ => trivial, fun _ j hj => by omega⟩
      unfold ld_pl
      rw [decide_eq_true_iff]
      by_cases h5 : t < 5
      · have hlast := hnz (t - 1) (by omega)
        have ht' : t = 1 ∨ t = 2 ∨ t = 3 ∨ t = 4 := by omega
        rcases ht' with e | e | e | e
        · subst e
          rw [hD 0, hD0]
          simp only [Nat.pow_zero, Nat.div_one, Nat.reducePow, Nat.reduceSub, Nat.reduceAdd, true_and] at *
          constructor
          · intro h; omega
          · intro h; omega
        · subst e
          rw [hD 1, hD 0, hD0]
          simp only [Nat.pow_zero, Nat.div_one, Nat.reducePow, Nat.reduceSub, Nat.reduceAdd, true_and] at *
          constructor
          · intro h; omega
          · intro h; omega
        · subst e
          rw [hD 2, hD 1, hD 0, hD0]
          simp only [Nat.pow_zero, Nat.div_one, Nat.reducePow, Nat.reduceSub, Nat.reduceAdd, true_and] at *
          constructor
          · intro h; omega
          · intro h; omega
        · subst e
          rw [hD 3, hD 2, hD 1, hD 0, hD0]
          simp only [Nat.pow_zero, Nat.div_one, Nat.reducePow, Nat.reduceSub, Nat.reduceAdd, true_and] at *
          constructor
          · intro h; omega
          · intro h; omega
      · have h4 := hnz 4 (by omega)
        simp only [Nat.reducePow] at h4
        constructor
        · intro h; omega
        · intro h; exact absurd h.2 h5
    rcases hg with ⟨rfl, hd⟩ | ⟨rfl, hd⟩
    · rw [if_neg (by decide)]
      by_cases h5 : t < 5
      · rw [if_neg (show ¬ (5 : Int32) ≤ nI t from nI_ge (b := 5) h5 (by omega)), hpl.mpr ⟨hd, h5⟩]
        rfl
      · rw [if_pos (show (5 : Int32) ≤ nI t from nI_le (a := 5) (by omega) (by omega))]
        unfold ld_bi
        rw [if_neg (fun z => h5 (hpl.mp z).2)]
    · rw [if_pos rfl]
      unfold ld_bi
      rw [if_neg (fun z => hd (hpl.mp z).1)]
  · rintro v ⟨t, g, rfl, ht, hnz, hg⟩
    have hm : n / 10 ^ t < 2 ^ 31 := Nat.lt_of_le_of_lt (hle t) hn
    by_cases hz : n / 10 ^ t = 0
    · right
      refine ⟨(nI 0, nI t, g), ?_, t, g, rfl, ht, hz, hnz, hg⟩
      rw [hz]
      unfold ls_fIsPlace_2
      show (if nI 0 ≤ 0 then _ else _) = _
      rw [if_pos (by decide)]
    · left
      have ht9 : t < 10 := by
        rcases Nat.lt_or_ge t 10 with q | q
        · exact q
        · exact absurd (show n / 10 ^ t = 0 by rw [show t = 10 by omega]; exact h10) hz
      refine ⟨(nI (n / 10 ^ (t + 1)), nI (t + 1), if g = 0 then 0 else if n / 10 ^ t % 10 = 0 then 0 else 1), ?_, ⟨t + 1, _, rfl, by omega, fun i hi => ?_, ?_⟩, ?_⟩
      · unfold ls_fIsPlace_2
        show (if nI (n / 10 ^ t) ≤ 0 then _ else if g = 0 then some (Sum.inl (nI (n / 10 ^ t) / 10, nI t + 1, 0)) else if nI (n / 10 ^ t) - nI (n / 10 ^ t) / 10 * 10 = 0 then some (Sum.inl (nI (n / 10 ^ t) / 10, nI t + 1, 0)) else some (Sum.inl (nI (n / 10 ^ t) / 10, nI t + 1, 1))) = _
        rw [if_neg (nI_nle (Nat.pos_of_ne_zero hz) hm), ld_r10 hm, ld_d10 hm, nI_1, hpw t]
        by_cases e : g = 0
        · rw [if_pos e, if_pos e]
        · rw [if_neg e, if_neg e]
          by_cases e2 : n / 10 ^ t % 10 = 0
          · rw [if_pos e2, e2, if_pos nI_0]
          · rw [if_neg e2, if_neg (nI_ne0 (by omega) (by omega))]
      · by_cases e : i = t
        · subst e; exact hz
        · exact hnz i (by omega)
      · have hD : ld_D n (t + 1) ↔ ld_D n t ∧ n / 10 ^ t % 10 ≠ 0 := by
          constructor
          · intro h; exact ⟨fun j hj => h j (by omega), h t (by omega)⟩
          · intro h j hj
            by_cases e : j = t
            · subst e; exact h.2
            · exact h.1 j (by omega)
        rw [hD]
        rcases hg with ⟨rfl, hd⟩ | ⟨rfl, hd⟩
        · rw [if_neg (by decide)]
          by_cases e2 : n / 10 ^ t % 10 = 0
          · rw [if_pos e2]; exact Or.inr ⟨rfl, fun z => z.2 e2⟩
          · rw [if_neg e2]; exact Or.inl ⟨rfl, hd, e2⟩
        · rw [if_pos rfl]; exact Or.inr ⟨rfl, fun z => hd z.1⟩
      · show 20 - (nI (t + 1)).toNatClampNeg < 20 - (nI t).toNatClampNeg
        rw [nI_clamp (by omega), nI_clamp (by omega)]
        omega
theorem ld_fplace0 {v : Int32} {N : Nat} (hv : v ≤ 0) (hN : 10 < N) : lm_fIsPlace N v = some 0 := by
  obtain ⟨K, rfl⟩ : ∃ K, N = K + 1 := ⟨N - 1, by omega⟩
  unfold lm_fIsPlace
  have h : ls_fIsPlace_1 (v, 0, 0) = some (.inr (v, 0, 0)) := by
    unfold ls_fIsPlace_1
    show (if v ≤ 0 then _ else _) = _
    rw [if_pos hv]
  rw [if_pos hv, ld_it_r h]
  rfl
/-- one answer of both -/
def ld_plI (v : Int32) : Int32 := if v ≤ 0 then 0 else ld_bi (ld_pl v.toNatClampNeg)
theorem ld_placeI {N : Nat} (hN : 40 < N) (v : Int32) : lm_isPlace N v = some (ld_plI v) ∧ lm_fIsPlace N v = some (ld_plI v) := by
  unfold ld_plI
  by_cases h : v ≤ 0
  · rw [if_pos h]; exact ⟨ld_place0 h (by omega), ld_fplace0 h (by omega)⟩
  · rw [if_neg h]
    have h1 : ¬ v < 0 := fun z => h (Int32.le_of_lt z)
    obtain ⟨n, hn, rfl⟩ := nI_of h1
    have h0 : 0 < n := by
      rcases Nat.eq_zero_or_pos n with e | e
      · subst e; exact absurd (by decide) h
      · exact e
    rw [nI_clamp hn]
    exact ⟨ld_place hn h0 (by omega), ld_fplace hn h0 hN⟩
