abbrev ld_gT : Type := (Nat → Int32) × (Nat → Int32) × (Nat → Int32) × (Nat → Int32) × (Nat → Int32) × (Nat → Int32) × Int32
abbrev ld_pT : Type := (Nat → Int32) × (Nat → Int32) × Int32
def ld_gW (a : Nat → Nat) (cI : ClassId) (G : ld_gT) : va_W := [(a 1, .inr (0, [.ref (a 2), .ref (a 3), .ref (a 4), .ref (a 5), .ref (a 6), .ref (a 7), .int G.2.2.2.2.2.2])), (a 2, .inl (cI, 120, .inl (G.1))), (a 3, .inl (cI, 120, .inl (G.2.1))), (a 4, .inl (cI, 120, .inl (G.2.2.1))), (a 5, .inl (cI, 120, .inl (G.2.2.2.1))), (a 6, .inl (cI, 120, .inl (G.2.2.2.2.1))), (a 7, .inl (cI, 120, .inl (G.2.2.2.2.2.1)))]
def ld_pW (a0 a1 a2 : Nat) (cI cZ : ClassId) (P : ld_pT) : va_W := [(a0, .inr (1, [.ref a1, .ref a2, .int P.2.2])), (a1, .inl (cI, 120, .inl (P.1))), (a2, .inl (cZ, 120, .inl (P.2.1)))]
def ld_rW (a : Nat → Nat) (cI : ClassId) (f : Nat → Int32) : va_W := [(a 8, .inr (2, [.ref (a 9), .ref (a 10)])), (a 9, .inl (cI, 120, .inl (f)))]
def ld_uW (a : Nat → Nat) (cI : ClassId) (f : Nat → Int32) : va_W := [(a 13, .inr (3, [.ref (a 14)])), (a 14, .inl (cI, 120, .inl (f)))]
def ld_hW (a : Nat → Nat) (cI : ClassId) (f : (Nat → Int32) × (Nat → Int32)) : va_W := [(a 15, .inr (4, [.ref (a 16), .ref (a 17), .ref (a 18)])), (a 16, .inl (cI, 120, .inl (f.1))), (a 17, .inl (cI, 120, .inl (f.2)))]
def ld_mW (a : Nat → Nat) (cJ : ClassId) (f : Nat → Int64) : va_W := [(a 21, .inr (5, [.ref (a 22)])), (a 22, .inl (cJ, 240, .inr (.inl (f))))]
def ld_dW (a : Nat → Nat) (f : Int32 × Int32) : va_W := [(a 0, .inr (6, [.ref (a 1), .ref (a 8), .ref (a 13), .ref (a 15), .ref (a 21), .int f.1, .int f.2]))]
/-! base: naming of a call's answer, partial answers, loops as a step that is run again, counting -/
def ld_lt {α β : Type} (x : α) (f : α → β) : β := f x
theorem ld_nm {α β : Type} {x : α} {f : α → β} {b : β} (h : ld_lt x f = b) : ∃ r, x = r ∧ f r = b := ⟨x, rfl, h⟩
theorem ld_ob {α β : Type} {x : Option α} {f : α → Option β} {b : β} (h : x.bind f = some b) : ∃ r, x = some r ∧ f r = some b := by
  cases x with
  | none => cases h
  | some a => exact ⟨a, rfl, h⟩
def ld_it2 {σ ρ : Type} (k : σ → Option ρ) : σ ⊕ ρ → Option ρ
  | .inl x => k x
  | .inr r => some r
def ld_it {σ ρ : Type} (f : σ → Option (σ ⊕ ρ)) : Nat → σ → Option ρ
  | 0, _ => none
  | n + 1, x => (f x).bind (ld_it2 (ld_it f n))
theorem ld_its {σ ρ : Type} {f : σ → Option (σ ⊕ ρ)} {n : Nat} {x : σ} {R : ρ} (h : ld_it f (n + 1) x = some R) : ∃ y, f x = some y ∧ ld_it2 (ld_it f n) y = some R := ld_ob h
/-- a loop's end by an invariant and a measure that falls -/
theorem ld_loop {σ ρ : Type} {f : σ → Option (σ ⊕ ρ)} (I : σ → Prop) (μ : σ → Nat) (Post : ρ → Prop)
    (hs : ∀ x, I x → (∃ x', f x = some (.inl x') ∧ I x' ∧ μ x' < μ x) ∨ (∃ r, f x = some (.inr r) ∧ Post r)) :
    ∀ n x, I x → μ x < n → ∃ r, ld_it f n x = some r ∧ Post r := by
  intro n
  induction n with
  | zero => intro x _ h; exact absurd h (Nat.not_lt_zero _)
  | succ n ih =>
    intro x hI hm
    rcases hs x hI with ⟨x', hx, hI', hl⟩ | ⟨r, hx, hr⟩
    · obtain ⟨r, h1, h2⟩ := ih x' hI' (by omega)
      exact ⟨r, by show (f x).bind _ = _; rw [hx]; exact h1, h2⟩
    · exact ⟨r, by show (f x).bind _ = _; rw [hx]; rfl, hr⟩
/-- how many places below n hold -/
def ld_cn (f : Nat → Bool) : Nat → Nat
  | 0 => 0
  | n + 1 => ld_cn f n + (if f n = true then 1 else 0)
theorem ld_cn_le (f : Nat → Bool) : ∀ n, ld_cn f n ≤ n := by
  intro n
  induction n with
  | zero => exact Nat.le_refl 0
  | succ n ih => simp only [ld_cn]; split <;> omega
theorem ld_cn_mono {f g : Nat → Bool} : ∀ n, (∀ j, j < n → f j = true → g j = true) → ld_cn f n ≤ ld_cn g n := by
  intro n
  induction n with
  | zero => intro _; exact Nat.le_refl _
  | succ n ih =>
    intro h
    have h1 := ih (fun j hj => h j (by omega))
    have h2 := h n (by omega)
    simp only [ld_cn]
    by_cases hf : f n = true
    · rw [if_pos hf, if_pos (h2 hf)]; omega
    · rw [if_neg hf]; split <;> omega
theorem ld_cn_lt {f g : Nat → Bool} : ∀ n, (∀ j, j < n → f j = true → g j = true) → ∀ j, j < n → f j = false → g j = true → ld_cn f n < ld_cn g n := by
  intro n
  induction n with
  | zero => intro _ j hj; exact absurd hj (Nat.not_lt_zero _)
  | succ n ih =>
    intro h j hj hf hg
    simp only [ld_cn]
    by_cases hjn : j = n
    · subst hjn
      have h1 := ld_cn_mono j (fun i hi => h i (by omega))
      rw [hf, hg, if_pos rfl, if_neg (by decide)]
      omega
    · have h1 := ih (fun i hi => h i (by omega)) j (by omega) hf hg
      have h2 := h n (by omega)
      by_cases hfn : f n = true
      · rw [if_pos hfn, if_pos (h2 hfn)]; omega
      · rw [if_neg hfn]; split <;> omega
theorem ld_cn_eq {f g : Nat → Bool} : ∀ n, (∀ j, j < n → f j = g j) → ld_cn f n = ld_cn g n := by
  intro n
  induction n with
  | zero => intro _; rfl
  | succ n ih =>
    intro h
    simp only [ld_cn]
    rw [ih (fun j hj => h j (by omega)), h n (by omega)]
theorem ld_cn_add {f g : Nat → Bool} : ∀ n j, j < n → f j = false → g j = true → (∀ i, i < n → i ≠ j → g i = f i) → ld_cn g n = ld_cn f n + 1 := by
  intro n
  induction n with
  | zero => intro j hj; exact absurd hj (Nat.not_lt_zero _)
  | succ n ih =>
    intro j hj hf hg ho
    simp only [ld_cn]
    by_cases hjn : j = n
    · subst hjn
      rw [ld_cn_eq (f := g) (g := f) j (fun i hi => ho i (by omega) (by omega)), hf, hg, if_pos rfl, if_neg (by decide)]
    · rw [ih j (by omega) hf hg (fun i hi hne => ho i (by omega) hne), ho n (by omega) (fun z => hjn z.symm)]
      omega
theorem ld_cn_0 {f : Nat → Bool} : ∀ n, ld_cn f n = 0 → ∀ j, j < n → f j = false := by
  intro n h j hj
  cases hf : f j with
  | false => rfl
  | true =>
    have h1 := ld_cn_lt (f := fun _ => false) (g := f) n (fun _ _ q => by cases q) j hj rfl hf
    omega
theorem ld_cn_full {f : Nat → Bool} {n j : Nat} (hj : j < n) (hf : f j = false) : ld_cn f n < n := by
  have h1 := ld_cn_lt (f := f) (g := fun _ => true) n (fun _ _ _ => rfl) j hj hf rfl
  have h2 := ld_cn_le (fun _ => true) n
  omega
def ld_ex {σ ρ τ : Type} (y : σ ⊕ ρ) (f : σ → τ) (g : ρ → τ) : τ := match y with
  | .inl x => f x
  | .inr r => g r
def ld_in (i : Int32) (n : Nat) : Bool := decide (0 ≤ i.toInt ∧ i.toInt < n)
theorem ld_grd {β : Type} {i : Int32} {n : Nat} {x : Option β} {b : β} (h : (if ld_in i n = true then x else none) = some b) : vp_in i n ∧ x = some b := by
  by_cases q : ld_in i n = true
  · rw [if_pos q] at h
    exact ⟨vp_in_iff.mpr (of_decide_eq_true q), h⟩
  · rw [if_neg q] at h
    cases h
theorem ld_in_nI {j n : Nat} (h : j < n) (hn : n < 2 ^ 31) : ld_in (nI j) n = true := decide_eq_true (vp_in_iff.mp (vp_in_nI h hn))
def ld_fl (n : Nat) (v : Int32) (f : Nat → Int32) : Nat → Int32 := fun j => if j < n then v else f j
def ld_flL (n : Nat) (v : Int64) (f : Nat → Int64) : Nat → Int64 := fun j => if j < n then v else f j
theorem ld_rg {x : Int32} (h1 : ¬ x < 0) (h2 : ¬ 120 ≤ x) : vp_in x 120 := by
  rw [Int32.lt_iff_toInt_lt] at h1
  rw [Int32.le_iff_toInt_le] at h2
  have e0 : (0 : Int32).toInt = 0 := by decide
  have e1 : (120 : Int32).toInt = 120 := by decide
  rw [vp_in_iff]
  omega
theorem ld_inv {σ ρ : Type} {f : σ → Option (σ ⊕ ρ)} (I : σ → Prop) (J : ρ → Prop) (h1 : ∀ x x', I x → f x = some (.inl x') → I x') (h2 : ∀ x r, I x → f x = some (.inr r) → J r) : ∀ n x r, I x → ld_it f n x = some r → J r := by
  intro n
  induction n with
  | zero => intro x r _ h; cases h
  | succ n ih =>
    intro x r hI h
    obtain ⟨y, hy, h⟩ := ld_its h
    cases y with
    | inl x' => exact ih x' r (h1 x x' hI hy) h
    | inr r' =>
      obtain rfl := Option.some.inj h
      exact h2 x r' hI hy
theorem ld_nb {r : Int32} (h : r = 0 ∨ r = 1) : narrow .boolean (.int r) = .int r := by
  rcases h with rfl | rfl <;> rfl
/-! ===== Int32 by its bits: bt x i ===== -/
def bt (x : Int32) (i : Nat) : Bool := x.toBitVec.getLsbD i
theorem b_ext {x y : Int32} (h : ∀ i, i < 32 → bt x i = bt y i) : x = y := Int32.toBitVec_inj.mp (BitVec.eq_of_getLsbD_eq (fun i hi => h i hi))
theorem b_or (x y : Int32) (i : Nat) : bt (x ||| y) i = (bt x i || bt y i) := by unfold bt; rw [Int32.toBitVec_or, BitVec.getLsbD_or]
theorem b_and (x y : Int32) (i : Nat) : bt (x &&& y) i = (bt x i && bt y i) := by unfold bt; rw [Int32.toBitVec_and, BitVec.getLsbD_and]
theorem b_xor (x y : Int32) (i : Nat) : bt (x ^^^ y) i = (bt x i ^^ bt y i) := by unfold bt; rw [Int32.toBitVec_xor, BitVec.getLsbD_xor]
theorem b_big {x : Int32} {i : Nat} (h : 32 ≤ i) : bt x i = false := BitVec.getLsbD_of_ge _ _ h
theorem b_255 (i : Nat) : bt 255 i = decide (i < 8) := by
  rcases Nat.lt_or_ge i 32 with h | h
  · exact (by decide +kernel : ∀ i, i < 32 → bt 255 i = decide (i < 8)) i h
  · rw [b_big h, decide_eq_false (by omega)]
theorem b_65535 (i : Nat) : bt 65535 i = decide (i < 16) := by
  rcases Nat.lt_or_ge i 32 with h | h
  · exact (by decide +kernel : ∀ i, i < 32 → bt 65535 i = decide (i < 16)) i h
  · rw [b_big h, decide_eq_false (by omega)]
theorem b_m1 : ∀ i, i < 32 → bt (-1) i = true := by decide +kernel
theorem b_0 (i : Nat) : bt 0 i = false := BitVec.getLsbD_zero
theorem s_l : ∀ n, n < 32 → ((nI n &&& 31).toBitVec.smod 32).toNat = n := by decide +kernel
theorem s_u : ∀ n, n < 32 → (((nI n).toUInt32 &&& Int32.toUInt32 31).toBitVec % 32).toNat = n := by decide +kernel
theorem b_shl (n : Nat) (hn : n < 32) (x : Int32) {i : Nat} (hi : i < 32) : bt (x <<< (nI n &&& 31)) i = (decide (n ≤ i) && bt x (i - n)) := by
  unfold bt
  rw [Int32.toBitVec_shiftLeft]
  show (x.toBitVec <<< ((nI n &&& 31).toBitVec.smod 32).toNat).getLsbD i = _
  rw [s_l n hn, BitVec.getLsbD_shiftLeft]
  rcases Nat.lt_or_ge i n with h | h
  · simp [h, Nat.not_le.mpr h]
  · simp [hi, h, Nat.not_lt.mpr h]
theorem b_ushr (n : Nat) (hn : n < 32) (x : Int32) (i : Nat) : bt ((x.toUInt32 >>> ((nI n).toUInt32 &&& Int32.toUInt32 31)).toInt32) i = bt x (n + i) := by
  show (x.toUInt32 >>> ((nI n).toUInt32 &&& Int32.toUInt32 31)).toBitVec.getLsbD i = x.toUInt32.toBitVec.getLsbD (n + i)
  rw [UInt32.toBitVec_shiftRight]
  show (x.toUInt32.toBitVec >>> (((nI n).toUInt32 &&& Int32.toUInt32 31).toBitVec % 32).toNat).getLsbD i = _
  rw [s_u n hn, BitVec.getLsbD_ushiftRight]
theorem b_sshr (n : Nat) (hn : n < 32) (x : Int32) {i : Nat} (hi : i < 32) : bt (x >>> (nI n &&& 31)) i = if n + i < 32 then bt x (n + i) else bt x 31 := by
  unfold bt
  rw [Int32.toBitVec_shiftRight]
  show (x.toBitVec.sshiftRight ((nI n &&& 31).toBitVec.smod 32).toNat).getLsbD i = _
  rw [s_l n hn, BitVec.getLsbD_sshiftRight, BitVec.msb_eq_getLsbD_last]
  simp [hi]
theorem b_shl8 (x : Int32) {i : Nat} (hi : i < 32) : bt (x <<< ((8 : Int32) &&& 31)) i = (decide (8 ≤ i) && bt x (i - 8)) := b_shl 8 (by omega) x hi
theorem b_shl16 (x : Int32) {i : Nat} (hi : i < 32) : bt (x <<< ((16 : Int32) &&& 31)) i = (decide (16 ≤ i) && bt x (i - 16)) := b_shl 16 (by omega) x hi
theorem b_shl24 (x : Int32) {i : Nat} (hi : i < 32) : bt (x <<< ((24 : Int32) &&& 31)) i = (decide (24 ≤ i) && bt x (i - 24)) := b_shl 24 (by omega) x hi
theorem b_sshr8 (x : Int32) {i : Nat} (hi : i < 32) : bt (x >>> ((8 : Int32) &&& 31)) i = if 8 + i < 32 then bt x (8 + i) else bt x 31 := b_sshr 8 (by omega) x hi
/-! masks of sixteen references -/
theorem ld_b1 : ∀ j, j < 32 → bt 1 j = decide (j = 0) := by decide +kernel
theorem ld_bit {a i : Nat} (ha : a < 16) (hi : i < 32) : bt ((1 : Int32) <<< (nI a &&& 31)) i = decide (i = a) := by
  rw [b_shl a (by omega) 1 hi]
  rcases Nat.lt_or_ge i a with h | h
  · rw [decide_eq_false (Nat.not_le.mpr h), decide_eq_false (by omega), Bool.false_and]
  · rw [decide_eq_true h, Bool.true_and, ld_b1 (i - a) (by omega)]
    exact decide_eq_decide.mpr (by omega)
theorem ld_not {x : Int32} {i : Nat} (hi : i < 32) : bt (x ^^^ (-1)) i = !(bt x i) := by
  rw [b_xor, b_m1 i hi, Bool.xor_true]
/-- all bits below sixteen -/
def ld_16 (x : Int32) : Prop := ∀ i, 16 ≤ i → bt x i = false
theorem ld_16_ext {x y : Int32} (hx : ld_16 x) (hy : ld_16 y) (h : ∀ i, i < 16 → bt x i = bt y i) : x = y := by
  refine b_ext (fun i hi => ?_)
  rcases Nat.lt_or_ge i 16 with q | q
  · exact h i q
  · rw [hx i q, hy i q]
theorem ld_16_0 : ld_16 0 := fun i _ => b_0 i
theorem ld_16_or {x y : Int32} (hx : ld_16 x) (hy : ld_16 y) : ld_16 (x ||| y) := fun i hi => by rw [b_or, hx i hi, hy i hi]; rfl
theorem ld_16_and {x y : Int32} (hx : ld_16 x) : ld_16 (x &&& y) := fun i hi => by rw [b_and, hx i hi]; rfl
theorem ld_16_bit {a : Nat} (ha : a < 16) : ld_16 ((1 : Int32) <<< (nI a &&& 31)) := fun i hi => by
  rcases Nat.lt_or_ge i 32 with q | q
  · rw [ld_bit ha q]; exact decide_eq_false (by omega)
  · exact b_big q
theorem ld_ne0 {x : Int32} : ¬ x = 0 ↔ ∃ i, i < 32 ∧ bt x i = true := by
  constructor
  · intro h
    refine Classical.byContradiction (fun q => h (b_ext (fun i hi => ?_)))
    rw [b_0]
    cases hb : bt x i with
    | false => rfl
    | true => exact absurd ⟨i, hi, hb⟩ q
  · intro ⟨i, _, hb⟩ h
    rw [h, b_0] at hb
    cases hb
/-! the graph as a mathematical value: how many points, then by point: doing, a, b, c, the two that can come next (120: none) -/
abbrev ld_M : Type := Nat × (Nat → Nat) × (Nat → Nat) × (Nat → Nat) × (Nat → Nat) × (Nat → Nat) × (Nat → Nat)
abbrev ld_d (M : ld_M) : Nat → Nat := M.2.1
abbrev ld_a (M : ld_M) : Nat → Nat := M.2.2.1
abbrev ld_b (M : ld_M) : Nat → Nat := M.2.2.2.1
abbrev ld_c (M : ld_M) : Nat → Nat := M.2.2.2.2.1
abbrev ld_x (M : ld_M) : Nat → Nat := M.2.2.2.2.2.1
abbrev ld_y (M : ld_M) : Nat → Nat := M.2.2.2.2.2.2
def ld_nx (M : ld_M) (p q : Nat) : Prop := q < M.1 ∧ (ld_x M p = q ∨ ld_y M p = q)
/-- what is used at a point or later, by what is used behind it -/
def ld_uB (M : ld_M) (q : Nat) (B : Nat → Bool) (i : Nat) : Bool :=
  if ld_d M q = 1 ∨ ld_d M q = 3 then B i && !decide (i = ld_a M q)
  else if ld_d M q = 2 then (B i && !decide (i = ld_a M q)) || decide (i = ld_b M q)
  else if ld_d M q = 4 then B i || decide (i = ld_a M q) else B i
/-- who holds the loan of point L behind a point, by who holds it ahead -/
def ld_hB (M : ld_M) (L p : Nat) (A : Nat → Bool) (i : Nat) : Bool :=
  if ld_d M p = 1 then (if i = ld_a M p then decide (p = L) else A i)
  else if ld_d M p = 2 then (if i = ld_a M p then A (ld_b M p) else A i)
  else if ld_d M p = 3 then (if i = ld_a M p then false else A i) else A i
theorem ld_uB_mono {M : ld_M} {q : Nat} {B C : Nat → Bool} (h : ∀ i, B i = true → C i = true) {i : Nat} (hb : ld_uB M q B i = true) : ld_uB M q C i = true := by
  unfold ld_uB at hb ⊢
  by_cases h1 : ld_d M q = 1 ∨ ld_d M q = 3
  · rw [if_pos h1, Bool.and_eq_true] at hb ⊢; exact ⟨h i hb.1, hb.2⟩
  · rw [if_neg h1] at hb ⊢
    by_cases h2 : ld_d M q = 2
    · rw [if_pos h2, Bool.or_eq_true, Bool.and_eq_true] at hb ⊢
      rcases hb with hb | hb
      · exact Or.inl ⟨h i hb.1, hb.2⟩
      · exact Or.inr hb
    · rw [if_neg h2] at hb ⊢
      by_cases h3 : ld_d M q = 4
      · rw [if_pos h3, Bool.or_eq_true] at hb ⊢
        rcases hb with hb | hb
        · exact Or.inl (h i hb)
        · exact Or.inr hb
      · rw [if_neg h3] at hb ⊢; exact h i hb
theorem ld_hB_mono {M : ld_M} {L p : Nat} {B C : Nat → Bool} (h : ∀ i, B i = true → C i = true) {i : Nat} (hb : ld_hB M L p B i = true) : ld_hB M L p C i = true := by
  unfold ld_hB at hb ⊢
  by_cases hi : i = ld_a M p
  · simp only [if_pos hi] at hb ⊢
    by_cases h1 : ld_d M p = 1
    · rw [if_pos h1] at hb ⊢; exact hb
    · rw [if_neg h1] at hb ⊢
      by_cases h2 : ld_d M p = 2
      · rw [if_pos h2] at hb ⊢; exact h _ hb
      · rw [if_neg h2] at hb ⊢
        by_cases h3 : ld_d M p = 3
        · rw [if_pos h3] at hb; cases hb
        · rw [if_neg h3] at hb ⊢; exact h i hb
  · simp only [if_neg hi] at hb ⊢
    by_cases h1 : ld_d M p = 1
    · rw [if_pos h1] at hb ⊢; exact h i hb
    · rw [if_neg h1] at hb ⊢
      by_cases h2 : ld_d M p = 2
      · rw [if_pos h2] at hb ⊢; exact h i hb
      · rw [if_neg h2] at hb ⊢
        by_cases h3 : ld_d M p = 3
        · rw [if_pos h3] at hb ⊢; exact h i hb
        · rw [if_neg h3] at hb ⊢; exact h i hb
/-- closed under the ways, and least so -/
def ld_clR (M : ld_M) (S : Nat → Bool) : Prop := (0 < M.1 → S 0 = true) ∧ ∀ p q, p < M.1 → S p = true → ld_nx M p q → S q = true
def ld_lsR (M : ld_M) (S : Nat → Bool) : Prop := ld_clR M S ∧ ∀ V, ld_clR M V → ∀ p, p < M.1 → S p = true → V p = true
def ld_clU (M : ld_M) (S : Nat → Nat → Bool) : Prop := ∀ p q i, p < M.1 → ld_nx M p q → ld_uB M q (S q) i = true → S p i = true
def ld_lsU (M : ld_M) (S : Nat → Nat → Bool) : Prop := ld_clU M S ∧ ∀ V, ld_clU M V → ∀ p i, p < M.1 → S p i = true → V p i = true
def ld_clH (M : ld_M) (L : Nat) (S : Nat → Nat → Bool) : Prop := ∀ p q i, p < M.1 → ld_nx M p q → ld_hB M L p (S p) i = true → S q i = true
def ld_lsH (M : ld_M) (L : Nat) (S : Nat → Nat → Bool) : Prop := ld_clH M L S ∧ ∀ V, ld_clH M L V → ∀ p i, p < M.1 → S p i = true → V p i = true
theorem ld_beq {a b : Bool} (h1 : a = true → b = true) (h2 : b = true → a = true) : a = b := by
  cases a with
  | true => exact (h1 rfl).symm
  | false =>
    cases b with
    | false => rfl
    | true => exact (h2 rfl)
theorem ld_unR {M : ld_M} {S T : Nat → Bool} (hS : ld_lsR M S) (hT : ld_lsR M T) {p : Nat} (hp : p < M.1) : S p = T p := ld_beq (hS.2 T hT.1 p hp) (hT.2 S hS.1 p hp)
theorem ld_unU {M : ld_M} {S T : Nat → Nat → Bool} (hS : ld_lsU M S) (hT : ld_lsU M T) {p : Nat} (hp : p < M.1) (i : Nat) : S p i = T p i := ld_beq (hS.2 T hT.1 p i hp) (hT.2 S hS.1 p i hp)
theorem ld_unH {M : ld_M} {L : Nat} {S T : Nat → Nat → Bool} (hS : ld_lsH M L S) (hT : ld_lsH M L T) {p : Nat} (hp : p < M.1) (i : Nat) : S p i = T p i := ld_beq (hS.2 T hT.1 p i hp) (hT.2 S hS.1 p i hp)
