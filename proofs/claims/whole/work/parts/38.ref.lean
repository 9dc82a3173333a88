/-! the reference: its pile of pairs, forget, meet, through -/
def ld_Gf (fb : ld_bT) (n : Int32) : ld_gT := (fb.1, fb.2.1, fb.2.2.1, fb.2.2.2.1, fb.2.2.2.2.1, fb.2.2.2.2.2, n)
theorem ld_fp1 {fo : Int32 × Int32 × Int32} {k p : Nat} (hn : fo.1 = nI k) (hk : k ≤ 120) (hp : p < k) : lf_fIsPoint fo (nI p) = 1 := by
  unfold lf_fIsPoint
  rw [if_neg (nI_pos (by omega)), hn, if_neg (nI_ge hp (by omega))]
theorem ld_fp0 {fo : Int32 × Int32 × Int32} {k : Nat} (hn : fo.1 = nI k) (hk : k ≤ 120) {v : Int32} (hv : ∀ j, j < k → v ≠ nI j) : lf_fIsPoint fo v = 0 := by
  unfold lf_fIsPoint
  rw [hn]
  rcases pk_ix v (n := k) (by omega) with h | h | ⟨j, hj, h⟩
  · rw [if_pos h]
  · by_cases h0 : v < 0
    · rw [if_pos h0]
    · rw [if_neg h0, if_pos h]
  · exact absurd h (hv j hj)
theorem ld_fnxP {fo : Int32 × Int32 × Int32} {k : Nat} (hn : fo.1 = nI k) (hk : k ≤ 120) {v : Int32} {x : Nat} (h : ld_nxI v x) : (x < k ∧ v = nI x ∧ lf_fIsPoint fo v = 1) ∨ (¬ x < k ∧ lf_fIsPoint fo v = 0) := by
  by_cases hx : x < k
  · rcases h with ⟨-, h⟩ | ⟨-, h⟩
    · omega
    · exact Or.inl ⟨hx, h, by rw [h]; exact ld_fp1 hn hk hx⟩
  · refine Or.inr ⟨hx, ld_fp0 hn hk (fun j hj e => ?_)⟩
    rcases h with ⟨h | h, -⟩ | ⟨h1, h⟩
    · rw [h] at e
      have h1 : (-1 : Int32).toInt = -1 := by decide
      have h2 := nI_toInt (n := j) (by omega)
      rw [← e, h1] at h2
      omega
    · rw [h, nI_eq (by omega) (by omega)] at e
      omega
    · rw [h, nI_eq (by omega) (by omega)] at e
      omega
def ld_fk (fs : ld_sT) (c : Nat) : Prop := (∀ i, i < c → ∃ j, j < 1920 ∧ fs.1 i = nI j ∧ fs.2 j = 1) ∧ (∀ i i', i < c → i' < c → fs.1 i = fs.1 i' → i = i') ∧ (∀ j, j < 1920 → fs.2 j = 0 ∨ fs.2 j = 1) ∧ c ≤ ld_cn (fun j => decide (fs.2 j = 1)) 1920
def ld_ip (fs : ld_sT) (c j : Nat) : Prop := ∃ i, i < c ∧ fs.1 i = nI j
def ld_sn (fs : ld_sT) : Nat := ld_cn (fun j => decide (fs.2 j = 1)) 1920
theorem ld_sn_le (fs : ld_sT) : ld_sn fs ≤ 1920 := ld_cn_le _ _
theorem ld_fmeet {fo : Int32 × Int32 × Int32} {fs : ld_sT} {c k : Nat} (hn : fo.1 = nI k) (hk : k ≤ 120) (h : ld_fk fs c) (hc : fo.2.2 = nI c) {v : Int32} {x r : Nat} (hv : (x < k ∧ v = nI x ∧ lf_fIsPoint fo v = 1) ∨ (¬ x < k ∧ lf_fIsPoint fo v = 0)) (hr : r < 16) (N : Nat) :
    ∃ fs' c', lm_fmeet N fo fs v (nI r) = some ((fo.1, fo.2.1, nI c'), fs') ∧ ld_fk fs' c' ∧ (∀ j, j < 1920 → (fs'.2 j = 1 ↔ fs.2 j = 1 ∨ (x < k ∧ j = 16 * x + r))) ∧ (∀ j, j < 1920 → fs'.2 j = 1 → ¬ ld_ip fs' c' j → fs.2 j = 1 ∧ ¬ ld_ip fs c j) ∧ (∀ j, j < 1920 → ld_ip fs c j → ld_ip fs' c' j) ∧ (∀ j, j < 1920 → ld_ip fs' c' j → ld_ip fs c j ∨ ¬ fs.2 j = 1) ∧ ld_sn fs' + c = ld_sn fs + c' := by
  have hfo : fo = (fo.1, fo.2.1, nI c) := by rw [← hc]
  rcases hv with ⟨hx, rfl, hp⟩ | ⟨hx, hp⟩
  · have e16 : (16 : Int32) * nI x + nI r = nI (16 * x + r) := by rw [show (16 : Int32) * nI x = nI (16 * x) from pk_mul 16 x, nI_add]
    obtain ⟨h1, h2, h3, h4⟩ := id h
    rcases h3 (16 * x + r) (by omega) with h0 | h0
    · have hcl : c < 1920 := by
        have := ld_cn_full (f := fun j => decide (fs.2 j = 1)) (n := 1920) (j := 16 * x + r) (by omega) (decide_eq_false (by rw [h0]; decide))
        omega
      have hcn := ld_cn_add (f := fun j => decide (fs.2 j = 1)) (g := fun j => decide (upd fs.2 (16 * x + r) 1 j = 1)) 1920 (16 * x + r) (by omega) (decide_eq_false (by rw [h0]; decide)) (decide_eq_true pk_us) (fun i hi hne => by rw [pk_un hne])
      have key : ∀ i, i < c → fs.1 i ≠ nI (16 * x + r) := by
        intro i hi e
        obtain ⟨j, hj, ej, e1⟩ := h1 i hi
        rw [ej, nI_eq (by omega) (by omega)] at e
        subst e
        rw [h0] at e1
        exact absurd e1 (by decide)
      refine ⟨(upd fs.1 c (nI (16 * x + r)), upd fs.2 (16 * x + r) 1), c + 1, ?_, ⟨?_, ?_, ?_, ?_⟩, ?_, ?_, ?_, ?_, ?_⟩
      · simp only [lm_fmeet, ld_lt]
        rw [hp, if_neg (by decide), e16, if_pos (ld_in_nI (by omega) (by omega)), nI_clamp (by omega), h0, if_pos rfl, hc, if_pos (ld_in_nI hcl (by omega)), nI_clamp (by omega), nI_1]
        rfl
      · intro i hi
        by_cases e : i = c
        · subst e; exact ⟨16 * x + r, by omega, pk_us, pk_us⟩
        · obtain ⟨j, hj, ej, e1⟩ := h1 i (by omega)
          refine ⟨j, hj, by rw [← ej]; exact pk_un e, ?_⟩
          by_cases e2 : j = 16 * x + r
          · rw [e2]; exact pk_us
          · show upd fs.2 (16 * x + r) 1 j = 1
            rw [pk_un e2]; exact e1
      · intro i i' hi hi' e
        have e : upd fs.1 c (nI (16 * x + r)) i = upd fs.1 c (nI (16 * x + r)) i' := e
        by_cases hic : i = c <;> by_cases hic' : i' = c
        · omega
        · rw [hic, pk_us, pk_un hic'] at e
          exact absurd e.symm (key i' (by omega))
        · rw [hic', pk_us, pk_un hic] at e
          exact absurd e (key i (by omega))
        · rw [pk_un hic, pk_un hic'] at e
          exact h2 i i' (by omega) (by omega) e
      · intro j hj
        by_cases e : j = 16 * x + r
        · rw [e]; exact Or.inr pk_us
        · show upd fs.2 (16 * x + r) 1 j = 0 ∨ upd fs.2 (16 * x + r) 1 j = 1
          rw [pk_un e]; exact h3 j hj
      · show c + 1 ≤ ld_cn (fun j => decide (upd fs.2 (16 * x + r) 1 j = 1)) 1920
        omega
      · intro j hj
        show upd fs.2 (16 * x + r) 1 j = 1 ↔ _
        by_cases e : j = 16 * x + r
        · rw [e, pk_us]; exact ⟨fun _ => Or.inr ⟨hx, rfl⟩, fun _ => rfl⟩
        · rw [pk_un e]
          exact ⟨fun z => Or.inl z, fun z => z.elim id (fun y => absurd y.2 e)⟩
      · intro j hj e1 hip
        have e1 : upd fs.2 (16 * x + r) 1 j = 1 := e1
        by_cases e : j = 16 * x + r
        · exact absurd ⟨c, by omega, by rw [e]; exact pk_us⟩ hip
        · rw [pk_un e] at e1
          refine ⟨e1, fun z => hip ?_⟩
          obtain ⟨i, hi, ei⟩ := z
          exact ⟨i, by omega, by rw [← ei]; exact pk_un (by omega)⟩
      · intro j hj z
        obtain ⟨i, hi, ei⟩ := z
        exact ⟨i, by omega, by rw [← ei]; exact pk_un (by omega)⟩
      · intro j hj z
        obtain ⟨i, hi, ei⟩ := z
        have ei : upd fs.1 c (nI (16 * x + r)) i = nI j := ei
        by_cases e : i = c
        · rw [e, pk_us, nI_eq (by omega) (by omega)] at ei
          right
          rw [← ei, h0]
          decide
        · rw [pk_un e] at ei
          exact Or.inl ⟨i, by omega, ei⟩
      · show ld_cn (fun j => decide (upd fs.2 (16 * x + r) 1 j = 1)) 1920 + c = ld_cn (fun j => decide (fs.2 j = 1)) 1920 + (c + 1)
        omega
    · refine ⟨fs, c, ?_, h, ?_, fun j hj a b => ⟨a, b⟩, fun j hj z => z, fun j hj z => Or.inl z, rfl⟩
      · simp only [lm_fmeet, ld_lt]
        rw [hp, if_neg (by decide), e16, if_pos (ld_in_nI (by omega) (by omega)), nI_clamp (by omega), h0, if_neg (by decide), ← hfo]
      · intro j hj
        exact ⟨fun z => Or.inl z, fun z => z.elim id (fun y => by rw [y.2]; exact h0)⟩
  · refine ⟨fs, c, ?_, h, ?_, fun j hj a b => ⟨a, b⟩, fun j hj z => z, fun j hj z => Or.inl z, rfl⟩
    · simp only [lm_fmeet, ld_lt]
      rw [hp, if_pos rfl, ← hfo]
    · intro j hj
      exact ⟨fun z => Or.inl z, fun z => z.elim id (fun y => absurd y.1 hx)⟩
theorem ld_fpop {fs : ld_sT} {c : Nat} (h : ld_fk fs (c + 1)) : ∃ j, j < 1920 ∧ fs.1 c = nI j ∧ fs.2 j = 1 ∧ ld_ip fs (c + 1) j ∧ ld_fk fs c ∧ (∀ i, i < 1920 → (ld_ip fs c i ↔ ld_ip fs (c + 1) i ∧ i ≠ j)) := by
  obtain ⟨h1, h2, h3, h4⟩ := h
  obtain ⟨j, hj, ej, e1⟩ := h1 c (by omega)
  refine ⟨j, hj, ej, e1, ⟨c, by omega, ej⟩, ⟨fun i hi => h1 i (by omega), fun i i' a b e => h2 i i' (by omega) (by omega) e, h3, by omega⟩, fun i hi => ⟨?_, ?_⟩⟩
  · rintro ⟨q, hq, eq⟩
    refine ⟨⟨q, by omega, eq⟩, fun e => ?_⟩
    rw [e] at eq
    have := h2 q c (by omega) (by omega) (eq.trans ej.symm)
    omega
  · rintro ⟨⟨q, hq, eq⟩, hne⟩
    by_cases e : q = c
    · rw [e, ej, nI_eq (by omega) (by omega)] at eq
      exact absurd eq.symm hne
    · exact ⟨q, by omega, eq⟩
theorem ld_fforget {fo : Int32 × Int32 × Int32} {fs : ld_sT} {N : Nat} (hN : 4000 < N) : ∃ fs', lm_fforget N fo fs = some ((fo.1, fo.2.1, 0), fs') ∧ ∀ j, j < 1920 → fs'.2 j = 0 := by
  have hL := ld_loop (f := ls_fforget_1) (fun v => ∃ t, v.1 = nI t ∧ t ≤ 1920 ∧ v.2.1 = (fo.1, fo.2.1, 0) ∧ ∀ j, j < t → v.2.2.2 j = 0) (fun v => 1921 - v.1.toNatClampNeg) (fun v => v.2.1 = (fo.1, fo.2.1, 0) ∧ ∀ j, j < 1920 → v.2.2.2 j = 0) ?_ N (0, (fo.1, fo.2.1, 0), fs) ⟨0, rfl, by omega, rfl, fun j hj => by omega⟩ (by show 1921 - _ < N; omega)
  · obtain ⟨Y, hY, h1, h2⟩ := hL
    refine ⟨Y.2.2, ?_, h2⟩
    unfold lm_fforget
    rw [hY]
    show some (Y.2.1, Y.2.2) = _
    rw [h1]
  · rintro ⟨tk, o, s⟩ ⟨t, a1, ht, a2, a3⟩
    have b1 : tk = nI t := a1
    have b2 : o = (fo.1, fo.2.1, 0) := a2
    have b3 : ∀ j, j < t → s.2 j = 0 := a3
    clear a1 a2 a3
    subst b1 b2
    by_cases h : 1920 ≤ t
    · right
      refine ⟨(nI t, (fo.1, fo.2.1, 0), s), ?_, rfl, fun j hj => b3 j (by omega)⟩
      simp only [ls_fforget_1]
      rw [if_pos (show (1920 : Int32) ≤ nI t from nI_le (a := 1920) h (by omega))]
    · left
      refine ⟨(nI t + 1, (fo.1, fo.2.1, 0), (s.1, upd s.2 t 0)), ?_, ⟨t + 1, nI_1 t, by omega, rfl, fun j hj => ?_⟩, ?_⟩
      · simp only [ls_fforget_1]
        rw [if_neg (show ¬ (1920 : Int32) ≤ nI t from nI_ge (b := 1920) (by omega) (by omega)), if_pos (ld_in_nI (by omega) (by omega)), nI_clamp (by omega)]
        rfl
      · show upd s.2 t 0 j = 0
        by_cases e : j = t
        · rw [e]; exact pk_us
        · rw [pk_un e]; exact b3 j (by omega)
      · show 1921 - (nI t + 1).toNatClampNeg < 1921 - (nI t).toNatClampNeg
        rw [nI_1, nI_clamp (by omega), nI_clamp (by omega)]
        omega
theorem ld_fk_0 {fs : ld_sT} (h : ∀ j, j < 1920 → fs.2 j = 0) : ld_fk fs 0 := ⟨fun i hi => by omega, fun i i' hi => by omega, fun j hj => Or.inl (h j hj), Nat.zero_le _⟩
theorem ld_ip_0 {fs : ld_sT} {j : Nat} : ¬ ld_ip fs 0 j := by
  rintro ⟨i, hi, -⟩
  omega
/-- a point changes a reference; uses it -/
def ld_ch (M : ld_M) (p r : Nat) : Prop := 1 ≤ ld_d M p ∧ ld_d M p ≤ 3 ∧ ld_a M p = r
def ld_us (M : ld_M) (p r : Nat) : Prop := (ld_d M p = 4 ∧ ld_a M p = r) ∨ (ld_d M p = 2 ∧ ld_b M p = r)
theorem ld_fchg {fb : ld_bT} {n : Int32} {M : ld_M} (hr : ld_rel (ld_Gf fb n) M) {p r : Nat} (hp : p < M.1) (hr16 : r < 16) (N : Nat) (fo : Int32 × Int32 × Int32) : (lm_fchanges N fo fb (nI p) (nI r) = some 1 ∧ ld_ch M p r) ∨ (lm_fchanges N fo fb (nI p) (nI r) = some 0 ∧ ¬ ld_ch M p r) := by
  have hk := hr.1
  obtain ⟨⟨hd7, ed⟩, ha, -⟩ := hr.2.2 p hp
  have ed : fb.1 p = nI (ld_d M p) := ed
  unfold lm_fchanges ld_ch
  rw [if_pos (ld_in_nI (by omega) (by omega)), nI_clamp (by omega), ed]
  by_cases h1 : ld_d M p < 1
  · rw [if_pos (show nI (ld_d M p) < (1 : Int32) from nI_lt (b := 1) h1 (by omega))]
    exact Or.inr ⟨rfl, by omega⟩
  · rw [if_neg (show ¬ nI (ld_d M p) < (1 : Int32) from nI_nlt (b := 1) (by omega) (by omega))]
    by_cases h2 : 3 < ld_d M p
    · rw [if_pos (show (3 : Int32) < nI (ld_d M p) from nI_lt (a := 3) h2 (by omega))]
      exact Or.inr ⟨rfl, by omega⟩
    · rw [if_neg (show ¬ (3 : Int32) < nI (ld_d M p) from nI_nlt (a := 3) (by omega) (by omega))]
      obtain ⟨ha16, ea⟩ := ha (by omega) (by omega)
      have ea : fb.2.1 p = nI (ld_a M p) := ea
      rw [ea]
      by_cases e : ld_a M p = r
      · rw [if_pos (by rw [e])]; exact Or.inl ⟨rfl, by omega, by omega, e⟩
      · rw [if_neg (fun z => e ((nI_eq (by omega) (by omega)).mp z))]; exact Or.inr ⟨rfl, fun z => e z.2.2⟩
theorem ld_fus {fb : ld_bT} {n : Int32} {M : ld_M} (hr : ld_rel (ld_Gf fb n) M) {p r : Nat} (hp : p < M.1) (hr16 : r < 16) (N : Nat) (fo : Int32 × Int32 × Int32) : (lm_fuses N fo fb (nI p) (nI r) = some 1 ∧ ld_us M p r) ∨ (lm_fuses N fo fb (nI p) (nI r) = some 0 ∧ ¬ ld_us M p r) := by
  have hk := hr.1
  obtain ⟨⟨hd7, ed⟩, ha, hb2, -⟩ := hr.2.2 p hp
  have ed : fb.1 p = nI (ld_d M p) := ed
  unfold lm_fuses ld_us
  rw [if_pos (ld_in_nI (by omega) (by omega)), nI_clamp (by omega), ed]
  by_cases h4 : ld_d M p = 4
  · obtain ⟨ha16, ea⟩ := ha (by omega) (by omega)
    have ea : fb.2.1 p = nI (ld_a M p) := ea
    rw [if_pos (show nI (ld_d M p) = (4 : Int32) from by rw [h4]; rfl), ea]
    by_cases e : ld_a M p = r
    · rw [if_pos (by rw [e])]; exact Or.inl ⟨rfl, Or.inl ⟨h4, e⟩⟩
    · rw [if_neg (fun z => e ((nI_eq (by omega) (by omega)).mp z)), if_neg (show ¬ nI (ld_d M p) = (2 : Int32) from by rw [h4]; decide)]
      exact Or.inr ⟨rfl, by omega⟩
  · rw [if_neg (show ¬ nI (ld_d M p) = (4 : Int32) from fun z => h4 ((nI_eq (b := 4) (by omega) (by omega)).mp z))]
    by_cases h2 : ld_d M p = 2
    · obtain ⟨hb16, eb⟩ := hb2 h2
      have eb : fb.2.2.1 p = nI (ld_b M p) := eb
      rw [if_pos (show nI (ld_d M p) = (2 : Int32) from by rw [h2]; rfl), eb]
      by_cases e : ld_b M p = r
      · rw [if_pos (by rw [e])]; exact Or.inl ⟨rfl, Or.inr ⟨h2, e⟩⟩
      · rw [if_neg (fun z => e ((nI_eq (by omega) (by omega)).mp z))]; exact Or.inr ⟨rfl, by omega⟩
    · rw [if_neg (show ¬ nI (ld_d M p) = (2 : Int32) from fun z => h2 ((nI_eq (b := 2) (by omega) (by omega)).mp z))]
      exact Or.inr ⟨rfl, by omega⟩
