/-! the class's graph and the mathematical one -/
def ld_nxI (v : Int32) (x : Nat) : Prop := ((v = -1 ∨ v = nI 120) ∧ x = 120) ∨ (x < 120 ∧ v = nI x)
def ld_rel (G : ld_gT) (M : ld_M) : Prop := M.1 ≤ 120 ∧ G.2.2.2.2.2.2 = nI M.1 ∧ ∀ p, p < M.1 →
  (ld_d M p < 7 ∧ G.1 p = nI (ld_d M p)) ∧ (1 ≤ ld_d M p → ld_d M p ≤ 4 → ld_a M p < 16 ∧ G.2.1 p = nI (ld_a M p)) ∧ (ld_d M p = 2 → ld_b M p < 16 ∧ G.2.2.1 p = nI (ld_b M p)) ∧
  (ld_d M p = 1 ∨ 5 ≤ ld_d M p → (1 ≤ ld_b M p ∧ ld_b M p < 10000) ∧ G.2.2.1 p = nI (ld_b M p)) ∧ (ld_d M p = 1 → ld_c M p < 2 ∧ G.2.2.2.1 p = nI (ld_c M p)) ∧ ld_nxI (G.2.2.2.2.1 p) (ld_x M p) ∧ ld_nxI (G.2.2.2.2.2.1 p) (ld_y M p)
theorem ld_pt1 {G : ld_gT} {M : ld_M} (hr : ld_rel G M) {p : Nat} (hp : p < M.1) : lf_isPoint G (nI p) = 1 := by
  have hk := hr.1
  unfold lf_isPoint
  rw [if_neg (nI_pos (by omega)), hr.2.1, if_neg (nI_ge hp (by omega)), if_neg (show ¬ (120 : Int32) ≤ nI p from nI_ge (b := 120) (by omega) (by omega))]
theorem ld_pt0 {G : ld_gT} {M : ld_M} (hr : ld_rel G M) {v : Int32} (hv : ∀ j, j < M.1 → v ≠ nI j) : lf_isPoint G v = 0 := by
  have hk := hr.1
  unfold lf_isPoint
  rw [hr.2.1]
  rcases pk_ix v (n := M.1) (by omega) with h | h | ⟨j, hj, h⟩
  · rw [if_pos h]
  · by_cases h0 : v < 0
    · rw [if_pos h0]
    · rw [if_neg h0, if_pos h]
  · exact absurd h (hv j hj)
theorem ld_nxP {G : ld_gT} {M : ld_M} (hr : ld_rel G M) {v : Int32} {x : Nat} (h : ld_nxI v x) : (x < M.1 ∧ v = nI x ∧ lf_isPoint G v = 1) ∨ (¬ x < M.1 ∧ lf_isPoint G v = 0) := by
  have hk := hr.1
  by_cases hx : x < M.1
  · rcases h with ⟨-, h⟩ | ⟨-, h⟩
    · omega
    · exact Or.inl ⟨hx, h, by rw [h]; exact ld_pt1 hr hx⟩
  · refine Or.inr ⟨hx, ld_pt0 hr (fun j hj e => ?_)⟩
    rcases h with ⟨h | h, -⟩ | ⟨h1, h⟩
    · rw [h] at e
      have h1 : (-1 : Int32).toInt = -1 := by decide
      have h2 := nI_toInt (n := j) (by omega)
      rw [← e, h1] at h2
      omega
    · rw [h, nI_eq (by omega) (by omega)] at e
      omega
    · rw [h, nI_eq (by omega) (by omega)] at e
      omega
theorem ld_fn1 {G : ld_gT} {M : ld_M} (hr : ld_rel G M) {p : Nat} (hp : p < M.1) : lf_firstNext G (nI p) = G.2.2.2.2.1 p := by
  have hk := hr.1
  simp only [lf_firstNext, ld_lt]
  rw [ld_pt1 hr hp, if_neg (by decide), nI_clamp (by omega)]
theorem ld_fn2 {G : ld_gT} {M : ld_M} (hr : ld_rel G M) {p : Nat} (hp : p < M.1) : lf_secondNext G (nI p) = G.2.2.2.2.2.1 p := by
  have hk := hr.1
  simp only [lf_secondNext, ld_lt]
  rw [ld_pt1 hr hp, if_neg (by decide), nI_clamp (by omega)]
theorem ld_ct1 {rc : Nat → Int32} {j : Nat} (hj : j < 120) (h : rc j = 1) : lf_comesTo rc (nI j) = 1 := by
  simp only [lf_comesTo, ld_lt]
  rw [ld_ix1 hj, if_neg (by decide), nI_clamp (by omega), h]
  rfl
theorem ld_ct0 {rc : Nat → Int32} {j : Nat} (hj : j < 120) (h : rc j = 0) : lf_comesTo rc (nI j) = 0 := by
  simp only [lf_comesTo, ld_lt]
  rw [ld_ix1 hj, if_neg (by decide), nI_clamp (by omega), h]
  rfl
/-- what holds all along a search for ways: t points taken, c in the pile -/
def ld_RI (M : ld_M) (rc : Nat → Int32) (q : ld_pT) (t c : Nat) : Prop :=
  (∀ j, j < 120 → rc j = 0 ∨ rc j = 1) ∧ (∀ j, j < 120 → rc j = 1 → j < M.1) ∧ ld_pk q c ∧ (∀ j, j < 120 → q.2.1 j = 1 → rc j = 1) ∧ (∀ V, ld_clR M V → ∀ j, j < 120 → rc j = 1 → V j = true) ∧ t + c = ld_cn (fun j => decide (rc j = 1)) 120
theorem ld_arrive {G : ld_gT} {M : ld_M} (hr : ld_rel G M) {rc : Nat → Int32} {q : ld_pT} {t c : Nat} (h : ld_RI M rc q t c) {v : Int32} {x : Nat} (hv : (x < M.1 ∧ v = nI x ∧ lf_isPoint G v = 1) ∨ (¬ x < M.1 ∧ lf_isPoint G v = 0)) (hs : x < M.1 → ∀ V, ld_clR M V → V x = true) :
    ∃ rc' q' c', lf_arrive G rc q v = (rc', q') ∧ ld_RI M rc' q' t c' ∧ (∀ j, j < 120 → rc j = 1 → rc' j = 1) ∧ (∀ j, j < 120 → rc' j = 1 → q'.2.1 j = 0 → rc j = 1 ∧ q.2.1 j = 0) ∧ (x < M.1 → rc' x = 1) := by
  have hk := hr.1
  obtain ⟨h1, h2, h3, h4, h5, h6⟩ := h
  rcases hv with ⟨hx, hv, hp⟩ | ⟨hx, hp⟩
  · subst hv
    rcases h1 x (by omega) with h0 | h0
    · have hq0 : q.2.1 x = 0 := by
        rcases h3.2.2.2.1 x (by omega) with z | z
        · exact z
        · have := h4 x (by omega) z
          rw [h0] at this
          exact absurd this (by decide)
      obtain ⟨hc, hput⟩ := ld_put_eq h3 (p := x) (by omega) hq0
      have hpk := ld_put_pk h3 (p := x) (by omega) hq0
      refine ⟨upd rc x 1, (upd q.1 c (nI x), upd q.2.1 x 1, nI (c + 1)), c + 1, ?_, ⟨?_, ?_, hpk, ?_, ?_, ?_⟩, ?_, ?_, ?_⟩
      · simp only [lf_arrive, ld_lt]
        rw [hp, if_neg (by decide), ld_ct0 (by omega) h0, if_pos rfl, hput, nI_clamp (by omega)]
      · intro j hj
        by_cases e : j = x
        · subst e; exact Or.inr pk_us
        · rw [pk_un e]; exact h1 j hj
      · intro j hj hj1
        by_cases e : j = x
        · subst e; exact hx
        · rw [pk_un e] at hj1; exact h2 j hj hj1
      · intro j hj hj1
        by_cases e : j = x
        · subst e; exact pk_us
        · have hj1 : upd q.2.1 x 1 j = 1 := hj1
          rw [pk_un e] at hj1 ⊢
          exact h4 j hj hj1
      · intro V hV j hj hj1
        by_cases e : j = x
        · subst e; exact hs hx V hV
        · rw [pk_un e] at hj1; exact h5 V hV j hj hj1
      · have := ld_cn_add (f := fun j => decide (rc j = 1)) (g := fun j => decide (upd rc x 1 j = 1)) 120 x (by omega) (decide_eq_false (by rw [h0]; decide)) (decide_eq_true pk_us) (fun i hi hne => by rw [pk_un hne])
        omega
      · intro j hj hj1
        by_cases e : j = x
        · subst e; exact pk_us
        · rw [pk_un e]; exact hj1
      · intro j hj hj1 hj0
        have hj0 : upd q.2.1 x 1 j = 0 := hj0
        by_cases e : j = x
        · subst e
          rw [pk_us] at hj0
          exact absurd hj0 (by decide)
        · rw [pk_un e] at hj1 hj0
          exact ⟨hj1, hj0⟩
      · intro _; exact pk_us
    · refine ⟨rc, q, c, ?_, ⟨h1, h2, h3, h4, h5, h6⟩, fun _ _ z => z, fun _ _ z w => ⟨z, w⟩, fun _ => h0⟩
      simp only [lf_arrive, ld_lt]
      rw [hp, if_neg (by decide), ld_ct1 (by omega) h0, if_neg (by decide)]
  · refine ⟨rc, q, c, ?_, ⟨h1, h2, h3, h4, h5, h6⟩, fun _ _ z => z, fun _ _ z w => ⟨z, w⟩, fun z => absurd z hx⟩
    simp only [lf_arrive, ld_lt]
    rw [hp, if_pos rfl]
theorem ld_fl_at {n : Nat} {v : Int32} {f : Nat → Int32} {j : Nat} (h : j < n) : ld_fl n v f j = v := if_pos h
theorem ld_pe0 {q : ld_pT} {c : Nat} (h : q.2.2 = nI (c + 1)) (hc : c + 1 < 2 ^ 31) : lf_pEmpty q = 0 := by
  unfold lf_pEmpty
  rw [h, if_pos (show (0 : Int32) < nI (c + 1) from nI_lt (a := 0) (by omega) hc)]
theorem ld_pe1 {q : ld_pT} (h : q.2.2 = nI 0) : lf_pEmpty q = 1 := by
  unfold lf_pEmpty
  rw [h, if_neg (by decide)]
def ld_RL (M : ld_M) (rc : Nat → Int32) (q : ld_pT) : Prop := (0 < M.1 → rc 0 = 1) ∧ ∀ j, j < 120 → rc j = 1 → q.2.1 j = 0 → ∀ x, ld_nx M j x → rc x = 1
theorem ld_rfind {G : ld_gT} {M : ld_M} (hr : ld_rel G M) (rc0 : Nat → Int32) (q0 : ld_pT) (hq : ld_pk q0 0) {N : Nat} (hN : 130 < N) : ∃ rc q, lm_rfind N G rc0 q0 = some (rc, q) ∧ ld_pk q 0 ∧ ld_lsR M (fun j => decide (rc j = 1)) ∧ (∀ j, j < 120 → rc j = 0 ∨ rc j = 1) ∧ (∀ j, j < 120 → rc j = 1 → j < M.1) := by
  have hk := hr.1
  -- the start
  have hz : ∀ j, j < 120 → ld_fl 120 0 rc0 j = 0 := fun j hj => ld_fl_at hj
  have hR0 : ld_RI M (ld_fl 120 0 rc0) q0 0 0 := by
    refine ⟨fun j hj => Or.inl (hz j hj), fun j hj e => ?_, hq, fun j hj e => ?_, fun V hV j hj e => ?_, ?_⟩
    · rw [hz j hj] at e; exact absurd e (by decide)
    · rw [ld_pk_0 hq j hj] at e; exact absurd e (by decide)
    · rw [hz j hj] at e; exact absurd e (by decide)
    · rw [ld_cn_eq (g := fun _ => false) 120 (fun j hj => by rw [hz j hj]; rfl)]
      exact (by decide +kernel : (0 + 0 = ld_cn (fun _ => false) 120))
  have hv0 : (0 < M.1 ∧ (0 : Int32) = nI 0 ∧ lf_isPoint G 0 = 1) ∨ (¬ 0 < M.1 ∧ lf_isPoint G 0 = 0) := by
    by_cases h0 : 0 < M.1
    · exact Or.inl ⟨h0, nI_0.symm, ld_pt1 hr h0⟩
    · exact Or.inr ⟨h0, ld_pt0 hr (fun j hj => absurd hj (by omega))⟩
  obtain ⟨rc1, q1, c1, ha, hR1, hm1, hn1, hx1⟩ := ld_arrive hr hR0 hv0 (fun h V hV => hV.1 h)
  -- the loop
  have hL := ld_loop (f := ls_rfind_1 G) (fun v => ∃ t c, v.1 = nI t ∧ ld_RI M v.2.1 v.2.2 t c ∧ ld_RL M v.2.1 v.2.2) (fun v => 121 - v.1.toNatClampNeg) (fun y => ∃ t, ld_RI M y.2.1 y.2.2 t 0 ∧ ld_RL M y.2.1 y.2.2) ?_ N (0, rc1, q1) ⟨0, c1, rfl, hR1, hx1, ?_⟩ (by show 121 - _ < N; omega)
  · obtain ⟨Y, hY, t, hRI, hRL⟩ := hL
    refine ⟨Y.2.1, Y.2.2, ?_, hRI.2.2.1, ⟨⟨fun h => decide_eq_true (hRL.1 h), fun p q hp hpS hnx => ?_⟩, fun V hV p hp hpS => hRI.2.2.2.2.1 V hV p (by omega) (of_decide_eq_true hpS)⟩, hRI.1, hRI.2.1⟩
    · simp only [lm_rfind, ld_lt]
      rw [ha]
      show Option.bind (ld_it (ls_rfind_1 G) N (0, rc1, q1)) _ = _
      rw [hY]
      rfl
    · exact decide_eq_true (hRL.2 p (by omega) (of_decide_eq_true hpS) (ld_pk_0 hRI.2.2.1 p (by omega)) q hnx)
  · rintro ⟨tk, rc, q⟩ ⟨t, c, ht, hRI, hRL⟩
    have ht : tk = nI t := ht
    subst ht
    have hRI : ld_RI M rc q t c := hRI
    have hRL : ld_RL M rc q := hRL
    have hcn := ld_cn_le (fun j => decide (rc j = 1)) 120
    have htc := hRI.2.2.2.2.2
    by_cases h120 : 120 ≤ t
    · right
      have hc0 : c = 0 := by omega
      subst hc0
      refine ⟨(nI t, rc, q), ?_, t, hRI, hRL⟩
      show ls_rfind_1 G (nI t, rc, q) = _
      simp only [ls_rfind_1]
      rw [if_pos (show (120 : Int32) ≤ nI t from nI_le (a := 120) h120 (by omega))]
    · have hlt : ¬ (120 : Int32) ≤ nI t := nI_ge (b := 120) (by omega) (by omega)
      cases c with
      | zero =>
        right
        refine ⟨(nI t, rc, q), ?_, t, hRI, hRL⟩
        show ls_rfind_1 G (nI t, rc, q) = _
        simp only [ls_rfind_1, ld_lt]
        rw [if_neg hlt, ld_pe1 hRI.2.2.1.1, if_neg (by decide)]
      | succ c =>
        left
        obtain ⟨j, hj, hj1, hT1, hT2, hT3⟩ := ld_take_ok hRI.2.2.1
        have hrj : rc j = 1 := hRI.2.2.2.1 j hj hj1
        have hjk : j < M.1 := hRI.2.1 j hj hrj
        obtain ⟨hd, -, -, -, -, hnx, hny⟩ := hr.2.2 j hjk
        -- behind the taking
        have hR2 : ld_RI M rc (lf_take q).2 (t + 1) c := by
          refine ⟨hRI.1, hRI.2.1, hT2, fun i hi e => ?_, hRI.2.2.2.2.1, by omega⟩
          rw [hT3] at e
          by_cases hij : i = j
          · subst hij; exact hrj
          · rw [pk_un hij] at e; exact hRI.2.2.2.1 i hi e
        obtain ⟨rc3, q3, c3, ha3, hR3, hm3, hn3, hx3⟩ := ld_arrive hr hR2 (ld_nxP hr hnx) (fun h V hV => hV.2 j _ hjk (hRI.2.2.2.2.1 V hV j hj hrj) ⟨h, Or.inl rfl⟩)
        obtain ⟨rc4, q4, c4, ha4, hR4, hm4, hn4, hx4⟩ := ld_arrive hr hR3 (ld_nxP hr hny) (fun h V hV => hV.2 j _ hjk (hRI.2.2.2.2.1 V hV j hj hrj) ⟨h, Or.inr rfl⟩)
        refine ⟨(nI t + 1, rc4, q4), ?_, ⟨t + 1, c4, nI_1 t, hR4, ?_, ?_⟩, ?_⟩
        · show ls_rfind_1 G (nI t, rc, q) = _
          simp only [ls_rfind_1, ld_lt]
          rw [if_neg hlt, ld_pe0 hRI.2.2.1.1 (by omega), if_pos rfl, hT1, ld_fn1 hr hjk, ha3, ld_fn2 hr hjk, ha4]
        · intro h; exact hm4 0 (by omega) (hm3 0 (by omega) (hRL.1 h))
        · intro i hi hi1 hi0 x hx
          obtain ⟨e1, e2⟩ := hn4 i hi hi1 hi0
          obtain ⟨e3, e4⟩ := hn3 i hi e1 e2
          by_cases hij : i = j
          · subst hij
            have hxk := hx.1
            rcases hx.2 with e | e
            · subst e; exact hm4 _ (by omega) (hx3 hxk)
            · subst e; exact hx4 hxk
          · rw [hT3, pk_un hij] at e4
            exact hm4 x (by have := hx.1; omega) (hm3 x (by have := hx.1; omega) (hRL.2 i hi e3 e4 x hx))
        · show 121 - (nI t + 1).toNatClampNeg < 121 - (nI t).toNatClampNeg
          rw [nI_1, nI_clamp (by omega), nI_clamp (by omega)]
          omega
  · intro j hj e1 e0 x hx
    obtain ⟨e2, -⟩ := hn1 j hj e1 e0
    rw [hz j hj] at e2
    exact absurd e2 (by decide)
