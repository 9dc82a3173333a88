/-! uses: the class's fixed point is the least -/
theorem ld_ufb {G : ld_gT} {M : ld_M} (hr : ld_rel G M) {q : Nat} (hq : q < M.1) (B : Int32) {i : Nat} (hi : i < 32) : bt (lf_usedFrom G (nI q) B) i = ld_uB M q (bt B) i := by
  have hk := hr.1
  obtain ⟨⟨hd7, ed⟩, ha, hb2, -, -, -, -⟩ := hr.2.2 q hq
  simp only [lf_usedFrom, ld_lt]
  rw [ld_pt1 hr hq, if_neg (by decide), nI_clamp (by omega), ed]
  unfold ld_uB
  have hd : ld_d M q = 0 ∨ ld_d M q = 1 ∨ ld_d M q = 2 ∨ ld_d M q = 3 ∨ ld_d M q = 4 ∨ ld_d M q = 5 ∨ ld_d M q = 6 := by omega
  rcases hd with h | h | h | h | h | h | h
  · rw [h, if_neg (by decide), if_neg (by decide), if_neg (by decide), if_neg (by decide), if_neg (by decide), if_neg (by decide), if_neg (by decide)]
  · obtain ⟨ha, ea⟩ := ha (by omega) (by omega)
    rw [h, if_pos (by decide), if_pos (by decide), ea, b_and, ld_not hi, ld_bit ha hi]
  · obtain ⟨ha, ea⟩ := ha (by omega) (by omega)
    obtain ⟨hb, eb⟩ := hb2 h
    rw [h, if_neg (by decide), if_pos (by decide), if_neg (by decide), if_pos (by decide), ea, eb, b_or, b_and, ld_not hi, ld_bit ha hi, ld_bit hb hi]
  · obtain ⟨ha, ea⟩ := ha (by omega) (by omega)
    rw [h, if_neg (by decide), if_neg (by decide), if_pos (by decide), if_pos (by decide), ea, b_and, ld_not hi, ld_bit ha hi]
  · obtain ⟨ha, ea⟩ := ha (by omega) (by omega)
    rw [h, if_neg (by decide), if_neg (by decide), if_neg (by decide), if_pos (by decide), if_neg (by decide), if_neg (by decide), if_pos (by decide), ea, b_or, ld_bit ha hi]
  · rw [h, if_neg (by decide), if_neg (by decide), if_neg (by decide), if_neg (by decide), if_neg (by decide), if_neg (by decide), if_neg (by decide)]
  · rw [h, if_neg (by decide), if_neg (by decide), if_neg (by decide), if_neg (by decide), if_neg (by decide), if_neg (by decide), if_neg (by decide)]
theorem ld_uB_16 {G : ld_gT} {M : ld_M} (hr : ld_rel G M) {q : Nat} (hq : q < M.1) {B : Nat → Bool} {i : Nat} (hi : 16 ≤ i) (hB : B i = false) : ld_uB M q B i = false := by
  obtain ⟨⟨hd7, ed⟩, ha, hb2, -, -, -, -⟩ := hr.2.2 q hq
  unfold ld_uB
  by_cases h1 : ld_d M q = 1 ∨ ld_d M q = 3
  · rw [if_pos h1, hB, Bool.false_and]
  · rw [if_neg h1]
    by_cases h2 : ld_d M q = 2
    · have := (hb2 h2).1
      rw [if_pos h2, hB, Bool.false_and, Bool.false_or]
      exact decide_eq_false (by omega)
    · rw [if_neg h2]
      by_cases h3 : ld_d M q = 4
      · have := (ha (by omega) (by omega)).1
        rw [if_pos h3, hB, Bool.false_or]
        exact decide_eq_false (by omega)
      · rw [if_neg h3]; exact hB
theorem ld_ubh {u : Nat → Int32} {x : Nat} (hx : x < 120) : lf_ubehind u (nI x) = u x := by
  simp only [lf_ubehind, ld_lt]
  rw [ld_ix1 hx, if_neg (by decide), nI_clamp (by omega)]
def ld_uv (G : ld_gT) (u : Nat → Int32) (v : Int32) : Int32 := lf_usedFrom G v (lf_ubehind u v)
theorem ld_uvb {G : ld_gT} {M : ld_M} (hr : ld_rel G M) {u : Nat → Int32} {v : Int32} {x : Nat} (hv : ld_nxI v x) {i : Nat} (hi : i < 32) : bt (ld_uv G u v) i = (decide (x < M.1) && ld_uB M x (bt (u x)) i) := by
  have hk := hr.1
  unfold ld_uv
  rcases ld_nxP hr hv with ⟨hx, rfl, -⟩ | ⟨hx, hp⟩
  · rw [ld_ubh (by omega), ld_ufb hr hx _ hi, decide_eq_true hx, Bool.true_and]
  · rw [decide_eq_false hx, Bool.false_and]
    simp only [lf_usedFrom, ld_lt]
    rw [hp, if_pos rfl, b_0]
def ld_mo (G : ld_gT) (u : Nat → Int32) (p : Nat) : Int32 := (u p ||| ld_uv G u (G.2.2.2.2.1 p)) ||| ld_uv G u (G.2.2.2.2.2.1 p)
theorem ld_mob {G : ld_gT} {M : ld_M} (hr : ld_rel G M) {u : Nat → Int32} {p : Nat} (hp : p < M.1) {i : Nat} (hi : i < 32) : bt (ld_mo G u p) i = ((bt (u p) i || (decide (ld_x M p < M.1) && ld_uB M (ld_x M p) (bt (u (ld_x M p))) i)) || (decide (ld_y M p < M.1) && ld_uB M (ld_y M p) (bt (u (ld_y M p))) i)) := by
  obtain ⟨-, -, -, -, -, hx, hy⟩ := hr.2.2 p hp
  unfold ld_mo
  rw [b_or, b_or, ld_uvb hr hx hi, ld_uvb hr hy hi]
def ld_UI (M : ld_M) (u : Nat → Int32) : Prop := (∀ p, p < 120 → ld_16 (u p)) ∧ (∀ V, ld_clU M V → ∀ p i, p < M.1 → bt (u p) i = true → V p i = true) ∧ (∀ p, M.1 ≤ p → p < 120 → u p = 0)
theorem ld_mo16 {G : ld_gT} {M : ld_M} (hr : ld_rel G M) {u : Nat → Int32} (h : ∀ p, p < 120 → ld_16 (u p)) {p : Nat} (hp : p < M.1) : ld_16 (ld_mo G u p) := by
  have hk := hr.1
  intro i hi
  rcases Nat.lt_or_ge i 32 with h32 | h32
  · rw [ld_mob hr hp h32, h p (by omega) i hi]
    have key : ∀ x, (decide (x < M.1) && ld_uB M x (bt (u x)) i) = false := by
      intro x
      by_cases hx : x < M.1
      · rw [ld_uB_16 hr hx hi (h x (by omega) i hi), Bool.and_false]
      · rw [decide_eq_false hx, Bool.false_and]
    rw [key, key]
    rfl
  · exact b_big h32
theorem ld_UI_st {G : ld_gT} {M : ld_M} (hr : ld_rel G M) {u : Nat → Int32} (h : ld_UI M u) {p : Nat} (hp : p < M.1) : ld_UI M (upd u p (ld_mo G u p)) := by
  have hk := hr.1
  refine ⟨fun q hq => ?_, fun V hV q i hq hb => ?_, fun q h1 h2 => ?_⟩
  · by_cases e : q = p
    · subst e; rw [pk_us]; exact ld_mo16 hr h.1 hp
    · rw [pk_un e]; exact h.1 q hq
  · by_cases e : q = p
    · subst e
      rw [pk_us] at hb
      rcases Nat.lt_or_ge i 32 with h32 | h32
      · rw [ld_mob hr hp h32, Bool.or_eq_true, Bool.or_eq_true, Bool.and_eq_true, Bool.and_eq_true] at hb
        rcases hb with (hb | hb) | hb
        · exact h.2.1 V hV q i hq hb
        · have hx := of_decide_eq_true hb.1
          exact hV q _ i hq ⟨hx, Or.inl rfl⟩ (ld_uB_mono (fun j hj => h.2.1 V hV _ j hx hj) hb.2)
        · have hx := of_decide_eq_true hb.1
          exact hV q _ i hq ⟨hx, Or.inr rfl⟩ (ld_uB_mono (fun j hj => h.2.1 V hV _ j hx hj) hb.2)
      · rw [b_big h32] at hb; cases hb
    · rw [pk_un e] at hb; exact h.2.1 V hV q i hq hb
  · rw [pk_un (by omega)]; exact h.2.2 q h1 h2
/-- how many uses are found -/
def ld_cB (u : Nat → Int32) : Nat := ld_cn (fun j => bt (u (j / 16)) (j % 16)) 1920
theorem ld_cB_le (u : Nat → Int32) : ld_cB u ≤ 1920 := ld_cn_le _ _
theorem ld_cB_up {u : Nat → Int32} {p : Nat} {w : Int32} (hp : p < 120) (hw : ld_16 w) (hu : ld_16 (u p)) (hm : ∀ i, bt (u p) i = true → bt w i = true) (hne : ¬ w = u p) : ld_cB u < ld_cB (upd u p w) := by
  have h1 : ∃ i, i < 16 ∧ bt (u p) i = false ∧ bt w i = true := by
    refine Classical.byContradiction (fun q => hne (ld_16_ext hw hu (fun i hi => ?_)))
    cases h2 : bt (u p) i with
    | true => exact hm i h2
    | false =>
      cases h3 : bt w i with
      | false => rfl
      | true => exact absurd ⟨i, hi, h2, h3⟩ q
  obtain ⟨i, hi, h2, h3⟩ := h1
  have e1 : (16 * p + i) / 16 = p := by omega
  have e2 : (16 * p + i) % 16 = i := by omega
  refine ld_cn_lt 1920 (fun j hj hb => ?_) (16 * p + i) (by omega) ?_ ?_
  · have hb : bt (u (j / 16)) (j % 16) = true := hb
    show bt (upd u p w (j / 16)) (j % 16) = true
    by_cases e : j / 16 = p
    · rw [e] at hb ⊢
      rw [pk_us]
      exact hm _ hb
    · rw [pk_un e]; exact hb
  · show bt (u ((16 * p + i) / 16)) ((16 * p + i) % 16) = false
    rw [e1, e2]; exact h2
  · show bt (upd u p w ((16 * p + i) / 16)) ((16 * p + i) % 16) = true
    rw [e1, e2, pk_us]; exact h3
theorem ld_mo_m {G : ld_gT} {u : Nat → Int32} {p i : Nat} (h : bt (u p) i = true) : bt (ld_mo G u p) i = true := by
  unfold ld_mo
  rw [b_or, b_or, h]
  rfl
theorem ld_grow {G : ld_gT} {M : ld_M} (hr : ld_rel G M) {u : Nat → Int32} (hu : ld_UI M u) {N : Nat} (hN : 130 < N) : ∃ g u', lm_growAll N G u = some (g, u') ∧ ld_UI M u' ∧ ((g = 0 ∧ u' = u ∧ ∀ p, p < M.1 → ld_mo G u p = u p) ∨ (g = 1 ∧ ld_cB u < ld_cB u')) := by
  have hk := hr.1
  have hL := ld_loop (f := ls_growAll_1 G) (fun v => ∃ j, j ≤ M.1 ∧ v.2.1 = nI j - 1 ∧ ld_UI M v.2.2 ∧ ((v.1 = 0 ∧ v.2.2 = u ∧ ∀ p, j ≤ p → p < M.1 → ld_mo G u p = u p) ∨ (v.1 = 1 ∧ ld_cB u < ld_cB v.2.2))) (fun v => (v.2.1 + 1).toNatClampNeg) (fun y => ld_UI M y.2.2 ∧ ((y.1 = 0 ∧ y.2.2 = u ∧ ∀ p, p < M.1 → ld_mo G u p = u p) ∨ (y.1 = 1 ∧ ld_cB u < ld_cB y.2.2))) ?_ N (0, nI M.1 - 1, u) ⟨M.1, Nat.le_refl _, rfl, hu, Or.inl ⟨rfl, rfl, fun p h1 h2 => by omega⟩⟩ (by
      show (nI M.1 - 1 + 1).toNatClampNeg < N
      rw [Int32.sub_add_cancel, nI_clamp (by omega)]
      omega)
  · obtain ⟨Y, hY, h1, h2⟩ := hL
    refine ⟨Y.1, Y.2.2, ?_, h1, h2⟩
    have eg : lf_gsize G = nI M.1 := hr.2.1
    simp only [lm_growAll, ld_lt]
    rw [eg, if_neg (show ¬ (120 : Int32) < nI M.1 from nI_nlt (b := M.1) (a := 120) hk (by omega))]
    rw [hY]
    rfl
  · rintro ⟨g, pt, w⟩ ⟨j, hj, hpt0, hw0, hg0⟩
    have hpt : pt = nI j - 1 := hpt0
    have hw : ld_UI M w := hw0
    have hg : (g = 0 ∧ w = u ∧ ∀ p, j ≤ p → p < M.1 → ld_mo G u p = u p) ∨ (g = 1 ∧ ld_cB u < ld_cB w) := hg0
    clear hpt0 hw0 hg0
    subst hpt
    cases j with
    | zero =>
      right
      refine ⟨(g, nI 0 - 1, w), ?_, hw, ?_⟩
      · show ls_growAll_1 G (g, nI 0 - 1, w) = _
        unfold ls_growAll_1
        rw [if_pos (show nI 0 - 1 < 0 from by decide)]
      · rcases hg with ⟨a1, a2, a3⟩ | hg
        · exact Or.inl ⟨a1, a2, fun p hp => a3 p (by omega) hp⟩
        · exact Or.inr hg
    | succ j =>
      left
      have hjk : j < M.1 := by omega
      rw [nI_pred]
      have e0 : ¬ nI j < 0 := nI_pos (by omega)
      have e1 : ld_in (nI j) 120 = true := ld_in_nI (by omega) (by omega)
      have est : ls_growAll_1 G (g, nI j, w) = (if ld_mo G w j = w j then some (.inl (g, nI j - 1, w)) else some (.inl (1, nI j - 1, upd w j (ld_mo G w j)))) := by
        simp only [ls_growAll_1, ld_lt]
        rw [if_neg e0, if_pos e1, ld_fn1 hr hjk, ld_fn2 hr hjk, nI_clamp (by omega)]
        rfl
      by_cases hm : ld_mo G w j = w j
      · refine ⟨(g, nI j - 1, w), by rw [est, if_pos hm], ⟨j, by omega, rfl, hw, ?_⟩, ?_⟩
        · rcases hg with ⟨a1, a2, a3⟩ | hg
          · have a2 : w = u := a2
            refine Or.inl ⟨a1, a2, fun p hp1 hp2 => ?_⟩
            by_cases e : p = j
            · subst e; rw [← a2]; exact hm
            · exact a3 p (by omega) hp2
          · exact Or.inr hg
        · show (nI j - 1 + 1).toNatClampNeg < (nI j + 1).toNatClampNeg
          rw [Int32.sub_add_cancel, nI_1, nI_clamp (by omega), nI_clamp (by omega)]
          omega
      · have hlt := ld_cB_up (u := w) (p := j) (w := ld_mo G w j) (by omega) (ld_mo16 hr hw.1 hjk) (hw.1 j (by omega)) (fun i h => ld_mo_m h) hm
        refine ⟨(1, nI j - 1, upd w j (ld_mo G w j)), by rw [est, if_neg hm], ⟨j, by omega, rfl, ld_UI_st hr hw hjk, Or.inr ⟨rfl, ?_⟩⟩, ?_⟩
        · rcases hg with ⟨a1, a2, a3⟩ | ⟨-, hg⟩
          · have a2 : w = u := a2
            rw [← a2]; exact hlt
          · exact Nat.lt_trans hg hlt
        · show (nI j - 1 + 1).toNatClampNeg < (nI j + 1).toNatClampNeg
          rw [Int32.sub_add_cancel, nI_1, nI_clamp (by omega), nI_clamp (by omega)]
          omega
theorem ld_mo_cl {G : ld_gT} {M : ld_M} (hr : ld_rel G M) {u : Nat → Int32} (h : ∀ p, p < M.1 → ld_mo G u p = u p) : ld_clU M (fun p i => bt (u p) i) := by
  intro p q i hp hnx hb
  rcases Nat.lt_or_ge i 32 with h32 | h32
  · show bt (u p) i = true
    rw [← h p hp, ld_mob hr hp h32, Bool.or_eq_true, Bool.or_eq_true, Bool.and_eq_true, Bool.and_eq_true]
    rcases hnx.2 with e | e
    · subst e; exact Or.inl (Or.inr ⟨decide_eq_true hnx.1, hb⟩)
    · subst e; exact Or.inr ⟨decide_eq_true hnx.1, hb⟩
  · have := ld_uB_16 hr hnx.1 (B := bt (u q)) (i := i) (by omega) (b_big h32)
    rw [this] at hb
    cases hb
theorem ld_ufind {G : ld_gT} {M : ld_M} (hr : ld_rel G M) (u0 : Nat → Int32) {N : Nat} (hN : 2000 < N) : ∃ u, lm_ufind N G u0 = some u ∧ ld_lsU M (fun p i => bt (u p) i) ∧ ld_UI M u := by
  have hk := hr.1
  have hz : ∀ j, j < 120 → ld_fl 120 0 u0 j = 0 := fun j hj => ld_fl_at hj
  have hU0 : ld_UI M (ld_fl 120 0 u0) := by
    refine ⟨fun p hp => by rw [hz p hp]; exact ld_16_0, fun V hV p i hp hb => ?_, fun p h1 h2 => hz p h2⟩
    rw [hz p (by omega), b_0] at hb
    cases hb
  have hL := ld_loop (f := ls_ufind_1 N G) (fun v => ∃ t, v.2.1 = nI t ∧ t ≤ 1921 ∧ ld_UI M v.2.2 ∧ ((v.1 = 0 ∧ ∀ p, p < M.1 → ld_mo G v.2.2 p = v.2.2 p) ∨ (v.1 = 1 ∧ t ≤ ld_cB v.2.2))) (fun v => 1922 - v.2.1.toNatClampNeg) (fun y => ld_UI M y.2.2 ∧ ∀ p, p < M.1 → ld_mo G y.2.2 p = y.2.2 p) ?_ N (1, 0, ld_fl 120 0 u0) ⟨0, rfl, by omega, hU0, Or.inr ⟨rfl, Nat.zero_le _⟩⟩ (by show 1922 - _ < N; omega)
  · obtain ⟨Y, hY, h1, h2⟩ := hL
    refine ⟨Y.2.2, ?_, ⟨ld_mo_cl hr h2, fun V hV p i hp hb => h1.2.1 V hV p i hp hb⟩, h1⟩
    unfold lm_ufind
    rw [hY]
    rfl
  · rintro ⟨g, rd, w⟩ ⟨t, ht0, ht2, hw0, hg0⟩
    have ht : rd = nI t := ht0
    have hw : ld_UI M w := hw0
    have hg : (g = 0 ∧ ∀ p, p < M.1 → ld_mo G w p = w p) ∨ (g = 1 ∧ t ≤ ld_cB w) := hg0
    clear ht0 hw0 hg0
    subst ht
    have hcb := ld_cB_le w
    rcases hg with ⟨hg, hcl⟩ | ⟨hg, htc⟩
    · right
      have hg : g = 0 := hg
      subst hg
      refine ⟨(0, nI t, w), ?_, hw, hcl⟩
      show ls_ufind_1 N G (0, nI t, w) = _
      unfold ls_ufind_1
      by_cases h19 : (1920 : Int32) < nI t
      · rw [if_pos (show (1920 : Int32) < nI t from h19)]
      · rw [if_neg (show ¬ (1920 : Int32) < nI t from h19), if_pos (show (0 : Int32) = 0 from rfl)]
    · left
      have hg : g = 1 := hg
      subst hg
      have htc : t ≤ ld_cB w := htc
      obtain ⟨g', u', hgr, hU', hg'⟩ := ld_grow hr hw (N := N) (by omega)
      refine ⟨(g', nI t + 1, u'), ?_, ⟨t + 1, nI_1 t, by omega, hU', ?_⟩, ?_⟩
      · show ls_ufind_1 N G (1, nI t, w) = _
        unfold ls_ufind_1
        rw [if_neg (show ¬ (1920 : Int32) < nI t from nI_nlt (a := 1920) (by omega) (by omega)), if_neg (show ¬ (1 : Int32) = 0 from by decide)]
        show Option.bind (lm_growAll N G w) _ = _
        rw [hgr]
        rfl
      · rcases hg' with ⟨a1, a2, a3⟩ | ⟨a1, a2⟩
        · subst a2; exact Or.inl ⟨a1, a3⟩
        · exact Or.inr ⟨a1, by show t + 1 ≤ ld_cB u'; omega⟩
      · show 1922 - (nI t + 1).toNatClampNeg < 1922 - (nI t).toNatClampNeg
        rw [nI_1, nI_clamp (by omega), nI_clamp (by omega)]
        omega
