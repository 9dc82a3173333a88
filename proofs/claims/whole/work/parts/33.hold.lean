/-! holding: the class's search along the ways is the least -/
theorem ld_and0 {A : Int32} {b : Nat} (hb : b < 16) : (A &&& ((1 : Int32) <<< (nI b &&& 31))) = 0 ↔ bt A b = false := by
  constructor
  · intro h
    have h1 : bt (A &&& ((1 : Int32) <<< (nI b &&& 31))) b = false := by rw [h, b_0]
    rw [b_and, ld_bit hb (by omega), decide_eq_true rfl, Bool.and_true] at h1
    exact h1
  · intro h
    refine b_ext (fun i hi => ?_)
    rw [b_and, ld_bit hb hi, b_0]
    by_cases e : i = b
    · subst e; rw [h, Bool.false_and]
    · rw [decide_eq_false e, Bool.and_false]
theorem ld_wh1 {A : Int32} {a i : Nat} (ha : a < 16) (hi : i < 32) : bt (lf_withHolder A (nI a) 1) i = if i = a then true else bt A i := by
  unfold lf_withHolder
  rw [if_neg (by decide), b_or, ld_bit ha hi]
  by_cases e : i = a
  · rw [if_pos e, decide_eq_true e, Bool.or_true]
  · rw [if_neg e, decide_eq_false e, Bool.or_false]
theorem ld_wh0 {A : Int32} {a i : Nat} (ha : a < 16) (hi : i < 32) : bt (lf_withHolder A (nI a) 0) i = if i = a then false else bt A i := by
  unfold lf_withHolder
  rw [if_pos rfl, b_and, ld_not hi, ld_bit ha hi]
  by_cases e : i = a
  · rw [if_pos e, decide_eq_true e, Bool.not_true, Bool.and_false]
  · rw [if_neg e, decide_eq_false e, Bool.not_false, Bool.and_true]
theorem ld_hbb {G : ld_gT} {M : ld_M} (hr : ld_rel G M) {p L : Nat} (hp : p < M.1) (hL : L < 120) (A : Int32) {i : Nat} (hi : i < 32) : bt (lf_heldBehind G (nI p) (nI L) A) i = ld_hB M L p (bt A) i := by
  have hk := hr.1
  obtain ⟨⟨hd7, ed⟩, ha, hb2, -, -, -, -⟩ := hr.2.2 p hp
  simp only [lf_heldBehind, ld_lt]
  rw [ld_pt1 hr hp, if_neg (by decide), nI_clamp (by omega), ed]
  unfold ld_hB
  have hd : ld_d M p = 0 ∨ ld_d M p = 1 ∨ ld_d M p = 2 ∨ ld_d M p = 3 ∨ ld_d M p = 4 ∨ ld_d M p = 5 ∨ ld_d M p = 6 := by omega
  rcases hd with h | h | h | h | h | h | h
  · rw [h, if_neg (show ¬ nI 0 = (1 : Int32) from by decide), if_neg (show ¬ nI 0 = (2 : Int32) from by decide), if_neg (show ¬ nI 0 = (3 : Int32) from by decide), if_neg (show ¬ (0 : Nat) = 1 from by decide), if_neg (show ¬ (0 : Nat) = 2 from by decide), if_neg (show ¬ (0 : Nat) = 3 from by decide)]
  · obtain ⟨ha, ea⟩ := ha (by omega) (by omega)
    rw [h, if_pos (show nI 1 = (1 : Int32) from by decide), if_pos (show (1 : Nat) = 1 from rfl), ea]
    by_cases e : p = L
    · subst e
      rw [if_pos (show nI p = nI p from rfl), ld_wh1 ha hi, decide_eq_true (show p = p from rfl)]
    · rw [if_neg (show ¬ nI p = nI L from fun z => e ((nI_eq (by omega) (by omega)).mp z)), ld_wh0 ha hi, decide_eq_false e]
  · obtain ⟨ha, ea⟩ := ha (by omega) (by omega)
    obtain ⟨hb, eb⟩ := hb2 h
    rw [h, if_neg (show ¬ nI 2 = (1 : Int32) from by decide), if_pos (show nI 2 = (2 : Int32) from by decide), if_neg (show ¬ (2 : Nat) = 1 from by decide), if_pos (show (2 : Nat) = 2 from rfl), ea, eb]
    by_cases e : bt A (ld_b M p) = false
    · rw [if_pos ((ld_and0 hb).mpr e), ld_wh0 ha hi, e]
    · rw [if_neg (fun z => e ((ld_and0 hb).mp z)), ld_wh1 ha hi, show bt A (ld_b M p) = true from by cases hz : bt A (ld_b M p) with | true => rfl | false => exact absurd hz e]
  · obtain ⟨ha, ea⟩ := ha (by omega) (by omega)
    rw [h, if_neg (show ¬ nI 3 = (1 : Int32) from by decide), if_neg (show ¬ nI 3 = (2 : Int32) from by decide), if_pos (show nI 3 = (3 : Int32) from by decide), if_neg (show ¬ (3 : Nat) = 1 from by decide), if_neg (show ¬ (3 : Nat) = 2 from by decide), if_pos (show (3 : Nat) = 3 from rfl), ea, ld_wh0 ha hi]
  · rw [h, if_neg (show ¬ nI 4 = (1 : Int32) from by decide), if_neg (show ¬ nI 4 = (2 : Int32) from by decide), if_neg (show ¬ nI 4 = (3 : Int32) from by decide), if_neg (show ¬ (4 : Nat) = 1 from by decide), if_neg (show ¬ (4 : Nat) = 2 from by decide), if_neg (show ¬ (4 : Nat) = 3 from by decide)]
  · rw [h, if_neg (show ¬ nI 5 = (1 : Int32) from by decide), if_neg (show ¬ nI 5 = (2 : Int32) from by decide), if_neg (show ¬ nI 5 = (3 : Int32) from by decide), if_neg (show ¬ (5 : Nat) = 1 from by decide), if_neg (show ¬ (5 : Nat) = 2 from by decide), if_neg (show ¬ (5 : Nat) = 3 from by decide)]
  · rw [h, if_neg (show ¬ nI 6 = (1 : Int32) from by decide), if_neg (show ¬ nI 6 = (2 : Int32) from by decide), if_neg (show ¬ nI 6 = (3 : Int32) from by decide), if_neg (show ¬ (6 : Nat) = 1 from by decide), if_neg (show ¬ (6 : Nat) = 2 from by decide), if_neg (show ¬ (6 : Nat) = 3 from by decide)]
theorem ld_hB_16 {G : ld_gT} {M : ld_M} (hr : ld_rel G M) {p L : Nat} (hp : p < M.1) {A : Nat → Bool} {i : Nat} (hi : 16 ≤ i) (hA : A i = false) : ld_hB M L p A i = false := by
  obtain ⟨⟨hd7, ed⟩, ha, -, -, -, -, -⟩ := hr.2.2 p hp
  unfold ld_hB
  by_cases h1 : ld_d M p = 1
  · have := (ha (by omega) (by omega)).1
    rw [if_pos h1, if_neg (by omega)]; exact hA
  · rw [if_neg h1]
    by_cases h2 : ld_d M p = 2
    · have := (ha (by omega) (by omega)).1
      rw [if_pos h2, if_neg (by omega)]; exact hA
    · rw [if_neg h2]
      by_cases h3 : ld_d M p = 3
      · have := (ha (by omega) (by omega)).1
        rw [if_pos h3, if_neg (by omega)]; exact hA
      · rw [if_neg h3]; exact hA
theorem ld_hb16 {G : ld_gT} {M : ld_M} (hr : ld_rel G M) {p L : Nat} (hp : p < M.1) (hL : L < 120) {A : Int32} (hA : ld_16 A) : ld_16 (lf_heldBehind G (nI p) (nI L) A) := by
  intro i hi
  rcases Nat.lt_or_ge i 32 with h | h
  · rw [ld_hbb hr hp hL A h, ld_hB_16 hr hp hi (hA i hi)]
  · exact b_big h
/-- what holds all along: t points taken, c in the pile -/
def ld_HI (M : ld_M) (L : Nat) (hh : (Nat → Int32) × (Nat → Int32)) (q : ld_pT) (t c : Nat) : Prop :=
  (∀ p, p < 120 → ld_16 (hh.1 p)) ∧ (∀ V, ld_clH M L V → ∀ p i, p < M.1 → bt (hh.1 p) i = true → V p i = true) ∧ ld_pk q c ∧ (∀ j, j < 120 → q.2.1 j = 1 → j < M.1) ∧ t + c ≤ 1 + ld_cB hh.1 ∧ (∀ p, M.1 ≤ p → p < 120 → hh.2 p = 0)
theorem ld_handOn {G : ld_gT} {M : ld_M} (hr : ld_rel G M) {L : Nat} {hh : (Nat → Int32) × (Nat → Int32)} {q : ld_pT} {t c : Nat} (h : ld_HI M L hh q t c) {v : Int32} {x : Nat} (hv : ld_nxI v x) {w : Int32} (hw : ld_16 w) (hs : x < M.1 → ∀ V, ld_clH M L V → ∀ i, bt w i = true → V x i = true) :
    ∃ hh' q' c', lf_handOn G hh q v w = (hh', q') ∧ ld_HI M L hh' q' t c' ∧ hh'.2 = hh.2 ∧ (∀ j i, bt (hh.1 j) i = true → bt (hh'.1 j) i = true) ∧ (∀ j, j < 120 → q'.2.1 j = 0 → q.2.1 j = 0 ∧ hh'.1 j = hh.1 j) ∧ (x < M.1 → ∀ i, bt w i = true → bt (hh'.1 x) i = true) := by
  have hk := hr.1
  obtain ⟨h1, h2, h3, h4, h5, h6⟩ := id h
  rcases ld_nxP hr hv with ⟨hx, rfl, hp⟩ | ⟨hx, hp⟩
  · by_cases hm : (hh.1 x ||| w) = hh.1 x
    · refine ⟨hh, q, c, ?_, h, rfl, fun _ _ z => z, fun _ _ z => ⟨z, rfl⟩, fun _ i hi => ?_⟩
      · simp only [lf_handOn, ld_lt]
        rw [hp, if_neg (by decide), nI_clamp (by omega), if_pos hm]
      · rw [← hm, b_or, hi, Bool.or_true]
    · have hcb := ld_cB_up (u := hh.1) (p := x) (w := hh.1 x ||| w) (by omega) (ld_16_or (h1 x (by omega)) hw) (h1 x (by omega)) (fun i hi => by rw [b_or, hi, Bool.true_or]) hm
      have hst : lf_handOn G hh q (nI x) w = ((upd hh.1 x (hh.1 x ||| w), hh.2), lf_put q (nI x)) := by
        simp only [lf_handOn, ld_lt]
        rw [hp, if_neg (by decide), nI_clamp (by omega), if_neg hm]
      have hA16 : ∀ p, p < 120 → ld_16 (upd hh.1 x (hh.1 x ||| w) p) := by
        intro p hp9
        by_cases e : p = x
        · rw [e, pk_us]; exact ld_16_or (h1 x (by omega)) hw
        · rw [pk_un e]; exact h1 p hp9
      have hso : ∀ V, ld_clH M L V → ∀ p i, p < M.1 → bt (upd hh.1 x (hh.1 x ||| w) p) i = true → V p i = true := by
        intro V hV p i hp9 hb
        by_cases e : p = x
        · rw [e] at hb ⊢
          rw [pk_us, b_or, Bool.or_eq_true] at hb
          rcases hb with hb | hb
          · exact h2 V hV x i hx hb
          · exact hs hx V hV i hb
        · rw [pk_un e] at hb; exact h2 V hV p i hp9 hb
      have hmo : ∀ j i, bt (hh.1 j) i = true → bt (upd hh.1 x (hh.1 x ||| w) j) i = true := by
        intro j i hb
        by_cases e : j = x
        · subst e; rw [pk_us, b_or, hb, Bool.true_or]
        · rw [pk_un e]; exact hb
      have hbx : ∀ i, bt w i = true → bt (upd hh.1 x (hh.1 x ||| w) x) i = true := by
        intro i hb
        rw [pk_us, b_or, hb, Bool.or_true]
      rcases h3.2.2.2.1 x (by omega) with h0 | h0
      · obtain ⟨hc, hput⟩ := ld_put_eq h3 (p := x) (by omega) h0
        refine ⟨(upd hh.1 x (hh.1 x ||| w), hh.2), (upd q.1 c (nI x), upd q.2.1 x 1, nI (c + 1)), c + 1, by rw [hst, hput], ⟨hA16, hso, ld_put_pk h3 (by omega) h0, ?_, ?_, h6⟩, rfl, hmo, ?_, fun _ => hbx⟩
        · intro j hj e1
          have e1 : upd q.2.1 x 1 j = 1 := e1
          by_cases e : j = x
          · subst e; exact hx
          · rw [pk_un e] at e1; exact h4 j hj e1
        · show t + (c + 1) ≤ 1 + ld_cB (upd hh.1 x (hh.1 x ||| w))
          omega
        · intro j hj e1
          have e1 : upd q.2.1 x 1 j = 0 := e1
          by_cases e : j = x
          · subst e
            rw [pk_us] at e1
            exact absurd e1 (by decide)
          · rw [pk_un e] at e1; exact ⟨e1, pk_un e⟩
      · refine ⟨(upd hh.1 x (hh.1 x ||| w), hh.2), q, c, by rw [hst, ld_put_in (by omega) h0], ⟨hA16, hso, h3, h4, ?_, h6⟩, rfl, hmo, ?_, fun _ => hbx⟩
        · show t + c ≤ 1 + ld_cB (upd hh.1 x (hh.1 x ||| w))
          omega
        · intro j hj e1
          by_cases e : j = x
          · subst e
            rw [h0] at e1
            exact absurd e1 (by decide)
          · exact ⟨e1, pk_un e⟩
  · refine ⟨hh, q, c, ?_, h, rfl, fun _ _ z => z, fun _ _ z => ⟨z, rfl⟩, fun z => absurd z hx⟩
    simp only [lf_handOn, ld_lt]
    rw [hp, if_pos rfl]
def ld_HL (M : ld_M) (L : Nat) (hh : (Nat → Int32) × (Nat → Int32)) (q : ld_pT) : Prop :=
  ∀ j, j < M.1 → q.2.1 j = 0 → (∀ i, bt (hh.2 j) i = ld_hB M L j (bt (hh.1 j)) i) ∧ ∀ x, ld_nx M j x → ∀ i, ld_hB M L j (bt (hh.1 j)) i = true → bt (hh.1 x) i = true
theorem ld_follow {G : ld_gT} {M : ld_M} (hr : ld_rel G M) (hh0 : (Nat → Int32) × (Nat → Int32)) (q0 : ld_pT) (hq : ld_pk q0 0) {L : Nat} (hL : L < M.1) {N : Nat} (hN : 2000 < N) :
    ∃ hh q, lm_follow N G hh0 q0 (nI L) = some (hh, q) ∧ ld_pk q 0 ∧ ld_lsH M L (fun p i => bt (hh.1 p) i) ∧ (∀ p, p < M.1 → ∀ i, bt (hh.2 p) i = ld_hB M L p (bt (hh.1 p)) i) ∧ (∀ p, M.1 ≤ p → p < 120 → hh.2 p = 0) := by
  have hk := hr.1
  have hz1 : ∀ j, j < 120 → ld_fl 120 0 hh0.1 j = 0 := fun j hj => ld_fl_at hj
  have hz2 : ∀ j, j < 120 → ld_fl 120 0 hh0.2 j = 0 := fun j hj => ld_fl_at hj
  have hq0 := ld_pk_0 hq
  obtain ⟨hc, hput⟩ := ld_put_eq hq (p := L) (by omega) (hq0 L (by omega))
  have hpk := ld_put_pk hq (p := L) (by omega) (hq0 L (by omega))
  have hI0 : ld_HI M L (ld_fl 120 0 hh0.1, ld_fl 120 0 hh0.2) (upd q0.1 0 (nI L), upd q0.2.1 L 1, nI (0 + 1)) 0 1 := by
    refine ⟨fun p hp => ?_, fun V hV p i hp hb => ?_, hpk, fun j hj e1 => ?_, by omega, fun p h1 h2 => hz2 p h2⟩
    · show ld_16 (ld_fl 120 0 hh0.1 p)
      rw [hz1 p hp]; exact ld_16_0
    · have hb : bt (ld_fl 120 0 hh0.1 p) i = true := hb
      rw [hz1 p (by omega), b_0] at hb
      cases hb
    · have e1 : upd q0.2.1 L 1 j = 1 := e1
      by_cases e : j = L
      · subst e; exact hL
      · rw [pk_un e, hq0 j hj] at e1
        exact absurd e1 (by decide)
  have hHL0 : ld_HL M L (ld_fl 120 0 hh0.1, ld_fl 120 0 hh0.2) (upd q0.1 0 (nI L), upd q0.2.1 L 1, nI (0 + 1)) := by
    intro j hj e0
    have e0 : upd q0.2.1 L 1 j = 0 := e0
    have hne : j ≠ L := by
      intro e
      subst e
      rw [pk_us] at e0
      exact absurd e0 (by decide)
    have hf : ∀ i, ld_hB M L j (bt (ld_fl 120 0 hh0.1 j)) i = false := by
      intro i
      rw [hz1 j (by omega)]
      unfold ld_hB
      rw [decide_eq_false hne]
      simp only [b_0, ite_self]
    refine ⟨fun i => ?_, fun x hx i hb => ?_⟩
    · show bt (ld_fl 120 0 hh0.2 j) i = _
      rw [hz2 j (by omega), b_0]
      exact (hf i).symm
    · have hb : ld_hB M L j (bt (ld_fl 120 0 hh0.1 j)) i = true := hb
      rw [hf i] at hb
      cases hb
  have hLp := ld_loop (f := ls_follow_1 G (nI L)) (fun v => ∃ t c, v.1 = nI t ∧ t ≤ 1921 ∧ ld_HI M L v.2.1 v.2.2 t c ∧ ld_HL M L v.2.1 v.2.2) (fun v => 1922 - v.1.toNatClampNeg) (fun y => ∃ t, ld_HI M L y.2.1 y.2.2 t 0 ∧ ld_HL M L y.2.1 y.2.2) ?_ N (0, (ld_fl 120 0 hh0.1, ld_fl 120 0 hh0.2), (upd q0.1 0 (nI L), upd q0.2.1 L 1, nI (0 + 1))) ⟨0, 1, rfl, by omega, hI0, hHL0⟩ (by show 1922 - _ < N; omega)
  · obtain ⟨Y, hY, t, hHI, hHL⟩ := hLp
    have hp0 := ld_pk_0 hHI.2.2.1
    refine ⟨Y.2.1, Y.2.2, ?_, hHI.2.2.1, ⟨fun p q i hp hnx hb => ?_, fun V hV p i hp hb => hHI.2.1 V hV p i hp hb⟩, fun p hp => (hHL p hp (hp0 p (by omega))).1, hHI.2.2.2.2.2⟩
    · simp only [lm_follow, ld_lt]
      rw [hput, hY]
      rfl
    · exact (hHL p hp (hp0 p (by omega))).2 q hnx i hb
  · rintro ⟨tk, hh, q⟩ ⟨t, c, ht0, ht2, hHI0, hHL0⟩
    have ht : tk = nI t := ht0
    have hHI : ld_HI M L hh q t c := hHI0
    have hHL : ld_HL M L hh q := hHL0
    clear ht0 hHI0 hHL0
    subst ht
    have hcb := ld_cB_le hh.1
    have htc := hHI.2.2.2.2.1
    by_cases h19 : 1920 < t
    · right
      have hc0 : c = 0 := by omega
      subst hc0
      refine ⟨(nI t, hh, q), ?_, t, hHI, hHL⟩
      show ls_follow_1 G (nI L) (nI t, hh, q) = _
      simp only [ls_follow_1]
      rw [if_pos (show (1920 : Int32) < nI t from nI_lt (a := 1920) h19 (by omega))]
    · have hlt : ¬ (1920 : Int32) < nI t := nI_nlt (a := 1920) (by omega) (by omega)
      cases c with
      | zero =>
        right
        refine ⟨(nI t, hh, q), ?_, t, hHI, hHL⟩
        show ls_follow_1 G (nI L) (nI t, hh, q) = _
        simp only [ls_follow_1, ld_lt]
        rw [if_neg hlt, ld_pe1 hHI.2.2.1.1, if_neg (by decide)]
      | succ c =>
        left
        obtain ⟨j, hj, hj1, hT1, hT2, hT3⟩ := ld_take_ok hHI.2.2.1
        have hjk : j < M.1 := hHI.2.2.2.1 j hj hj1
        obtain ⟨-, -, -, -, -, hnx, hny⟩ := hr.2.2 j hjk
        have hA16 := hHI.1 j hj
        have hw16 : ld_16 (lf_heldBehind G (nI j) (nI L) (hh.1 j)) := ld_hb16 hr hjk (by omega) hA16
        have hwb : ∀ i, bt (lf_heldBehind G (nI j) (nI L) (hh.1 j)) i = ld_hB M L j (bt (hh.1 j)) i := by
          intro i
          rcases Nat.lt_or_ge i 32 with h | h
          · exact ld_hbb hr hjk (by omega) _ h
          · rw [b_big h, ld_hB_16 hr hjk (by omega) (b_big h)]
        have hR2 : ld_HI M L (hh.1, upd hh.2 j (lf_heldBehind G (nI j) (nI L) (hh.1 j))) (lf_take q).2 (t + 1) c := by
          refine ⟨hHI.1, hHI.2.1, hT2, fun i hi e => ?_, ?_, fun p h1 h2 => ?_⟩
          · rw [hT3] at e
            by_cases hij : i = j
            · subst hij; exact hjk
            · rw [pk_un hij] at e; exact hHI.2.2.2.1 i hi e
          · show t + 1 + c ≤ 1 + ld_cB hh.1
            omega
          · show upd hh.2 j _ p = 0
            rw [pk_un (by omega)]; exact hHI.2.2.2.2.2 p h1 h2
        have hsnd : ∀ x, ld_nx M j x → ∀ V, ld_clH M L V → ∀ i, bt (lf_heldBehind G (nI j) (nI L) (hh.1 j)) i = true → V x i = true := by
          intro x hx V hV i hb
          rw [hwb i] at hb
          exact hV j x i hjk hx (ld_hB_mono (fun z hz => hHI.2.1 V hV j z hjk hz) hb)
        obtain ⟨hh3, q3, c3, ha3, hR3, hB3, hm3, hn3, hx3⟩ := ld_handOn hr hR2 hnx hw16 (fun h V hV i hb => hsnd _ ⟨h, Or.inl rfl⟩ V hV i hb)
        obtain ⟨hh4, q4, c4, ha4, hR4, hB4, hm4, hn4, hx4⟩ := ld_handOn hr hR3 hny hw16 (fun h V hV i hb => hsnd _ ⟨h, Or.inr rfl⟩ V hV i hb)
        refine ⟨(nI t + 1, hh4, q4), ?_, ⟨t + 1, c4, nI_1 t, by omega, hR4, ?_⟩, ?_⟩
        · show ls_follow_1 G (nI L) (nI t, hh, q) = _
          simp only [ls_follow_1, ld_lt, lf_pass]
          rw [if_neg hlt, ld_pe0 hHI.2.2.1.1 (by omega), if_pos rfl, hT1, ld_ix1 hj, if_neg (by decide), nI_clamp (by omega), ld_fn1 hr hjk, ha3, ld_fn2 hr hjk, ha4]
        · intro i hi hi0
          obtain ⟨e1, e2⟩ := hn4 i (by omega) hi0
          obtain ⟨e3, e4⟩ := hn3 i (by omega) e1
          have e4 : hh3.1 i = hh.1 i := e4
          have eA : hh4.1 i = hh.1 i := e2.trans e4
          have eB : hh4.2 i = upd hh.2 j (lf_heldBehind G (nI j) (nI L) (hh.1 j)) i := by rw [hB4, hB3]
          rw [eA, eB]
          by_cases hij : i = j
          · subst hij
            rw [pk_us]
            refine ⟨hwb, fun x hx z hz => ?_⟩
            rw [← hwb z] at hz
            have hxk := hx.1
            rcases hx.2 with e | e
            · subst e; exact hm4 _ z (hx3 hxk z hz)
            · subst e; exact hx4 hxk z hz
          · rw [pk_un hij]
            rw [hT3, pk_un hij] at e3
            obtain ⟨f1, f2⟩ := hHL i hi e3
            exact ⟨f1, fun x hx z hz => hm4 x z (hm3 x z (f2 x hx z hz))⟩
        · show 1922 - (nI t + 1).toNatClampNeg < 1922 - (nI t).toNatClampNeg
          rw [nI_1, nI_clamp (by omega), nI_clamp (by omega)]
          omega
