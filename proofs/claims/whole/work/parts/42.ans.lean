/-! POINT -/
theorem ld_isRf (v : Int32) : (lf_isRef v = 1 ∧ lf_fIsRef v = 1 ∧ ∃ a, a < 16 ∧ v = nI a) ∨ (lf_isRef v = 0 ∧ lf_fIsRef v = 0) := by
  have e : lf_fIsRef v = lf_isRef v := rfl
  rw [e]
  unfold lf_isRef
  rcases pk_ix v (n := 16) (by omega) with h | h | ⟨j, hj, h⟩
  · rw [if_pos h]; exact Or.inr ⟨rfl, rfl⟩
  · by_cases h0 : v < 0
    · rw [if_pos h0]; exact Or.inr ⟨rfl, rfl⟩
    · rw [if_neg h0, if_pos (show (16 : Int32) ≤ v from h)]; exact Or.inr ⟨rfl, rfl⟩
  · subst h
    rw [if_neg (nI_pos (by omega)), if_neg (show ¬ (16 : Int32) ≤ nI j from nI_ge (b := 16) hj (by omega))]
    exact Or.inl ⟨rfl, rfl, j, hj, rfl⟩
theorem ld_plC (v : Int32) : (ld_plI v = 1 ∧ ∃ b, (1 ≤ b ∧ b < 10000) ∧ v = nI b) ∨ ld_plI v = 0 := by
  unfold ld_plI
  by_cases h : v ≤ 0
  · rw [if_pos h]; exact Or.inr rfl
  · rw [if_neg h]
    cases hz : ld_pl v.toNatClampNeg with
    | false => exact Or.inr rfl
    | true =>
      have h1 : ¬ v < 0 := fun z => h (Int32.le_of_lt z)
      obtain ⟨n, hn, rfl⟩ := nI_of h1
      rw [nI_clamp hn] at hz
      have := of_decide_eq_true hz
      exact Or.inl ⟨rfl, n, by omega, rfl⟩
/-- what the class lets in means this -/
theorem ld_doing (v0 v1 v2 v3 : Int32) {N : Nat} (hN : 40 < N) : ∃ r, lm_isDoing N v0 v1 v2 v3 = some r ∧ (¬ r = 0 → ∃ d a b c : Nat, d < 7 ∧ v0 = nI d ∧ (1 ≤ d → d ≤ 4 → a < 16 ∧ v1 = nI a) ∧ (d = 2 → b < 16 ∧ v2 = nI b) ∧ (d = 1 ∨ 5 ≤ d → (1 ≤ b ∧ b < 10000) ∧ v2 = nI b) ∧ (d = 1 → c < 2 ∧ v3 = nI c)) := by
  obtain ⟨hp1, hp2⟩ := ld_placeI hN v2
  by_cases hd : ∃ d : Nat, d < 7 ∧ v0 = nI d
  · obtain ⟨d, hd7, ev0⟩ := hd
    have hcs : d = 0 ∨ d = 1 ∨ d = 2 ∨ d = 3 ∨ d = 4 ∨ d = 5 ∨ d = 6 := by omega
    rcases hcs with rfl | rfl | rfl | rfl | rfl | rfl | rfl
    · have ev : v0 = (0 : Int32) := ev0
      refine ⟨1, by simp [lm_isDoing, ev, ld_lt], fun h => ?_⟩
      exact ⟨0, 0, 0, 0, by omega, ev0, by omega, by omega, by omega, by omega⟩
    · have ev : v0 = (1 : Int32) := ev0
      rcases ld_isRf v1 with ⟨r1, r2, a, ha, ea⟩ | ⟨r1, r2⟩
      · rcases ld_plC v2 with ⟨p1, b, hb, eb⟩ | p1
        · by_cases c0 : v3 = 0
          · skip
            refine ⟨1, by simp [lm_isDoing, ev, ld_lt, r1, hp1, p1, c0], fun h => ?_⟩
            exact ⟨1, a, b, 0, by omega, ev0, fun _ _ => ⟨ha, ea⟩, by omega, fun _ => ⟨hb, eb⟩, fun _ => ⟨by omega, c0⟩⟩
          · by_cases c1 : v3 = 1
            · skip
              refine ⟨1, by simp [lm_isDoing, ev, ld_lt, r1, hp1, p1, c1], fun h => ?_⟩
              exact ⟨1, a, b, 1, by omega, ev0, fun _ _ => ⟨ha, ea⟩, by omega, fun _ => ⟨hb, eb⟩, fun _ => ⟨by omega, c1⟩⟩
            · skip
              refine ⟨0, by simp [lm_isDoing, ev, ld_lt, r1, hp1, p1, c0, c1], fun h => ?_⟩
              exact absurd rfl h
        · skip
          refine ⟨0, by simp [lm_isDoing, ev, ld_lt, r1, hp1, p1], fun h => ?_⟩
          exact absurd rfl h
      · skip
        refine ⟨0, by simp [lm_isDoing, ev, ld_lt, r1], fun h => ?_⟩
        exact absurd rfl h
    · have ev : v0 = (2 : Int32) := ev0
      rcases ld_isRf v1 with ⟨r1, r2, a, ha, ea⟩ | ⟨r1, r2⟩
      · rcases ld_isRf v2 with ⟨s1, s2, b, hb, eb⟩ | ⟨s1, s2⟩
        · skip
          refine ⟨1, by simp [lm_isDoing, ev, ld_lt, r1, s1], fun h => ?_⟩
          exact ⟨2, a, b, 0, by omega, ev0, fun _ _ => ⟨ha, ea⟩, fun _ => ⟨hb, eb⟩, by omega, by omega⟩
        · skip
          refine ⟨0, by simp [lm_isDoing, ev, ld_lt, r1, s1], fun h => ?_⟩
          exact absurd rfl h
      · skip
        refine ⟨0, by simp [lm_isDoing, ev, ld_lt, r1], fun h => ?_⟩
        exact absurd rfl h
    · have ev : v0 = (3 : Int32) := ev0
      rcases ld_isRf v1 with ⟨r1, r2, a, ha, ea⟩ | ⟨r1, r2⟩
      · skip
        refine ⟨1, by simp [lm_isDoing, ev, ld_lt, r1], fun h => ?_⟩
        exact ⟨3, a, 0, 0, by omega, ev0, fun _ _ => ⟨ha, ea⟩, by omega, by omega, by omega⟩
      · skip
        refine ⟨0, by simp [lm_isDoing, ev, ld_lt, r1], fun h => ?_⟩
        exact absurd rfl h
    · have ev : v0 = (4 : Int32) := ev0
      rcases ld_isRf v1 with ⟨r1, r2, a, ha, ea⟩ | ⟨r1, r2⟩
      · skip
        refine ⟨1, by simp [lm_isDoing, ev, ld_lt, r1], fun h => ?_⟩
        exact ⟨4, a, 0, 0, by omega, ev0, fun _ _ => ⟨ha, ea⟩, by omega, by omega, by omega⟩
      · skip
        refine ⟨0, by simp [lm_isDoing, ev, ld_lt, r1], fun h => ?_⟩
        exact absurd rfl h
    · have ev : v0 = (5 : Int32) := ev0
      rcases ld_plC v2 with ⟨p1, b, hb, eb⟩ | p1
      · skip
        refine ⟨1, by simp [lm_isDoing, ev, ld_lt, hp1, p1], fun h => ?_⟩
        exact ⟨5, 0, b, 0, by omega, ev0, by omega, by omega, fun _ => ⟨hb, eb⟩, by omega⟩
      · skip
        refine ⟨0, by simp [lm_isDoing, ev, ld_lt, hp1, p1], fun h => ?_⟩
        exact absurd rfl h
    · have ev : v0 = (6 : Int32) := ev0
      rcases ld_plC v2 with ⟨p1, b, hb, eb⟩ | p1
      · skip
        refine ⟨1, by simp [lm_isDoing, ev, ld_lt, hp1, p1], fun h => ?_⟩
        exact ⟨6, 0, b, 0, by omega, ev0, by omega, by omega, fun _ => ⟨hb, eb⟩, by omega⟩
      · skip
        refine ⟨0, by simp [lm_isDoing, ev, ld_lt, hp1, p1], fun h => ?_⟩
        exact absurd rfl h
  · have hne : ∀ d : Nat, d < 7 → ¬ v0 = nI d := fun d h7 e => hd ⟨d, h7, e⟩
    refine ⟨0, ?_, fun h => absurd rfl h⟩
    unfold lm_isDoing
    rw [if_neg (show ¬ v0 = (0 : Int32) from hne 0 (by omega)), if_neg (show ¬ v0 = (1 : Int32) from hne 1 (by omega)), if_neg (show ¬ v0 = (2 : Int32) from hne 2 (by omega)), if_neg (show ¬ v0 = (3 : Int32) from hne 3 (by omega)), if_neg (show ¬ v0 = (4 : Int32) from hne 4 (by omega)), if_neg (show ¬ v0 = (5 : Int32) from hne 5 (by omega)), if_neg (show ¬ v0 = (6 : Int32) from hne 6 (by omega))]
/-- the reference's refusals, in one -/
theorem ld_fpt {fo : Int32 × Int32 × Int32} {fb : ld_bT} {v0 v1 v2 v3 : Int32} {N : Nat} {y1 y2 y3 y4 y5 : Int32} (h1 : (if v0 < 0 then some 0 else if 6 < v0 then some 0 else if 120 ≤ fo.1 then some 0 else some 1) = some y1)
    (h2 : (if y1 = 0 then some 0 else if v0 < 1 then some 1 else if 4 < v0 then some 1 else ld_lt (lf_fIsRef v1) (fun r_24 => if r_24 = 0 then some 0 else some 1)) = some y2)
    (h3 : (if y2 = 0 then some 0 else if v0 = 2 then ld_lt (lf_fIsRef v2) (fun r_19 => if r_19 = 0 then some 0 else some 1) else some 1) = some y3)
    (h4 : (if y3 = 0 then some 0 else if v0 = 1 then Option.bind (lm_fIsPlace N v2) (fun r_9 => if r_9 = 0 then some 0 else some 1) else if v0 = 5 then Option.bind (lm_fIsPlace N v2) (fun r_12 => if r_12 = 0 then some 0 else some 1) else if v0 = 6 then Option.bind (lm_fIsPlace N v2) (fun r_15 => if r_15 = 0 then some 0 else some 1) else some 1) = some y4)
    (h5 : (if y4 = 0 then some 0 else if v0 = 1 then if v3 = 0 then some 1 else if v3 = 1 then some 1 else some 0 else some 1) = some y5) :
    lm_fpoint N fo fb v0 v1 v2 v3 = (if y5 = 0 then some (ld_n1, fo, fb) else if ld_in fo.1 120 = true then (some ((fo.1 + 1) - 1, (fo.1 + 1, 0, fo.2.2), (upd fb.1 fo.1.toNatClampNeg v0, upd fb.2.1 fo.1.toNatClampNeg v1, upd fb.2.2.1 fo.1.toNatClampNeg v2, upd fb.2.2.2.1 fo.1.toNatClampNeg v3, upd fb.2.2.2.2.1 fo.1.toNatClampNeg (fo.1 + 1), upd fb.2.2.2.2.2 fo.1.toNatClampNeg ld_n1))) else none) := by
  unfold lm_fpoint
  rw [h1]
  show Option.bind (if y1 = 0 then some 0 else if v0 < 1 then some 1 else if 4 < v0 then some 1 else ld_lt (lf_fIsRef v1) (fun r_24 => if r_24 = 0 then some 0 else some 1)) _ = _
  rw [h2]
  show Option.bind (if y2 = 0 then some 0 else if v0 = 2 then ld_lt (lf_fIsRef v2) (fun r_19 => if r_19 = 0 then some 0 else some 1) else some 1) _ = _
  rw [h3]
  show Option.bind (if y3 = 0 then some 0 else if v0 = 1 then Option.bind (lm_fIsPlace N v2) (fun r_9 => if r_9 = 0 then some 0 else some 1) else if v0 = 5 then Option.bind (lm_fIsPlace N v2) (fun r_12 => if r_12 = 0 then some 0 else some 1) else if v0 = 6 then Option.bind (lm_fIsPlace N v2) (fun r_15 => if r_15 = 0 then some 0 else some 1) else some 1) _ = _
  rw [h4]
  show Option.bind (if y4 = 0 then some 0 else if v0 = 1 then if v3 = 0 then some 1 else if v3 = 1 then some 1 else some 0 else some 1) _ = _
  rw [h5]
  rfl
/-- what is valid, in both; and what it means -/
theorem ld_valid (v0 v1 v2 v3 : Int32) {fo : Int32 × Int32 × Int32} {fb : ld_bT} {k N : Nat} (hn : fo.1 = nI k) (hk : k ≤ 120) (hN : 40 < N) :
    (∃ r y, lm_isDoing N v0 v1 v2 v3 = some r ∧ (r = 0 ↔ y = false) ∧
      lm_fpoint N fo fb v0 v1 v2 v3 = (if y = true ∧ k < 120 then some (nI k, (nI (k + 1), 0, fo.2.2), (upd fb.1 k v0, upd fb.2.1 k v1, upd fb.2.2.1 k v2, upd fb.2.2.2.1 k v3, upd fb.2.2.2.2.1 k (nI (k + 1)), upd fb.2.2.2.2.2 k (-1))) else some (-1, fo, fb)) ∧
      (y = true → ∃ d a b c : Nat, d < 7 ∧ v0 = nI d ∧ (1 ≤ d → d ≤ 4 → a < 16 ∧ v1 = nI a) ∧ (d = 2 → b < 16 ∧ v2 = nI b) ∧ (d = 1 ∨ 5 ≤ d → (1 ≤ b ∧ b < 10000) ∧ v2 = nI b) ∧ (d = 1 → c < 2 ∧ v3 = nI c))) := by
  have hn1 : ld_n1 = (-1 : Int32) := rfl
  have hfin : ∀ (y : Bool) (y5 : Int32), (y5 = 0 ↔ ¬ (y = true ∧ k < 120)) → (if y5 = 0 then some (ld_n1, fo, fb) else if ld_in fo.1 120 = true then (some ((fo.1 + 1) - 1, (fo.1 + 1, 0, fo.2.2), (upd fb.1 fo.1.toNatClampNeg v0, upd fb.2.1 fo.1.toNatClampNeg v1, upd fb.2.2.1 fo.1.toNatClampNeg v2, upd fb.2.2.2.1 fo.1.toNatClampNeg v3, upd fb.2.2.2.2.1 fo.1.toNatClampNeg (fo.1 + 1), upd fb.2.2.2.2.2 fo.1.toNatClampNeg ld_n1))) else none) = (if y = true ∧ k < 120 then some (nI k, (nI (k + 1), 0, fo.2.2), (upd fb.1 k v0, upd fb.2.1 k v1, upd fb.2.2.1 k v2, upd fb.2.2.2.1 k v3, upd fb.2.2.2.2.1 k (nI (k + 1)), upd fb.2.2.2.2.2 k (-1))) else some (-1, fo, fb)) := by
    intro y y5 h
    by_cases h1 : y = true ∧ k < 120
    · rw [if_pos h1, if_neg (fun z => h.mp z h1), hn, if_pos (ld_in_nI h1.2 (by omega)), nI_clamp (by omega), nI_1, nI_pred, hn1]
    · rw [if_neg h1, if_pos (h.mpr h1), hn1]
  have room : (120 : Int32) ≤ fo.1 ↔ ¬ k < 120 := by
    rw [hn]
    constructor
    · intro h h2; exact nI_ge h2 (by omega) h
    · intro h; exact nI_le (a := 120) (by omega) (by omega)
  obtain ⟨hp1, hp2⟩ := ld_placeI hN v2
  have hy1 : ∀ d : Nat, d < 7 → v0 = nI d → (if v0 < 0 then some 0 else if 6 < v0 then some 0 else if 120 ≤ fo.1 then some 0 else some 1) = some (if k < 120 then (1 : Int32) else 0) := by
    intro d hd e
    rw [e, if_neg (nI_pos (by omega)), if_neg (show ¬ (6 : Int32) < nI d from nI_nlt (a := 6) (by omega) (by omega))]
    by_cases h : k < 120
    · rw [if_neg (fun z => room.mp z h), if_pos h]
    · rw [if_pos (room.mpr h), if_neg h]
  by_cases hr : k < 120
  · by_cases hd : ∃ d : Nat, d < 7 ∧ v0 = nI d
    · obtain ⟨d, hd7, ev0⟩ := hd
      have y1 := hy1 d hd7 ev0
      rw [if_pos hr] at y1
      have hcs : d = 0 ∨ d = 1 ∨ d = 2 ∨ d = 3 ∨ d = 4 ∨ d = 5 ∨ d = 6 := by omega
      rcases hcs with rfl | rfl | rfl | rfl | rfl | rfl | rfl
      · have ev : v0 = (0 : Int32) := ev0
        refine ⟨1, true, by simp [lm_isDoing, ev, ld_lt], by decide, (ld_fpt (y2 := 1) (y3 := 1) (y4 := 1) (y5 := 1) y1 (by simp [ev, ld_lt]) (by simp [ev, ld_lt]) (by simp [ev, ld_lt]) (by simp [ev, ld_lt])).trans (hfin true 1 (by simp [hr])), fun h => ?_⟩
        exact ⟨0, 0, 0, 0, by omega, ev0, by omega, by omega, by omega, by omega⟩
      · have ev : v0 = (1 : Int32) := ev0
        rcases ld_isRf v1 with ⟨r1, r2, a, ha, ea⟩ | ⟨r1, r2⟩
        · rcases ld_plC v2 with ⟨p1, b, hb, eb⟩ | p1
          · by_cases c0 : v3 = 0
            · skip
              refine ⟨1, true, by simp [lm_isDoing, ev, ld_lt, r1, r2, hp1, hp2, p1, c0], by decide, (ld_fpt (y2 := 1) (y3 := 1) (y4 := 1) (y5 := 1) y1 (by simp [ev, ld_lt, r1, r2, hp1, hp2, p1, c0]) (by simp [ev, ld_lt, r1, r2, hp1, hp2, p1, c0]) (by simp [ev, ld_lt, r1, r2, hp1, hp2, p1, c0]) (by simp [ev, ld_lt, r1, r2, hp1, hp2, p1, c0])).trans (hfin true 1 (by simp [hr])), fun h => ?_⟩
              exact ⟨1, a, b, 0, by omega, ev0, fun _ _ => ⟨ha, ea⟩, by omega, fun _ => ⟨hb, eb⟩, fun _ => ⟨by omega, c0⟩⟩
            · by_cases c1 : v3 = 1
              · skip
                refine ⟨1, true, by simp [lm_isDoing, ev, ld_lt, r1, r2, hp1, hp2, p1, c1], by decide, (ld_fpt (y2 := 1) (y3 := 1) (y4 := 1) (y5 := 1) y1 (by simp [ev, ld_lt, r1, r2, hp1, hp2, p1, c1]) (by simp [ev, ld_lt, r1, r2, hp1, hp2, p1, c1]) (by simp [ev, ld_lt, r1, r2, hp1, hp2, p1, c1]) (by simp [ev, ld_lt, r1, r2, hp1, hp2, p1, c1])).trans (hfin true 1 (by simp [hr])), fun h => ?_⟩
                exact ⟨1, a, b, 1, by omega, ev0, fun _ _ => ⟨ha, ea⟩, by omega, fun _ => ⟨hb, eb⟩, fun _ => ⟨by omega, c1⟩⟩
              · skip
                refine ⟨0, false, by simp [lm_isDoing, ev, ld_lt, r1, r2, hp1, hp2, p1, c0, c1], by decide, (ld_fpt (y2 := 1) (y3 := 1) (y4 := 1) (y5 := 0) y1 (by simp [ev, ld_lt, r1, r2, hp1, hp2, p1, c0, c1]) (by simp [ev, ld_lt, r1, r2, hp1, hp2, p1, c0, c1]) (by simp [ev, ld_lt, r1, r2, hp1, hp2, p1, c0, c1]) (by simp [ev, ld_lt, r1, r2, hp1, hp2, p1, c0, c1])).trans (hfin false 0 (by simp [hr])), fun h => ?_⟩
                cases h
          · skip
            refine ⟨0, false, by simp [lm_isDoing, ev, ld_lt, r1, r2, hp1, hp2, p1], by decide, (ld_fpt (y2 := 1) (y3 := 1) (y4 := 0) (y5 := 0) y1 (by simp [ev, ld_lt, r1, r2, hp1, hp2, p1]) (by simp [ev, ld_lt, r1, r2, hp1, hp2, p1]) (by simp [ev, ld_lt, r1, r2, hp1, hp2, p1]) (by simp [ev, ld_lt, r1, r2, hp1, hp2, p1])).trans (hfin false 0 (by simp [hr])), fun h => ?_⟩
            cases h
        · skip
          refine ⟨0, false, by simp [lm_isDoing, ev, ld_lt, r1, r2], by decide, (ld_fpt (y2 := 0) (y3 := 0) (y4 := 0) (y5 := 0) y1 (by simp [ev, ld_lt, r1, r2]) (by simp [ev, ld_lt, r1, r2]) (by simp [ev, ld_lt, r1, r2]) (by simp [ev, ld_lt, r1, r2])).trans (hfin false 0 (by simp [hr])), fun h => ?_⟩
          cases h
      · have ev : v0 = (2 : Int32) := ev0
        rcases ld_isRf v1 with ⟨r1, r2, a, ha, ea⟩ | ⟨r1, r2⟩
        · rcases ld_isRf v2 with ⟨s1, s2, b, hb, eb⟩ | ⟨s1, s2⟩
          · skip
            refine ⟨1, true, by simp [lm_isDoing, ev, ld_lt, r1, r2, s1, s2], by decide, (ld_fpt (y2 := 1) (y3 := 1) (y4 := 1) (y5 := 1) y1 (by simp [ev, ld_lt, r1, r2, s1, s2]) (by simp [ev, ld_lt, r1, r2, s1, s2]) (by simp [ev, ld_lt, r1, r2, s1, s2]) (by simp [ev, ld_lt, r1, r2, s1, s2])).trans (hfin true 1 (by simp [hr])), fun h => ?_⟩
            exact ⟨2, a, b, 0, by omega, ev0, fun _ _ => ⟨ha, ea⟩, fun _ => ⟨hb, eb⟩, by omega, by omega⟩
          · skip
            refine ⟨0, false, by simp [lm_isDoing, ev, ld_lt, r1, r2, s1, s2], by decide, (ld_fpt (y2 := 1) (y3 := 0) (y4 := 0) (y5 := 0) y1 (by simp [ev, ld_lt, r1, r2, s1, s2]) (by simp [ev, ld_lt, r1, r2, s1, s2]) (by simp [ev, ld_lt, r1, r2, s1, s2]) (by simp [ev, ld_lt, r1, r2, s1, s2])).trans (hfin false 0 (by simp [hr])), fun h => ?_⟩
            cases h
        · skip
          refine ⟨0, false, by simp [lm_isDoing, ev, ld_lt, r1, r2], by decide, (ld_fpt (y2 := 0) (y3 := 0) (y4 := 0) (y5 := 0) y1 (by simp [ev, ld_lt, r1, r2]) (by simp [ev, ld_lt, r1, r2]) (by simp [ev, ld_lt, r1, r2]) (by simp [ev, ld_lt, r1, r2])).trans (hfin false 0 (by simp [hr])), fun h => ?_⟩
          cases h
      · have ev : v0 = (3 : Int32) := ev0
        rcases ld_isRf v1 with ⟨r1, r2, a, ha, ea⟩ | ⟨r1, r2⟩
        · skip
          refine ⟨1, true, by simp [lm_isDoing, ev, ld_lt, r1, r2], by decide, (ld_fpt (y2 := 1) (y3 := 1) (y4 := 1) (y5 := 1) y1 (by simp [ev, ld_lt, r1, r2]) (by simp [ev, ld_lt, r1, r2]) (by simp [ev, ld_lt, r1, r2]) (by simp [ev, ld_lt, r1, r2])).trans (hfin true 1 (by simp [hr])), fun h => ?_⟩
          exact ⟨3, a, 0, 0, by omega, ev0, fun _ _ => ⟨ha, ea⟩, by omega, by omega, by omega⟩
        · skip
          refine ⟨0, false, by simp [lm_isDoing, ev, ld_lt, r1, r2], by decide, (ld_fpt (y2 := 0) (y3 := 0) (y4 := 0) (y5 := 0) y1 (by simp [ev, ld_lt, r1, r2]) (by simp [ev, ld_lt, r1, r2]) (by simp [ev, ld_lt, r1, r2]) (by simp [ev, ld_lt, r1, r2])).trans (hfin false 0 (by simp [hr])), fun h => ?_⟩
          cases h
      · have ev : v0 = (4 : Int32) := ev0
        rcases ld_isRf v1 with ⟨r1, r2, a, ha, ea⟩ | ⟨r1, r2⟩
        · skip
          refine ⟨1, true, by simp [lm_isDoing, ev, ld_lt, r1, r2], by decide, (ld_fpt (y2 := 1) (y3 := 1) (y4 := 1) (y5 := 1) y1 (by simp [ev, ld_lt, r1, r2]) (by simp [ev, ld_lt, r1, r2]) (by simp [ev, ld_lt, r1, r2]) (by simp [ev, ld_lt, r1, r2])).trans (hfin true 1 (by simp [hr])), fun h => ?_⟩
          exact ⟨4, a, 0, 0, by omega, ev0, fun _ _ => ⟨ha, ea⟩, by omega, by omega, by omega⟩
        · skip
          refine ⟨0, false, by simp [lm_isDoing, ev, ld_lt, r1, r2], by decide, (ld_fpt (y2 := 0) (y3 := 0) (y4 := 0) (y5 := 0) y1 (by simp [ev, ld_lt, r1, r2]) (by simp [ev, ld_lt, r1, r2]) (by simp [ev, ld_lt, r1, r2]) (by simp [ev, ld_lt, r1, r2])).trans (hfin false 0 (by simp [hr])), fun h => ?_⟩
          cases h
      · have ev : v0 = (5 : Int32) := ev0
        rcases ld_plC v2 with ⟨p1, b, hb, eb⟩ | p1
        · skip
          refine ⟨1, true, by simp [lm_isDoing, ev, ld_lt, hp1, hp2, p1], by decide, (ld_fpt (y2 := 1) (y3 := 1) (y4 := 1) (y5 := 1) y1 (by simp [ev, ld_lt, hp1, hp2, p1]) (by simp [ev, ld_lt, hp1, hp2, p1]) (by simp [ev, ld_lt, hp1, hp2, p1]) (by simp [ev, ld_lt, hp1, hp2, p1])).trans (hfin true 1 (by simp [hr])), fun h => ?_⟩
          exact ⟨5, 0, b, 0, by omega, ev0, by omega, by omega, fun _ => ⟨hb, eb⟩, by omega⟩
        · skip
          refine ⟨0, false, by simp [lm_isDoing, ev, ld_lt, hp1, hp2, p1], by decide, (ld_fpt (y2 := 1) (y3 := 1) (y4 := 0) (y5 := 0) y1 (by simp [ev, ld_lt, hp1, hp2, p1]) (by simp [ev, ld_lt, hp1, hp2, p1]) (by simp [ev, ld_lt, hp1, hp2, p1]) (by simp [ev, ld_lt, hp1, hp2, p1])).trans (hfin false 0 (by simp [hr])), fun h => ?_⟩
          cases h
      · have ev : v0 = (6 : Int32) := ev0
        rcases ld_plC v2 with ⟨p1, b, hb, eb⟩ | p1
        · skip
          refine ⟨1, true, by simp [lm_isDoing, ev, ld_lt, hp1, hp2, p1], by decide, (ld_fpt (y2 := 1) (y3 := 1) (y4 := 1) (y5 := 1) y1 (by simp [ev, ld_lt, hp1, hp2, p1]) (by simp [ev, ld_lt, hp1, hp2, p1]) (by simp [ev, ld_lt, hp1, hp2, p1]) (by simp [ev, ld_lt, hp1, hp2, p1])).trans (hfin true 1 (by simp [hr])), fun h => ?_⟩
          exact ⟨6, 0, b, 0, by omega, ev0, by omega, by omega, fun _ => ⟨hb, eb⟩, by omega⟩
        · skip
          refine ⟨0, false, by simp [lm_isDoing, ev, ld_lt, hp1, hp2, p1], by decide, (ld_fpt (y2 := 1) (y3 := 1) (y4 := 0) (y5 := 0) y1 (by simp [ev, ld_lt, hp1, hp2, p1]) (by simp [ev, ld_lt, hp1, hp2, p1]) (by simp [ev, ld_lt, hp1, hp2, p1]) (by simp [ev, ld_lt, hp1, hp2, p1])).trans (hfin false 0 (by simp [hr])), fun h => ?_⟩
          cases h
    · have hno : v0 < 0 ∨ 6 < v0 := by
        rcases pk_ix v0 (n := 7) (by omega) with h | h | ⟨j, hj, h⟩
        · exact Or.inl h
        · right
          have h7 : (nI 7).toInt = 7 := by decide
          have h6 : (6 : Int32).toInt = 6 := by decide
          rw [Int32.le_iff_toInt_le] at h
          rw [Int32.lt_iff_toInt_lt]
          omega
        · exact absurd ⟨j, hj, h⟩ hd
      have y1 : (if v0 < 0 then some 0 else if 6 < v0 then some 0 else if 120 ≤ fo.1 then some 0 else some 1) = some (0 : Int32) := by
        by_cases h : v0 < 0
        · rw [if_pos h]
        · rw [if_neg h, if_pos (hno.elim (fun z => absurd z h) id)]
      have hne : ∀ d : Nat, d < 7 → ¬ v0 = nI d := fun d h7 e => hd ⟨d, h7, e⟩
      refine ⟨0, false, ?_, by decide, (ld_fpt (y2 := 0) (y3 := 0) (y4 := 0) (y5 := 0) y1 (if_pos rfl) (if_pos rfl) (if_pos rfl) (if_pos rfl)).trans (hfin false 0 (by simp)), fun h => by cases h⟩
      unfold lm_isDoing
      rw [if_neg (show ¬ v0 = (0 : Int32) from hne 0 (by omega)), if_neg (show ¬ v0 = (1 : Int32) from hne 1 (by omega)), if_neg (show ¬ v0 = (2 : Int32) from hne 2 (by omega)), if_neg (show ¬ v0 = (3 : Int32) from hne 3 (by omega)), if_neg (show ¬ v0 = (4 : Int32) from hne 4 (by omega)), if_neg (show ¬ v0 = (5 : Int32) from hne 5 (by omega)), if_neg (show ¬ v0 = (6 : Int32) from hne 6 (by omega))]
  · have y1 : (if v0 < 0 then some 0 else if 6 < v0 then some 0 else if 120 ≤ fo.1 then some 0 else some 1) = some (0 : Int32) := by
      by_cases h : v0 < 0
      · rw [if_pos h]
      · rw [if_neg h]
        by_cases h2 : 6 < v0
        · rw [if_pos h2]
        · rw [if_neg h2, if_pos (room.mpr hr)]
    obtain ⟨r, hrr⟩ := ld_doing v0 v1 v2 v3 hN
    refine ⟨r, decide (¬ r = 0), hrr.1, ?_, (ld_fpt (y2 := 0) (y3 := 0) (y4 := 0) (y5 := 0) y1 (if_pos rfl) (if_pos rfl) (if_pos rfl) (if_pos rfl)).trans (hfin _ 0 (by simp [hr])), fun h => hrr.2 (of_decide_eq_true h)⟩
    rw [decide_eq_false_iff_not, Decidable.not_not]
