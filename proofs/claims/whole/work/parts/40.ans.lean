/-! class and reference side by side -/
def ld_CI (M : ld_M) (dk : Int32 × Int32) (G : ld_gT) (rc : Nat → Int32) (q : ld_pT) (u : Nat → Int32) (qq : ld_pT) (mw : Nat → Int64) : Prop := ld_rel G M ∧ ld_pk q 0 ∧ ld_pk qq 0 ∧ (¬ dk.1 = 0 → ld_way M rc u) ∧ (¬ dk.2 = 0 → ¬ dk.1 = 0 ∧ ld_mok M mw)
def ld_FI (M : ld_M) (fo : Int32 × Int32 × Int32) (fb : ld_bT) (fe : ld_eT) : Prop := ld_rel (ld_Gf fb fo.1) M ∧ (¬ fo.2.1 = 0 → ld_fok M fe)
def ld_uN (f : Nat → Nat) (k v : Nat) : Nat → Nat := fun j => if j = k then v else f j
theorem ld_uNs {f : Nat → Nat} {k v : Nat} : ld_uN f k v k = v := if_pos rfl
theorem ld_uNn {f : Nat → Nat} {k j v : Nat} (h : j ≠ k) : ld_uN f k v j = f j := if_neg h
/-- one more point -/
def ld_Madd (M : ld_M) (d a b c : Nat) : ld_M := (M.1 + 1, ld_uN (ld_d M) M.1 d, ld_uN (ld_a M) M.1 a, ld_uN (ld_b M) M.1 b, ld_uN (ld_c M) M.1 c, ld_uN (ld_x M) M.1 (M.1 + 1), ld_uN (ld_y M) M.1 120)
theorem ld_rel_add {G : ld_gT} {M : ld_M} (hr : ld_rel G M) (hk : M.1 < 120) {d a b c : Nat} {va vb vc : Int32} (hd : d < 7) (ha : 1 ≤ d → d ≤ 4 → a < 16 ∧ va = nI a) (hb2 : d = 2 → b < 16 ∧ vb = nI b) (hb5 : d = 1 ∨ 5 ≤ d → (1 ≤ b ∧ b < 10000) ∧ vb = nI b) (hc : d = 1 → c < 2 ∧ vc = nI c) :
    ld_rel (upd G.1 M.1 (nI d), upd G.2.1 M.1 va, upd G.2.2.1 M.1 vb, upd G.2.2.2.1 M.1 vc, upd G.2.2.2.2.1 M.1 (nI (M.1 + 1)), upd G.2.2.2.2.2.1 M.1 (-1), nI (M.1 + 1)) (ld_Madd M d a b c) := by
  refine ⟨show M.1 + 1 ≤ 120 by omega, rfl, fun p hp => ?_⟩
  have hp : p < M.1 + 1 := hp
  show (ld_uN (ld_d M) M.1 d p < 7 ∧ upd G.1 M.1 (nI d) p = nI (ld_uN (ld_d M) M.1 d p)) ∧ (1 ≤ ld_uN (ld_d M) M.1 d p → ld_uN (ld_d M) M.1 d p ≤ 4 → ld_uN (ld_a M) M.1 a p < 16 ∧ upd G.2.1 M.1 va p = nI (ld_uN (ld_a M) M.1 a p)) ∧ (ld_uN (ld_d M) M.1 d p = 2 → ld_uN (ld_b M) M.1 b p < 16 ∧ upd G.2.2.1 M.1 vb p = nI (ld_uN (ld_b M) M.1 b p)) ∧ (ld_uN (ld_d M) M.1 d p = 1 ∨ 5 ≤ ld_uN (ld_d M) M.1 d p → (1 ≤ ld_uN (ld_b M) M.1 b p ∧ ld_uN (ld_b M) M.1 b p < 10000) ∧ upd G.2.2.1 M.1 vb p = nI (ld_uN (ld_b M) M.1 b p)) ∧ (ld_uN (ld_d M) M.1 d p = 1 → ld_uN (ld_c M) M.1 c p < 2 ∧ upd G.2.2.2.1 M.1 vc p = nI (ld_uN (ld_c M) M.1 c p)) ∧ ld_nxI (upd G.2.2.2.2.1 M.1 (nI (M.1 + 1)) p) (ld_uN (ld_x M) M.1 (M.1 + 1) p) ∧ ld_nxI (upd G.2.2.2.2.2.1 M.1 (-1) p) (ld_uN (ld_y M) M.1 120 p)
  by_cases e : p = M.1
  · subst e
    simp only [ld_uNs, pk_us]
    refine ⟨⟨hd, trivial⟩, ha, hb2, hb5, hc, ?_, Or.inl ⟨Or.inl rfl, rfl⟩⟩
    by_cases e2 : M.1 + 1 < 120
    · exact Or.inr ⟨e2, rfl⟩
    · have e3 : M.1 + 1 = 120 := by omega
      rw [e3]
      exact Or.inl ⟨Or.inr rfl, rfl⟩
  · simp only [ld_uNn e, pk_un e]
    exact hr.2.2 p (by omega)
def ld_Mnx (M : ld_M) (p x y : Nat) : ld_M := (M.1, ld_d M, ld_a M, ld_b M, ld_c M, ld_uN (ld_x M) p x, ld_uN (ld_y M) p y)
theorem ld_rel_nx {G : ld_gT} {M : ld_M} (hr : ld_rel G M) {p x y : Nat} {vx vy : Int32} (hx : ld_nxI vx x) (hy : ld_nxI vy y) : ld_rel (G.1, G.2.1, G.2.2.1, G.2.2.2.1, upd G.2.2.2.2.1 p vx, upd G.2.2.2.2.2.1 p vy, G.2.2.2.2.2.2) (ld_Mnx M p x y) := by
  refine ⟨hr.1, hr.2.1, fun j hj => ?_⟩
  obtain ⟨h1, h2, h3, h4, h5, h6, h7⟩ := hr.2.2 j hj
  refine ⟨h1, h2, h3, h4, h5, ?_, ?_⟩
  · show ld_nxI (upd G.2.2.2.2.1 p vx j) (ld_uN (ld_x M) p x j)
    by_cases e : j = p
    · rw [e, pk_us, ld_uNs]; exact hx
    · rw [pk_un e, ld_uNn e]; exact h6
  · show ld_nxI (upd G.2.2.2.2.2.1 p vy j) (ld_uN (ld_y M) p y j)
    by_cases e : j = p
    · rw [e, pk_us, ld_uNs]; exact hy
    · rw [pk_un e, ld_uNn e]; exact h7
def ld_M0 : ld_M := (0, fun _ => 0, fun _ => 0, fun _ => 0, fun _ => 0, fun _ => 0, fun _ => 0)
theorem ld_rel_0 (G : ld_gT) (h : G.2.2.2.2.2.2 = 0) : ld_rel G ld_M0 := ⟨by decide, h, fun p hp => absurd hp (Nat.not_lt_zero p)⟩
/-- CLEAR -/
theorem ld_aclear {M : ld_M} {dk : Int32 × Int32} {G : ld_gT} {rc : Nat → Int32} {q : ld_pT} {u : Nat → Int32} {qq : ld_pT} {mw : Nat → Int64} {fo : Int32 × Int32 × Int32} {fb : ld_bT} {fe : ld_eT} (hC : ld_CI M dk G rc q u qq mw) (hF : ld_FI M fo fb fe) :
    (lf_clear dk G).1 = (lf_fclear fo).1 ∧ ∃ M', ld_CI M' (lf_clear dk G).2.1 (lf_clear dk G).2.2 rc q u qq mw ∧ ld_FI M' (lf_fclear fo).2 fb fe := by
  refine ⟨hC.1.2.1.trans hF.1.2.1.symm, ld_M0, ⟨ld_rel_0 _ rfl, hC.2.1, hC.2.2.1, fun h => absurd rfl h, fun h => absurd rfl h⟩, ld_rel_0 _ rfl, fun h => absurd rfl h⟩
/-- NEXT -/
theorem ld_isNx {v : Int32} : (lf_isNext v = 1 ∧ (∃ x, ld_nxI v x) ∧ ¬ v < ld_n1 ∧ ¬ 120 ≤ v) ∨ (lf_isNext v = 0 ∧ (v < ld_n1 ∨ 120 ≤ v)) := by
  have hn : ld_n1.toInt = -1 := by decide
  have h120 : (120 : Int32).toInt = 120 := by decide
  have h0 : (0 : Int32).toInt = 0 := by decide
  simp only [lf_isNext, ld_lt]
  by_cases e : v = -1
  · left
    rw [if_pos e]
    refine ⟨rfl, ⟨120, Or.inl ⟨Or.inl e, rfl⟩⟩, ?_, ?_⟩
    · rw [e]; decide
    · rw [e]; decide
  · rw [if_neg e]
    rcases pk_ix v (n := 120) (by omega) with h | h | ⟨j, hj, h⟩
    · right
      have hne : ∀ j, j < 120 → v ≠ nI j := fun j hj z => by rw [z] at h; exact nI_pos (by omega) h
      rw [ld_ix0 hne, if_pos rfl]
      refine ⟨rfl, Or.inl ?_⟩
      rw [Int32.lt_iff_toInt_lt] at h ⊢
      have h1 : v.toInt ≠ -1 := fun z => e (Int32.toInt_inj.mp (by rw [z]; decide))
      omega
    · right
      have hne : ∀ j, j < 120 → v ≠ nI j := fun j hj z => by rw [z] at h; exact nI_ge hj (by omega) h
      rw [ld_ix0 hne, if_pos rfl]
      exact ⟨rfl, Or.inr h⟩
    · left
      subst h
      rw [ld_ix1 hj, if_neg (by decide)]
      refine ⟨rfl, ⟨j, Or.inr ⟨hj, rfl⟩⟩, ?_, nI_ge (b := 120) hj (by omega)⟩
      rw [Int32.lt_iff_toInt_lt, nI_toInt (by omega)]
      omega
theorem ld_anext {M : ld_M} {dk : Int32 × Int32} {G : ld_gT} {rc : Nat → Int32} {q : ld_pT} {u : Nat → Int32} {qq : ld_pT} {mw : Nat → Int64} {fo : Int32 × Int32 × Int32} {fb : ld_bT} {fe : ld_eT} (hC : ld_CI M dk G rc q u qq mw) (hF : ld_FI M fo fb fe) (v x y : Int32) (N : Nat) :
    ∃ r dk' G' fo' fb', lf_next dk G v x y = (r, dk', G') ∧ lm_fnext N fo fb v x y = some (r, fo', fb') ∧ ∃ M', ld_CI M' dk' G' rc q u qq mw ∧ ld_FI M' fo' fb' fe := by
  have hk := hC.1.1
  have hnF : fo.1 = nI M.1 := hF.1.2.1
  have href : ∀ (h : lf_next dk G v x y = (0, dk, G)) (h2 : lm_fnext N fo fb v x y = some (0, fo, fb)), ∃ r dk' G' fo' fb', lf_next dk G v x y = (r, dk', G') ∧ lm_fnext N fo fb v x y = some (r, fo', fb') ∧ ∃ M', ld_CI M' dk' G' rc q u qq mw ∧ ld_FI M' fo' fb' fe :=
    fun h h2 => ⟨0, dk, G, fo, fb, h, h2, M, hC, hF⟩
  rcases pk_ix v (n := M.1) (by omega) with h | h | ⟨p, hp, rfl⟩
  · refine href ?_ ?_
    · simp only [lf_next, ld_lt]
      rw [ld_pt0 hC.1 (fun j hj z => by rw [z] at h; exact nI_pos (by omega) h), if_pos rfl]
    · unfold lm_fnext
      rw [if_pos h]
  · have hn0 : ∀ j, j < M.1 → v ≠ nI j := fun j hj z => by rw [z] at h; exact nI_ge hj (by omega) h
    refine href ?_ ?_
    · simp only [lf_next, ld_lt]
      rw [ld_pt0 hC.1 hn0, if_pos rfl]
    · unfold lm_fnext
      by_cases h0 : v < 0
      · rw [if_pos h0]
      · rw [if_neg h0, hnF, if_pos h]
  · have hc1 : lf_isPoint G (nI p) = 1 := ld_pt1 hC.1 hp
    have f1 : ¬ nI p < 0 := nI_pos (by omega)
    have f2 : ¬ fo.1 ≤ nI p := by rw [hnF]; exact nI_ge hp (by omega)
    rcases ld_isNx (v := x) with ⟨x1, ⟨nx, hx⟩, x2, x3⟩ | ⟨x1, x2⟩
    · rcases ld_isNx (v := y) with ⟨y1, ⟨ny, hy⟩, y2, y3⟩ | ⟨y1, y2⟩
      · refine ⟨1, (0, 0), _, (fo.1, 0, fo.2.2), (fb.1, fb.2.1, fb.2.2.1, fb.2.2.2.1, upd fb.2.2.2.2.1 p x, upd fb.2.2.2.2.2 p y), ?_, ?_, ld_Mnx M p nx ny, ⟨ld_rel_nx (p := p) hC.1 hx hy, hC.2.1, hC.2.2.1, fun h => absurd rfl h, fun h => absurd rfl h⟩, ?_⟩
        · simp only [lf_next, ld_lt, lf_tellNext, lf_forget]
          rw [hc1, if_neg (by decide), x1, if_neg (by decide), y1, if_neg (by decide), nI_clamp (by omega)]
          rfl
        · unfold lm_fnext
          rw [if_neg f1, if_neg f2, if_neg x2, if_neg x3, if_neg y2, if_pos (Int32.not_le.mp y3), if_pos (ld_in_nI (by omega) (by omega)), nI_clamp (by omega)]
        · exact ⟨ld_rel_nx (p := p) hF.1 hx hy, fun h => absurd rfl h⟩
      · refine href ?_ ?_
        · simp only [lf_next, ld_lt]
          rw [hc1, if_neg (by decide), x1, if_neg (by decide), y1, if_pos rfl]
        · unfold lm_fnext
          rw [if_neg f1, if_neg f2, if_neg x2, if_neg x3]
          by_cases h1 : y < ld_n1
          · rw [if_pos h1]
          · rw [if_neg h1, if_neg (fun z => Int32.not_le.mpr z (y2.elim (fun w => absurd w h1) id))]
    · refine href ?_ ?_
      · simp only [lf_next, ld_lt]
        rw [hc1, if_neg (by decide), x1, if_pos rfl]
      · unfold lm_fnext
        rw [if_neg f1, if_neg f2]
        by_cases h1 : x < ld_n1
        · rw [if_pos h1]
        · rw [if_neg h1, if_pos (x2.elim (fun w => absurd w h1) id)]
