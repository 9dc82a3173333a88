set_option maxHeartbeats 4000000 in
set_option maxRecDepth 100000 in
theorem lc_fillI (l : Launch) (D : va_G) (cI cZ cJ : ClassId) (b0 n : Nat) (hn : n ≤ 100000) (f : Nat → Int32) (v : Int32) (sz : Nat) : Met l y_fillI (Cond.code y_fillI prog_11_method_103_code 4 none :: bgT) ({ frames := 0, cells := 0, slots := 0, locals := 0 }) (ld_PM D cI cZ cJ [(b0, .inl (cI, n, .inl (f)))] sz [.ref b0, .int v]) (ld_QV D [(b0, .inl (cI, n, .inl (ld_fl n v f)))] (va_A [(b0, .inl (cI, n, .inl (f)))] sz)) 0 0 (va_A [(b0, .inl (cI, n, .inl (f)))] sz) := by
  refine Met.ofW (cc := prog_11_method_103_code) (maxL := 4) (ret := none) (by decide) rfl ?_
  intro p e s m args below meth c s₁ B hml hv
  obtain ⟨rfl, hsz, hP, hK, hD0, hN⟩ := hv
  have hx := B.exec
  have hb := B.bytes
  have hr := B.returns
  have hlocks := B.notSynchronized
  subst hsz
  have hD := hD0.self (sz := s.heap.size)
  generalize hAe : va_A [(b0, .inl (cI, n, .inl (f)))] s.heap.size = A at hD ⊢
  have hA : ∀ q : Nat, s.heap.size ≤ q → A q := fun q h => by rw [← hAe]; exact Or.inr h
  have hS : va_S A s.heap s.heap [] := va_S.rf
  have hl := lv_entry ([.ref b0, .int v]) (n := 4) (Nat.le_of_ble_eq_true rfl)
  rw [lg_entry_eq]
  generalize (lg_sl ([.ref b0, .int v]) ++ List.replicate (4 - (lg_sl ([.ref b0, .int v])).length) Slot.unset).toArray = ls at hl ⊢
  have hl : lv_has ls 4 [(0, .ref b0), (1, .int v)] := hl
  refine lv_iconst (v := 0) hx hb d_fillI_0 (by decide) ?_
  refine lv_istore_n (lv' := [(2, .int 0), (0, .ref b0), (1, .int v)]) hx hb d_fillI_1 rfl hl (by decide) rfl (fun ls hl => ?_)
  refine lv_aload_n hx hb d_fillI_2 rfl (lv_at hl 1 rfl) ?_
  refine va_alen hx hb hK hP 0 0 rfl rfl (v := nI n) rfl d_fillI_3 ?_
  refine lv_istore_n (lv' := [(3, .int (nI n)), (2, .int 0), (0, .ref b0), (1, .int v)]) hx hb d_fillI_4 rfl hl (by decide) rfl (fun ls hl => ?_)
  have key : ∀ (k i : Nat) (H : Heap) (locs : List Loc) (ls : Array Slot), i + k = n → va_P D vwCl [(b0, .inl (cI, n, .inl (ld_fl i v f)))] H → va_D A [(b0, .inl (cI, n, .inl (ld_fl i v f)))] → va_S A s.heap H locs → lv_has ls 4 [(0, .ref b0), (1, .int v), (2, .int (nI i)), (3, .int (nI n))] → W p l e (headSpec (Cond.code y_fillI prog_11_method_103_code 4 none :: bgT) ({ frames := 0, cells := 0, slots := 0, locals := 0 })).room s m ([.ref b0, .int v] : List Value).toArray below meth c H locs 0 0 (MQ below (ld_QV D [(b0, .inl (cI, n, .inl (ld_fl n v f)))] A) ([.ref b0, .int v] : List Value).toArray s 0 0 A) (F0 m 5 ls []) := by
    intro k
    induction k with
    | zero =>
      intro i H locs ls hik hP hD hS hl
      obtain rfl : i = n := by omega
      refine lv_iload_n hx hb d_fillI_5 rfl (lv_at hl 2 rfl) ?_
      refine lv_iload_n hx hb d_fillI_6 rfl (lv_at hl 3 rfl) ?_
      refine lv_icmp_ge (tgt := 20) hx hb d_fillI_7 (by decide) (fun c => ?_) (fun c => absurd (nI_le (Nat.le_refl _) (by omega)) c)
      exact W.vret hx hb hr (fun t ht hW => ⟨⟨(), rfl, trivial, by rw [ht]; exact hP, hD⟩, hS.F ht⟩) hS.2.2 d_fillI_20
    | succ k ih =>
      intro i H locs ls hik hP hD hS hl
      refine lv_iload_n hx hb d_fillI_5 rfl (lv_at hl 2 rfl) ?_
      refine lv_iload_n hx hb d_fillI_6 rfl (lv_at hl 3 rfl) ?_
      refine lv_icmp_ge (tgt := 20) hx hb d_fillI_7 (by decide) (fun c => absurd c (nI_ge (by omega) (by omega))) (fun c => ?_)
      refine lv_aload_n hx hb d_fillI_10 rfl (lv_at hl 0 rfl) ?_
      refine lv_iload_n hx hb d_fillI_11 rfl (lv_at hl 2 rfl) ?_
      refine lv_iload_n hx hb d_fillI_12 rfl (lv_at hl 1 rfl) ?_
      refine va_iast hx hb hK hP hD hS 0 0 rfl rfl (i := nI i) (vp_in_nI (by omega) (by omega)) d_fillI_13 (fun H locs hP hD hS => ?_)
      have e : upd (ld_fl i v f) (nI i).toNatClampNeg v = ld_fl (i + 1) v f := by
        rw [nI_clamp (by omega)]
        funext j
        show (if j = i then v else if j < i then v else f j) = if j < i + 1 then v else f j
        by_cases h1 : j = i
        · rw [if_pos h1, if_pos (by omega)]
        · rw [if_neg h1]
          by_cases h2 : j < i
          · rw [if_pos h2, if_pos (by omega)]
          · rw [if_neg h2, if_neg (by omega)]
      have hP : va_P D vwCl [(b0, .inl (cI, n, .inl (ld_fl (i + 1) v f)))] H := by rw [← e]; exact hP
      have hD : va_D A [(b0, .inl (cI, n, .inl (ld_fl (i + 1) v f)))] := by rw [← e]; exact hD
      refine lv_iinc (v := nI (i + 1)) (lv' := [(2, .int (nI (i + 1))), (0, .ref b0), (1, .int v), (3, .int (nI n))]) hx hb d_fillI_14 hl (k := 2) rfl (nI_1 i) (by decide) rfl (fun ls hl => ?_)
      refine lv_goto (tgt := 5) hx hb d_fillI_17 (by decide) ?_
      exact ih (i + 1) _ _ _ (by omega) hP hD hS (lv_sub hl [1, 2, 0, 3] rfl)
  have e0 : ld_fl 0 v f = f := by
    funext j
    exact if_neg (Nat.not_lt_zero j)
  refine key n 0 _ _ _ (by omega) (by rw [e0]; exact hP) (by rw [e0]; exact hD) hS (lv_sub hl [2, 3, 1, 0] rfl)
set_option maxHeartbeats 4000000 in
set_option maxRecDepth 100000 in
theorem lc_fillJ (l : Launch) (D : va_G) (cI cZ cJ : ClassId) (b0 n : Nat) (hn : n ≤ 100000) (f : Nat → Int64) (v : Int64) (sz : Nat) : Met l y_fillJ (Cond.code y_fillJ prog_11_method_101_code 5 none :: bgT) ({ frames := 0, cells := 0, slots := 0, locals := 0 }) (ld_PM D cI cZ cJ [(b0, .inl (cJ, n, .inr (.inl (f))))] sz [.ref b0, .long v]) (ld_QV D [(b0, .inl (cJ, n, .inr (.inl (ld_flL n v f))))] (va_A [(b0, .inl (cJ, n, .inr (.inl (f))))] sz)) 0 0 (va_A [(b0, .inl (cJ, n, .inr (.inl (f))))] sz) := by
  refine Met.ofW (cc := prog_11_method_101_code) (maxL := 5) (ret := none) (by decide) rfl ?_
  intro p e s m args below meth c s₁ B hml hv
  obtain ⟨rfl, hsz, hP, hK, hD0, hN⟩ := hv
  have hx := B.exec
  have hb := B.bytes
  have hr := B.returns
  have hlocks := B.notSynchronized
  subst hsz
  have hD := hD0.self (sz := s.heap.size)
  generalize hAe : va_A [(b0, .inl (cJ, n, .inr (.inl (f))))] s.heap.size = A at hD ⊢
  have hA : ∀ q : Nat, s.heap.size ≤ q → A q := fun q h => by rw [← hAe]; exact Or.inr h
  have hS : va_S A s.heap s.heap [] := va_S.rf
  have hl := lv_entry ([.ref b0, .long v]) (n := 5) (Nat.le_of_ble_eq_true rfl)
  rw [lg_entry_eq]
  generalize (lg_sl ([.ref b0, .long v]) ++ List.replicate (5 - (lg_sl ([.ref b0, .long v])).length) Slot.unset).toArray = ls at hl ⊢
  have hl : lv_has ls 5 [(0, .ref b0), (1, .long v)] := hl
  refine lv_iconst (v := 0) hx hb d_fillJ_0 (by decide) ?_
  refine lv_istore_n (lv' := [(3, .int 0), (0, .ref b0), (1, .long v)]) hx hb d_fillJ_1 rfl hl (by decide) rfl (fun ls hl => ?_)
  refine lv_aload_n hx hb d_fillJ_2 rfl (lv_at hl 1 rfl) ?_
  refine va_alen hx hb hK hP 0 2 rfl rfl (v := nI n) rfl d_fillJ_3 ?_
  refine lv_istore (lv' := [(4, .int (nI n)), (3, .int 0), (0, .ref b0), (1, .long v)]) hx hb d_fillJ_4 hl (by decide) rfl (fun ls hl => ?_)
  have key : ∀ (k i : Nat) (H : Heap) (locs : List Loc) (ls : Array Slot), i + k = n → va_P D vwCl [(b0, .inl (cJ, n, .inr (.inl (ld_flL i v f))))] H → va_D A [(b0, .inl (cJ, n, .inr (.inl (ld_flL i v f))))] → va_S A s.heap H locs → lv_has ls 5 [(0, .ref b0), (1, .long v), (3, .int (nI i)), (4, .int (nI n))] → W p l e (headSpec (Cond.code y_fillJ prog_11_method_101_code 5 none :: bgT) ({ frames := 0, cells := 0, slots := 0, locals := 0 })).room s m ([.ref b0, .long v] : List Value).toArray below meth c H locs 0 0 (MQ below (ld_QV D [(b0, .inl (cJ, n, .inr (.inl (ld_flL n v f))))] A) ([.ref b0, .long v] : List Value).toArray s 0 0 A) (F0 m 6 ls []) := by
    intro k
    induction k with
    | zero =>
      intro i H locs ls hik hP hD hS hl
      obtain rfl : i = n := by omega
      refine lv_iload_n hx hb d_fillJ_6 rfl (lv_at hl 2 rfl) ?_
      refine lv_iload hx hb d_fillJ_7 (lv_at hl 3 rfl) ?_
      refine lv_icmp_ge (tgt := 22) hx hb d_fillJ_9 (by decide) (fun c => ?_) (fun c => absurd (nI_le (Nat.le_refl _) (by omega)) c)
      exact W.vret hx hb hr (fun t ht hW => ⟨⟨(), rfl, trivial, by rw [ht]; exact hP, hD⟩, hS.F ht⟩) hS.2.2 d_fillJ_22
    | succ k ih =>
      intro i H locs ls hik hP hD hS hl
      refine lv_iload_n hx hb d_fillJ_6 rfl (lv_at hl 2 rfl) ?_
      refine lv_iload hx hb d_fillJ_7 (lv_at hl 3 rfl) ?_
      refine lv_icmp_ge (tgt := 22) hx hb d_fillJ_9 (by decide) (fun c => absurd c (nI_ge (by omega) (by omega))) (fun c => ?_)
      refine lv_aload_n hx hb d_fillJ_12 rfl (lv_at hl 0 rfl) ?_
      refine lv_iload_n hx hb d_fillJ_13 rfl (lv_at hl 2 rfl) ?_
      refine lv_lload_n hx hb d_fillJ_14 rfl (lv_at hl 1 rfl) ?_
      refine va_last hx hb hK hP hD hS 0 2 rfl rfl (i := nI i) (vp_in_nI (by omega) (by omega)) d_fillJ_15 (fun H locs hP hD hS => ?_)
      have e : vp_updL (ld_flL i v f) (nI i).toNatClampNeg v = ld_flL (i + 1) v f := by
        rw [nI_clamp (by omega)]
        funext j
        show (if j = i then v else if j < i then v else f j) = if j < i + 1 then v else f j
        by_cases h1 : j = i
        · rw [if_pos h1, if_pos (by omega)]
        · rw [if_neg h1]
          by_cases h2 : j < i
          · rw [if_pos h2, if_pos (by omega)]
          · rw [if_neg h2, if_neg (by omega)]
      have hP : va_P D vwCl [(b0, .inl (cJ, n, .inr (.inl (ld_flL (i + 1) v f))))] H := by rw [← e]; exact hP
      have hD : va_D A [(b0, .inl (cJ, n, .inr (.inl (ld_flL (i + 1) v f))))] := by rw [← e]; exact hD
      refine lv_iinc (v := nI (i + 1)) (lv' := [(3, .int (nI (i + 1))), (0, .ref b0), (1, .long v), (4, .int (nI n))]) hx hb d_fillJ_16 hl (k := 2) rfl (nI_1 i) (by decide) rfl (fun ls hl => ?_)
      refine lv_goto (tgt := 6) hx hb d_fillJ_19 (by decide) ?_
      exact ih (i + 1) _ _ _ (by omega) hP hD hS (lv_sub hl [1, 2, 0, 3] rfl)
  have e0 : ld_flL 0 v f = f := by
    funext j
    exact if_neg (Nat.not_lt_zero j)
  refine key n 0 _ _ _ (by omega) (by rw [e0]; exact hP) (by rw [e0]; exact hD) hS (lv_sub hl [2, 3, 1, 0] rfl)
