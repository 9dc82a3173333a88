theorem ld_w2 {x r : Int32} (h : lf_isIndex x = r) (c : ¬ r = 0) : vp_in (2 * x) 240 := by
  obtain ⟨j, hj, rfl⟩ := vp_in_of (ld_ix h c) (by omega)
  have e : (2 : Int32) * nI j = nI (2 * j) := pk_mul 2 j
  rw [e]
  exact vp_in_nI (by omega) (by omega)
theorem ld_w3 {x r : Int32} (h : lf_isIndex x = r) (c : ¬ r = 0) : vp_in (2 * x + 1) 240 := by
  obtain ⟨j, hj, rfl⟩ := vp_in_of (ld_ix h c) (by omega)
  have e : (2 : Int32) * nI j + 1 = nI (2 * j + 1) := by rw [show (2 : Int32) * nI j = nI (2 * j) from pk_mul 2 j, nI_1]
  rw [e]
  exact vp_in_nI (by omega) (by omega)
theorem ld_w1e {j i : Nat} (hi : i < 120) : (2 : Int32) * nI j + nI i / 64 = nI (2 * j + i / 64) := by
  rw [show (2 : Int32) * nI j = nI (2 * j) from pk_mul 2 j, show nI i / (64 : Int32) = nI (i / 64) from pk_div (d := 64) (by omega) (by omega) (by omega), nI_add]
theorem ld_w1 {x y r r' : Int32} (h : lf_isIndex x = r) (c : ¬ r = 0) (h' : lf_isIndex y = r') (c' : ¬ r' = 0) : vp_in (2 * x + y / 64) 240 := by
  obtain ⟨j, hj, rfl⟩ := vp_in_of (ld_ix h c) (by omega)
  obtain ⟨i, hi, rfl⟩ := vp_in_of (ld_ix h' c') (by omega)
  rw [ld_w1e hi]
  exact vp_in_nI (by omega) (by omega)
def lf_mempty (mw : Nat → Int64) : (Nat → Int64) := (ld_flL 240 0 mw)
set_option maxHeartbeats 4000000 in
set_option maxRecDepth 100000 in
theorem lc_mempty (l : Launch) (D : va_G) (cI cZ cJ : ClassId) (a : Nat → Nat) (mw : Nat → Int64) (sz : Nat) (R : (Nat → Int64)) (h : lf_mempty mw = R) : Met l y_mempty (Cond.code y_mempty prog_4_method_2_code 1 none :: bgT) ({ frames := 1, cells := 0, slots := 0, locals := 24 }) (ld_PM D cI cZ cJ (ld_mW a cJ mw) sz [.ref (a 21)]) (ld_QV D (ld_mW a cJ R) (va_A (ld_mW a cJ mw) sz)) 0 0 ((va_A (ld_mW a cJ mw) sz)) := by
  refine Met.ofW (cc := prog_4_method_2_code) (maxL := 1) (ret := none) (by decide) rfl ?_
  intro p e s m args below meth c s₁ B hml hv
  obtain ⟨rfl, hsz, hP, hK, hD0, hN⟩ := hv
  have hx := B.exec
  have hb := B.bytes
  have hr := B.returns
  have hg : ∀ w ∈ bgT, w.before _ s = true := fun w h => atoms_spec (ws := (Cond.code y_mempty prog_4_method_2_code 1 none :: bgT)) B.pre w (List.mem_cons_of_mem _ h)
  have hown : s.vm.findClass "LoanDesk$Meetings" = some m.cls := findClass_of_methodNamed B.named
  have hlocks := B.notSynchronized
  subst hsz
  have hD := hD0.self (sz := s.heap.size)
  generalize hAe : va_A (ld_mW a cJ mw) s.heap.size = A at hD ⊢
  have hA : ∀ q : Nat, s.heap.size ≤ q → A q := fun q h => by rw [← hAe]; exact Or.inr h
  have hS : va_S A s.heap s.heap [] := va_S.rf
  have hl := lv_entry ([.ref (a 21)]) (n := 1) (Nat.le_of_ble_eq_true rfl)
  rw [lg_entry_eq]
  generalize (lg_sl ([.ref (a 21)]) ++ List.replicate (1 - (lg_sl ([.ref (a 21)])).length) Slot.unset).toArray = ls at hl ⊢
  have hl : lv_has ls 1 [(0, .ref (a 21))] := hl
  refine lv_aload_n hx hb d_mempty_0 rfl (lv_at hl 0 rfl) ?_
  refine va_get (D := D) (ci := 5) (v := .ref (a 22)) (C := "LoanDesk$Meetings") (T := T_Meetings) (N := 1) hx hb hg u_Meetings hown hK hP 0 rfl rfl 0 (by decide) (hg _ k_106) (fun _ h9 => h9) rfl d_mempty_1 ?_
  refine lv_lconst (v := 0) hx hb d_mempty_4 (by decide) ?_
  refine ld_mv (wr := ([0] : List Nat).filterMap (fun i => (ld_mW a cJ mw)[i]?)) (ws2 := ld_mW a cJ (ld_flL 240 0 mw)) (va_runS (As := [.ref (a 22), .long 0]) (rest := []) ⟨hx, hb, hml, hown, hg⟩ (lc_fillJ l D cI cZ cJ (a 22) 240 (by decide) mw 0 _) ⟨callB_of 2 hg (ld_gd k_295) rfl rfl rfl (hg _ k_31) (hg _ k_293) hd_fillJ ⟨Nat.le_of_ble_eq_true rfl, Nat.le_of_ble_eq_true rfl⟩, hg _ k_294⟩ (ld_preM hP hK hN hD [1] (by decide) rfl) rfl rfl hl.1 rfl (lv_room (Nat.le_of_ble_eq_true rfl)) d_mempty_5 ⟨Nat.zero_le _, Nat.zero_le _⟩) hP hD hS hA [1] [0] [0, 1] rfl rfl (by decide) (by decide) (by decide) rfl (fun H locs hP hD hS => ?_)
  subst h
  exact W.vret hx hb hr (fun t ht hW => ⟨⟨(), rfl, trivial, by rw [ht]; exact hP, hD⟩, hS.F ht⟩) hS.2.2 d_mempty_8
def lf_madd (mw : Nat → Int64) (p0 : Int32) (p1 : Int32) : (Nat → Int64) := ld_lt (lf_isIndex p0) (fun r_1 => if r_1 = 0 then mw else ld_lt (lf_isIndex p1) (fun r_3 => if r_3 = 0 then mw else (vp_updL mw (((2 * p0) + (p1 / 64)).toNatClampNeg) ((mw ((2 * p0) + (p1 / 64)).toNatClampNeg) ||| ((1 : Int64) <<< ((p1 - p1 / 64 * 64).toInt64 &&& 63))))))
set_option maxHeartbeats 4000000 in
set_option maxRecDepth 100000 in
theorem lc_madd (l : Launch) (D : va_G) (cI cZ cJ : ClassId) (a : Nat → Nat) (mw : Nat → Int64) (p0 : Int32) (p1 : Int32) (sz : Nat) (R : (Nat → Int64)) (h : lf_madd mw p0 p1 = R) : Met l y_madd (Cond.code y_madd prog_4_method_3_code 3 none :: bgT) ({ frames := 1, cells := 0, slots := 0, locals := 20 }) (ld_PM D cI cZ cJ (ld_mW a cJ mw) sz [.ref (a 21), .int p0, .int p1]) (ld_QV D (ld_mW a cJ R) (va_A (ld_mW a cJ mw) sz)) 0 0 ((va_A (ld_mW a cJ mw) sz)) := by
  refine Met.ofW (cc := prog_4_method_3_code) (maxL := 3) (ret := none) (by decide) rfl ?_
  intro p e s m args below meth c s₁ B hml hv
  obtain ⟨rfl, hsz, hP, hK, hD0, hN⟩ := hv
  have hx := B.exec
  have hb := B.bytes
  have hr := B.returns
  have hg : ∀ w ∈ bgT, w.before _ s = true := fun w h => atoms_spec (ws := (Cond.code y_madd prog_4_method_3_code 3 none :: bgT)) B.pre w (List.mem_cons_of_mem _ h)
  have hown : s.vm.findClass "LoanDesk$Meetings" = some m.cls := findClass_of_methodNamed B.named
  have hlocks := B.notSynchronized
  subst hsz
  have hD := hD0.self (sz := s.heap.size)
  generalize hAe : va_A (ld_mW a cJ mw) s.heap.size = A at hD ⊢
  have hA : ∀ q : Nat, s.heap.size ≤ q → A q := fun q h => by rw [← hAe]; exact Or.inr h
  have hS : va_S A s.heap s.heap [] := va_S.rf
  have hl := lv_entry ([.ref (a 21), .int p0, .int p1]) (n := 3) (Nat.le_of_ble_eq_true rfl)
  rw [lg_entry_eq]
  generalize (lg_sl ([.ref (a 21), .int p0, .int p1]) ++ List.replicate (3 - (lg_sl ([.ref (a 21), .int p0, .int p1])).length) Slot.unset).toArray = ls at hl ⊢
  have hl : lv_has ls 3 [(0, .ref (a 21)), (1, .int p0), (2, .int p1)] := hl
  refine lv_iload_n hx hb d_madd_0 rfl (lv_at hl 1 rfl) ?_
  obtain ⟨r_1, e_1, h⟩ := ld_nm h
  refine ld_rd ((va_runSN (As := [.int p0]) (rest := []) ⟨hx, hb, hml, hown, hg⟩ (lc_isIndex l D cI cZ cJ p0 r_1 e_1) ⟨va_cnB 1 hg (ld_gd k_161) rfl rfl rfl (hN _ (ld_nwm 11 rfl)) (hg _ k_23) hd_isIndex ⟨Nat.le_of_ble_eq_true rfl, Nat.le_of_ble_eq_true rfl⟩, hg _ k_160, trivial⟩ (ld_preR hP hK hN [] rfl) rfl rfl hl.1 rfl (lv_room (Nat.le_of_ble_eq_true rfl)) d_madd_1 ⟨Nat.zero_le _, Nat.zero_le _⟩).run) ?_
  refine lv_if_eq (tgt := 36) hx hb d_madd_4 (by decide) (fun c_2 => ?_) (fun c_2 => ?_)
  · have h := (if_pos c_2).symm.trans h
    subst h
    exact W.vret hx hb hr (fun t ht hW => ⟨⟨(), rfl, trivial, by rw [ht]; exact hP, hD⟩, hS.F ht⟩) hS.2.2 d_madd_36
  · have h := (if_neg c_2).symm.trans h
    refine lv_iload_n hx hb d_madd_7 rfl (lv_at hl 2 rfl) ?_
    obtain ⟨r_3, e_3, h⟩ := ld_nm h
    refine ld_rd ((va_runSN (As := [.int p1]) (rest := []) ⟨hx, hb, hml, hown, hg⟩ (lc_isIndex l D cI cZ cJ p1 r_3 e_3) ⟨va_cnB 1 hg (ld_gd k_161) rfl rfl rfl (hN _ (ld_nwm 11 rfl)) (hg _ k_23) hd_isIndex ⟨Nat.le_of_ble_eq_true rfl, Nat.le_of_ble_eq_true rfl⟩, hg _ k_160, trivial⟩ (ld_preR hP hK hN [] rfl) rfl rfl hl.1 rfl (lv_room (Nat.le_of_ble_eq_true rfl)) d_madd_8 ⟨Nat.zero_le _, Nat.zero_le _⟩).run) ?_
    refine lv_if_eq (tgt := 36) hx hb d_madd_11 (by decide) (fun c_4 => ?_) (fun c_4 => ?_)
    · have h := (if_pos c_4).symm.trans h
      subst h
      exact W.vret hx hb hr (fun t ht hW => ⟨⟨(), rfl, trivial, by rw [ht]; exact hP, hD⟩, hS.F ht⟩) hS.2.2 d_madd_36
    · have h := (if_neg c_4).symm.trans h
      refine lv_aload_n hx hb d_madd_14 rfl (lv_at hl 0 rfl) ?_
      refine va_get (D := D) (ci := 5) (v := .ref (a 22)) (C := "LoanDesk$Meetings") (T := T_Meetings) (N := 1) hx hb hg u_Meetings hown hK hP 0 rfl rfl 0 (by decide) (hg _ k_106) (fun _ h9 => h9) rfl d_madd_15 ?_
      refine lv_iconst (v := 2) hx hb d_madd_18 (by decide) ?_
      refine lv_iload_n hx hb d_madd_19 rfl (lv_at hl 1 rfl) ?_
      refine lv_imul hx hb d_madd_20 ?_
      refine lv_iload_n hx hb d_madd_21 rfl (lv_at hl 2 rfl) ?_
      refine lv_bipush (v := 64) hx hb d_madd_22 (by decide) ?_
      refine lv_idiv hx hb d_madd_24 (by decide) ?_
      refine lv_iadd hx hb d_madd_25 ?_
      refine lv_dup2_11 hx hb d_madd_26 rfl rfl ?_
      refine va_lald hx hb hK hP 1 2 rfl rfl (i := (2 * p0) + (p1 / 64)) (ld_w1 e_1 c_2 e_3 c_4) d_madd_27 ?_
      refine lv_lconst (v := 1) hx hb d_madd_28 (by decide) ?_
      refine lv_iload_n hx hb d_madd_29 rfl (lv_at hl 2 rfl) ?_
      refine lv_bipush (v := 64) hx hb d_madd_30 (by decide) ?_
      refine lv_irem hx hb d_madd_32 (by decide) ?_
      refine lv_lshl (v := (1 : Int64) <<< ((p1 - p1 / 64 * 64).toInt64 &&& 63)) hx hb d_madd_33 rfl ?_
      refine lv_lor hx hb d_madd_34 ?_
      refine va_last hx hb hK hP hD hS 1 2 rfl rfl (i := (2 * p0) + (p1 / 64)) (ld_w1 e_1 c_2 e_3 c_4) d_madd_35 (fun H locs hP hD hS => ?_)
      have hP : va_P D vwCl (ld_mW a cJ (vp_updL mw (((2 * p0) + (p1 / 64)).toNatClampNeg) ((mw ((2 * p0) + (p1 / 64)).toNatClampNeg) ||| ((1 : Int64) <<< ((p1 - p1 / 64 * 64).toInt64 &&& 63))))) H := hP
      have hD : va_D A (ld_mW a cJ (vp_updL mw (((2 * p0) + (p1 / 64)).toNatClampNeg) ((mw ((2 * p0) + (p1 / 64)).toNatClampNeg) ||| ((1 : Int64) <<< ((p1 - p1 / 64 * 64).toInt64 &&& 63))))) := hD
      subst h
      exact W.vret hx hb hr (fun t ht hW => ⟨⟨(), rfl, trivial, by rw [ht]; exact hP, hD⟩, hS.F ht⟩) hS.2.2 d_madd_36
def lf_isAnyAt (mw : Nat → Int64) (p0 : Int32) : Int32 := ld_lt (lf_isIndex p0) (fun r_1 => if r_1 = 0 then 0 else if (lg_cmp ((mw (2 * p0).toNatClampNeg) ||| (mw ((2 * p0) + 1).toNatClampNeg)) 0) = 0 then 0 else 1)
set_option maxHeartbeats 4000000 in
set_option maxRecDepth 100000 in
theorem lc_isAnyAt (l : Launch) (D : va_G) (cI cZ cJ : ClassId) (a : Nat → Nat) (mw : Nat → Int64) (p0 : Int32) (R : Int32) (h : lf_isAnyAt mw p0 = R) : Met l y_isAnyAt (Cond.code y_isAnyAt prog_4_method_7_code 2 (some .boolean) :: bgT) ({ frames := 1, cells := 0, slots := 0, locals := 20 }) (ld_PR D cI cZ cJ (ld_mW a cJ mw) [.ref (a 21), .int p0]) (vp_Si (fun z => z = R)) 0 0 (fun _ => False) := by
  refine Met.ofW (cc := prog_4_method_7_code) (maxL := 2) (ret := (some .boolean)) (by decide) rfl ?_
  intro p e s m args below meth c s₁ B hml hv
  obtain ⟨rfl, hP, hK, hN⟩ := hv
  have hx := B.exec
  have hb := B.bytes
  have hr := B.returns
  have hg : ∀ w ∈ bgT, w.before _ s = true := fun w h => atoms_spec (ws := (Cond.code y_isAnyAt prog_4_method_7_code 2 (some .boolean) :: bgT)) B.pre w (List.mem_cons_of_mem _ h)
  have hown : s.vm.findClass "LoanDesk$Meetings" = some m.cls := findClass_of_methodNamed B.named
  have hlocks := B.notSynchronized
  have hl := lv_entry ([.ref (a 21), .int p0]) (n := 2) (Nat.le_of_ble_eq_true rfl)
  rw [lg_entry_eq]
  generalize (lg_sl ([.ref (a 21), .int p0]) ++ List.replicate (2 - (lg_sl ([.ref (a 21), .int p0])).length) Slot.unset).toArray = ls at hl ⊢
  have hl : lv_has ls 2 [(0, .ref (a 21)), (1, .int p0)] := hl
  refine lv_iload_n hx hb d_isAnyAt_0 rfl (lv_at hl 1 rfl) ?_
  obtain ⟨r_1, e_1, h⟩ := ld_nm h
  refine ld_rd ((va_runSN (As := [.int p0]) (rest := []) ⟨hx, hb, hml, hown, hg⟩ (lc_isIndex l D cI cZ cJ p0 r_1 e_1) ⟨va_cnB 1 hg (ld_gd k_161) rfl rfl rfl (hN _ (ld_nwm 11 rfl)) (hg _ k_23) hd_isIndex ⟨Nat.le_of_ble_eq_true rfl, Nat.le_of_ble_eq_true rfl⟩, hg _ k_160, trivial⟩ (ld_preR hP hK hN [] rfl) rfl rfl hl.1 rfl (lv_room (Nat.le_of_ble_eq_true rfl)) d_isAnyAt_1 ⟨Nat.zero_le _, Nat.zero_le _⟩).run) ?_
  refine lv_if_eq (tgt := 35) hx hb d_isAnyAt_4 (by decide) (fun c_2 => ?_) (fun c_2 => ?_)
  · have h := (if_pos c_2).symm.trans h
    refine lv_iconst (v := 0) hx hb d_isAnyAt_35 (by decide) ?_
    exact W.zret (v := 0) hx hb hr rfl (fun t ht hW => ⟨_, rfl, h, ht⟩) (fun _ q => by cases q) d_isAnyAt_36
  · have h := (if_neg c_2).symm.trans h
    refine lv_aload_n hx hb d_isAnyAt_7 rfl (lv_at hl 0 rfl) ?_
    refine va_get (D := D) (ci := 5) (v := .ref (a 22)) (C := "LoanDesk$Meetings") (T := T_Meetings) (N := 1) hx hb hg u_Meetings hown hK hP 0 rfl rfl 0 (by decide) (hg _ k_106) (fun _ h9 => h9) rfl d_isAnyAt_8 ?_
    refine lv_iconst (v := 2) hx hb d_isAnyAt_11 (by decide) ?_
    refine lv_iload_n hx hb d_isAnyAt_12 rfl (lv_at hl 1 rfl) ?_
    refine lv_imul hx hb d_isAnyAt_13 ?_
    refine va_lald hx hb hK hP 1 2 rfl rfl (i := 2 * p0) (ld_w2 e_1 c_2) d_isAnyAt_14 ?_
    refine lv_aload_n hx hb d_isAnyAt_15 rfl (lv_at hl 0 rfl) ?_
    refine va_get (D := D) (ci := 5) (v := .ref (a 22)) (C := "LoanDesk$Meetings") (T := T_Meetings) (N := 1) hx hb hg u_Meetings hown hK hP 0 rfl rfl 0 (by decide) (hg _ k_106) (fun _ h9 => h9) rfl d_isAnyAt_16 ?_
    refine lv_iconst (v := 2) hx hb d_isAnyAt_19 (by decide) ?_
    refine lv_iload_n hx hb d_isAnyAt_20 rfl (lv_at hl 1 rfl) ?_
    refine lv_imul hx hb d_isAnyAt_21 ?_
    refine lv_iconst (v := 1) hx hb d_isAnyAt_22 (by decide) ?_
    refine lv_iadd hx hb d_isAnyAt_23 ?_
    refine va_lald hx hb hK hP 1 2 rfl rfl (i := (2 * p0) + 1) (ld_w3 e_1 c_2) d_isAnyAt_24 ?_
    refine lv_lor hx hb d_isAnyAt_25 ?_
    refine lv_lconst (v := 0) hx hb d_isAnyAt_26 (by decide) ?_
    refine W.lcmp hx hb d_isAnyAt_27 ?_
    refine lv_if_eq (tgt := 35) hx hb d_isAnyAt_28 (by decide) (fun c_3 => ?_) (fun c_3 => ?_)
    · have h := (if_pos c_3).symm.trans h
      refine lv_iconst (v := 0) hx hb d_isAnyAt_35 (by decide) ?_
      exact W.zret (v := 0) hx hb hr rfl (fun t ht hW => ⟨_, rfl, h, ht⟩) (fun _ q => by cases q) d_isAnyAt_36
    · have h := (if_neg c_3).symm.trans h
      refine lv_iconst (v := 1) hx hb d_isAnyAt_31 (by decide) ?_
      refine lv_goto (tgt := 36) hx hb d_isAnyAt_32 (by decide) ?_
      exact W.zret (v := 1) hx hb hr rfl (fun t ht hW => ⟨_, rfl, h, ht⟩) (fun _ q => by cases q) d_isAnyAt_36
def lf_isAt (mw : Nat → Int64) (p0 : Int32) (p1 : Int32) : Int32 := ld_lt (lf_isIndex p0) (fun r_1 => if r_1 = 0 then 0 else ld_lt (lf_isIndex p1) (fun r_3 => if r_3 = 0 then 0 else if (lg_cmp ((((mw ((2 * p0) + (p1 / 64)).toNatClampNeg).toUInt64 >>> ((p1 - p1 / 64 * 64).toInt64.toUInt64 &&& Int64.toUInt64 63)).toInt64) &&& 1) 1) = 0 then 1 else 0))
set_option maxHeartbeats 4000000 in
set_option maxRecDepth 100000 in
theorem lc_isAt (l : Launch) (D : va_G) (cI cZ cJ : ClassId) (a : Nat → Nat) (mw : Nat → Int64) (p0 : Int32) (p1 : Int32) (R : Int32) (h : lf_isAt mw p0 p1 = R) : Met l y_isAt (Cond.code y_isAt prog_4_method_8_code 3 (some .boolean) :: bgT) ({ frames := 1, cells := 0, slots := 0, locals := 20 }) (ld_PR D cI cZ cJ (ld_mW a cJ mw) [.ref (a 21), .int p0, .int p1]) (vp_Si (fun z => z = R)) 0 0 (fun _ => False) := by
  refine Met.ofW (cc := prog_4_method_8_code) (maxL := 3) (ret := (some .boolean)) (by decide) rfl ?_
  intro p e s m args below meth c s₁ B hml hv
  obtain ⟨rfl, hP, hK, hN⟩ := hv
  have hx := B.exec
  have hb := B.bytes
  have hr := B.returns
  have hg : ∀ w ∈ bgT, w.before _ s = true := fun w h => atoms_spec (ws := (Cond.code y_isAt prog_4_method_8_code 3 (some .boolean) :: bgT)) B.pre w (List.mem_cons_of_mem _ h)
  have hown : s.vm.findClass "LoanDesk$Meetings" = some m.cls := findClass_of_methodNamed B.named
  have hlocks := B.notSynchronized
  have hl := lv_entry ([.ref (a 21), .int p0, .int p1]) (n := 3) (Nat.le_of_ble_eq_true rfl)
  rw [lg_entry_eq]
  generalize (lg_sl ([.ref (a 21), .int p0, .int p1]) ++ List.replicate (3 - (lg_sl ([.ref (a 21), .int p0, .int p1])).length) Slot.unset).toArray = ls at hl ⊢
  have hl : lv_has ls 3 [(0, .ref (a 21)), (1, .int p0), (2, .int p1)] := hl
  refine lv_iload_n hx hb d_isAt_0 rfl (lv_at hl 1 rfl) ?_
  obtain ⟨r_1, e_1, h⟩ := ld_nm h
  refine ld_rd ((va_runSN (As := [.int p0]) (rest := []) ⟨hx, hb, hml, hown, hg⟩ (lc_isIndex l D cI cZ cJ p0 r_1 e_1) ⟨va_cnB 1 hg (ld_gd k_161) rfl rfl rfl (hN _ (ld_nwm 11 rfl)) (hg _ k_23) hd_isIndex ⟨Nat.le_of_ble_eq_true rfl, Nat.le_of_ble_eq_true rfl⟩, hg _ k_160, trivial⟩ (ld_preR hP hK hN [] rfl) rfl rfl hl.1 rfl (lv_room (Nat.le_of_ble_eq_true rfl)) d_isAt_1 ⟨Nat.zero_le _, Nat.zero_le _⟩).run) ?_
  refine lv_if_eq (tgt := 43) hx hb d_isAt_4 (by decide) (fun c_2 => ?_) (fun c_2 => ?_)
  · have h := (if_pos c_2).symm.trans h
    refine lv_iconst (v := 0) hx hb d_isAt_43 (by decide) ?_
    exact W.zret (v := 0) hx hb hr rfl (fun t ht hW => ⟨_, rfl, h, ht⟩) (fun _ q => by cases q) d_isAt_44
  · have h := (if_neg c_2).symm.trans h
    refine lv_iload_n hx hb d_isAt_7 rfl (lv_at hl 2 rfl) ?_
    obtain ⟨r_3, e_3, h⟩ := ld_nm h
    refine ld_rd ((va_runSN (As := [.int p1]) (rest := []) ⟨hx, hb, hml, hown, hg⟩ (lc_isIndex l D cI cZ cJ p1 r_3 e_3) ⟨va_cnB 1 hg (ld_gd k_161) rfl rfl rfl (hN _ (ld_nwm 11 rfl)) (hg _ k_23) hd_isIndex ⟨Nat.le_of_ble_eq_true rfl, Nat.le_of_ble_eq_true rfl⟩, hg _ k_160, trivial⟩ (ld_preR hP hK hN [] rfl) rfl rfl hl.1 rfl (lv_room (Nat.le_of_ble_eq_true rfl)) d_isAt_8 ⟨Nat.zero_le _, Nat.zero_le _⟩).run) ?_
    refine lv_if_eq (tgt := 43) hx hb d_isAt_11 (by decide) (fun c_4 => ?_) (fun c_4 => ?_)
    · have h := (if_pos c_4).symm.trans h
      refine lv_iconst (v := 0) hx hb d_isAt_43 (by decide) ?_
      exact W.zret (v := 0) hx hb hr rfl (fun t ht hW => ⟨_, rfl, h, ht⟩) (fun _ q => by cases q) d_isAt_44
    · have h := (if_neg c_4).symm.trans h
      refine lv_aload_n hx hb d_isAt_14 rfl (lv_at hl 0 rfl) ?_
      refine va_get (D := D) (ci := 5) (v := .ref (a 22)) (C := "LoanDesk$Meetings") (T := T_Meetings) (N := 1) hx hb hg u_Meetings hown hK hP 0 rfl rfl 0 (by decide) (hg _ k_106) (fun _ h9 => h9) rfl d_isAt_15 ?_
      refine lv_iconst (v := 2) hx hb d_isAt_18 (by decide) ?_
      refine lv_iload_n hx hb d_isAt_19 rfl (lv_at hl 1 rfl) ?_
      refine lv_imul hx hb d_isAt_20 ?_
      refine lv_iload_n hx hb d_isAt_21 rfl (lv_at hl 2 rfl) ?_
      refine lv_bipush (v := 64) hx hb d_isAt_22 (by decide) ?_
      refine lv_idiv hx hb d_isAt_24 (by decide) ?_
      refine lv_iadd hx hb d_isAt_25 ?_
      refine va_lald hx hb hK hP 1 2 rfl rfl (i := (2 * p0) + (p1 / 64)) (ld_w1 e_1 c_2 e_3 c_4) d_isAt_26 ?_
      refine lv_iload_n hx hb d_isAt_27 rfl (lv_at hl 2 rfl) ?_
      refine lv_bipush (v := 64) hx hb d_isAt_28 (by decide) ?_
      refine lv_irem hx hb d_isAt_30 (by decide) ?_
      refine lv_lushr (v := ((mw ((2 * p0) + (p1 / 64)).toNatClampNeg).toUInt64 >>> ((p1 - p1 / 64 * 64).toInt64.toUInt64 &&& Int64.toUInt64 63)).toInt64) hx hb d_isAt_31 rfl ?_
      refine lv_lconst (v := 1) hx hb d_isAt_32 (by decide) ?_
      refine lv_land hx hb d_isAt_33 ?_
      refine lv_lconst (v := 1) hx hb d_isAt_34 (by decide) ?_
      refine W.lcmp hx hb d_isAt_35 ?_
      refine lv_if_ne (tgt := 43) hx hb d_isAt_36 (by decide) (fun c_5 => ?_) (fun c_5 => ?_)
      · have h := (if_neg c_5).symm.trans h
        refine lv_iconst (v := 0) hx hb d_isAt_43 (by decide) ?_
        exact W.zret (v := 0) hx hb hr rfl (fun t ht hW => ⟨_, rfl, h, ht⟩) (fun _ q => by cases q) d_isAt_44
      · have h := (if_pos c_5).symm.trans h
        refine lv_iconst (v := 1) hx hb d_isAt_39 (by decide) ?_
        refine lv_goto (tgt := 44) hx hb d_isAt_40 (by decide) ?_
        exact W.zret (v := 1) hx hb hr rfl (fun t ht hW => ⟨_, rfl, h, ht⟩) (fun _ q => by cases q) d_isAt_44
def ls_mcount_1 (mw : Nat → Int64) (v1 : Int32 × Int32) : Option ((Int32 × Int32) ⊕ (Int32 × Int32)) := if 120 ≤ v1.2 then some (.inr (v1.1, v1.2)) else ld_lt (lf_isAnyAt mw v1.2) (fun r_2 => if r_2 = 0 then some (.inl (v1.1, v1.2 + 1)) else some (.inl (v1.1 + 1, v1.2 + 1)))
def lm_mcount (N : Nat) (mw : Nat → Int64) : Option (Int32) := Option.bind (ld_it (ls_mcount_1 mw) N (0, 0)) (fun Y1 => some Y1.1)
set_option maxHeartbeats 4000000 in
set_option maxRecDepth 100000 in
theorem lc_mcount (l : Launch) (D : va_G) (cI cZ cJ : ClassId) (a : Nat → Nat) (mw : Nat → Int64) (N : Nat) (R : Int32) (h : lm_mcount N mw = some R) : Met l y_mcount (Cond.code y_mcount prog_4_method_4_code 3 (some .int) :: bgT) ({ frames := 2, cells := 0, slots := 0, locals := 41 }) (ld_PR D cI cZ cJ (ld_mW a cJ mw) [.ref (a 21)]) (vp_Si (fun z => z = R)) 0 0 (fun _ => False) := by
  refine Met.ofW (cc := prog_4_method_4_code) (maxL := 3) (ret := (some .int)) (by decide) rfl ?_
  intro p e s m args below meth c s₁ B hml hv
  obtain ⟨rfl, hP, hK, hN⟩ := hv
  have hx := B.exec
  have hb := B.bytes
  have hr := B.returns
  have hg : ∀ w ∈ bgT, w.before _ s = true := fun w h => atoms_spec (ws := (Cond.code y_mcount prog_4_method_4_code 3 (some .int) :: bgT)) B.pre w (List.mem_cons_of_mem _ h)
  have hown : s.vm.findClass "LoanDesk$Meetings" = some m.cls := findClass_of_methodNamed B.named
  have hlocks := B.notSynchronized
  have hl := lv_entry ([.ref (a 21)]) (n := 3) (Nat.le_of_ble_eq_true rfl)
  rw [lg_entry_eq]
  generalize (lg_sl ([.ref (a 21)]) ++ List.replicate (3 - (lg_sl ([.ref (a 21)])).length) Slot.unset).toArray = ls at hl ⊢
  have hl : lv_has ls 3 [(0, .ref (a 21))] := hl
  refine lv_iconst (v := 0) hx hb d_mcount_0 (by decide) ?_
  refine lv_istore_n (lv' := [(1, .int 0), (0, .ref (a 21))]) hx hb d_mcount_1 rfl hl (by decide) rfl (fun ls hl => ?_)
  refine lv_iconst (v := 0) hx hb d_mcount_2 (by decide) ?_
  refine lv_istore_n (lv' := [(2, .int 0), (1, .int 0), (0, .ref (a 21))]) hx hb d_mcount_3 rfl hl (by decide) rfl (fun ls hl => ?_)
  obtain ⟨Y1, eY1, h⟩ := ld_ob h
  have kont1 : ∀ (ls : Array Slot), lv_has ls 3 [(1, .int Y1.1)] → W p l e (headSpec (Cond.code y_mcount prog_4_method_4_code 3 (some .int) :: bgT) ({ frames := 2, cells := 0, slots := 0, locals := 41 })).room s m ([.ref (a 21)] : List Value).toArray below meth c s.heap [] 0 0 (MQ below (vp_Si (fun z => z = R)) ([.ref (a 21)] : List Value).toArray s 0 0 (fun _ => False)) (F0 m 27 ls []) := by
    intro ls hl
    refine lv_iload_n hx hb d_mcount_27 rfl (lv_at hl 0 rfl) ?_
    have h := Option.some.inj h
    exact W.iret (v := Y1.1) hx hb hr (fun t ht hW => ⟨_, rfl, h, ht⟩) (fun _ q => by cases q) d_mcount_28
  have key1 : ∀ (n : Nat) (v1 : Int32 × Int32) (ls : Array Slot), ld_it (ls_mcount_1 mw) n v1 = some Y1 → lv_has ls 3 [(0, .ref (a 21)), (1, .int v1.1), (2, .int v1.2)] → W p l e (headSpec (Cond.code y_mcount prog_4_method_4_code 3 (some .int) :: bgT) ({ frames := 2, cells := 0, slots := 0, locals := 41 })).room s m ([.ref (a 21)] : List Value).toArray below meth c s.heap [] 0 0 (MQ below (vp_Si (fun z => z = R)) ([.ref (a 21)] : List Value).toArray s 0 0 (fun _ => False)) (F0 m 4 ls []) := by
    intro n
    induction n with
    | zero => intro v1 ls g1 hl; cases g1
    | succ n ih1 =>
      intro v1 ls g1 hl
      obtain ⟨z1, hy1, g1⟩ := ld_its g1
      refine lv_iload_n hx hb d_mcount_4 rfl (lv_at hl 2 rfl) ?_
      refine lv_bipush (v := 120) hx hb d_mcount_5 (by decide) ?_
      refine lv_icmp_ge (tgt := 27) hx hb d_mcount_7 (by decide) (fun c_1 => ?_) (fun c_1 => ?_)
      · have hy1 := (if_pos c_1).symm.trans hy1
        obtain rfl := Option.some.inj hy1
        obtain rfl := Option.some.inj g1
        exact kont1 _ (lv_sub hl [1] rfl)
      · have hy1 := (if_neg c_1).symm.trans hy1
        refine lv_aload_n hx hb d_mcount_10 rfl (lv_at hl 0 rfl) ?_
        refine lv_iload_n hx hb d_mcount_11 rfl (lv_at hl 2 rfl) ?_
        obtain ⟨r_2, e_2, hy1⟩ := ld_nm hy1
        refine ld_rd (W.runV (As := [.int v1.2]) (rest := []) ⟨hx, hb, hml, hown, hg⟩ (lc_isAnyAt l D cI cZ cJ a mw v1.2 r_2 e_2) ⟨callB_of 1 hg (ld_gd k_347) rfl rfl rfl (hg _ k_29) (hg _ k_345) hd_isAnyAt ⟨Nat.le_of_ble_eq_true rfl, Nat.le_of_ble_eq_true rfl⟩, hg _ k_346, hg _ k_11⟩ (ld_preRV hP hK hN [0, 1] rfl 5 0 rfl rfl) rfl rfl hl.1 rfl (lv_room (Nat.le_of_ble_eq_true rfl)) d_mcount_12 ⟨Nat.zero_le _, Nat.zero_le _⟩) ?_
        refine lv_if_eq (tgt := 21) hx hb d_mcount_15 (by decide) (fun c_3 => ?_) (fun c_3 => ?_)
        · have hy1 := (if_pos c_3).symm.trans hy1
          refine lv_iinc (v := v1.2 + 1) (lv' := [(2, .int (v1.2 + 1)), (0, .ref (a 21)), (1, .int v1.1)]) hx hb d_mcount_21 hl (k := 2) rfl rfl (by decide) rfl (fun ls hl => ?_)
          refine lv_goto (tgt := 4) hx hb d_mcount_24 (by decide) ?_
          obtain rfl := Option.some.inj hy1
          exact ih1 (v1.1, v1.2 + 1) _ g1 (lv_sub hl [1, 2, 0] rfl)
        · have hy1 := (if_neg c_3).symm.trans hy1
          refine lv_iinc (v := v1.1 + 1) (lv' := [(1, .int (v1.1 + 1)), (0, .ref (a 21)), (2, .int v1.2)]) hx hb d_mcount_18 hl (k := 1) rfl rfl (by decide) rfl (fun ls hl => ?_)
          refine lv_iinc (v := v1.2 + 1) (lv' := [(2, .int (v1.2 + 1)), (1, .int (v1.1 + 1)), (0, .ref (a 21))]) hx hb d_mcount_21 hl (k := 2) rfl rfl (by decide) rfl (fun ls hl => ?_)
          refine lv_goto (tgt := 4) hx hb d_mcount_24 (by decide) ?_
          obtain rfl := Option.some.inj hy1
          exact ih1 (v1.1 + 1, v1.2 + 1) _ g1 (lv_sub hl [2, 1, 0] rfl)
  exact key1 N (0, 0) _ eY1 (lv_sub hl [2, 1, 0] rfl)
def ls_mfirst_1 (mw : Nat → Int64) (v1 : Int32) : Option ((Int32) ⊕ ((Int32) ⊕ (Int32))) := if 120 ≤ v1 then some (.inr (.inl v1)) else ld_lt (lf_isAnyAt mw v1) (fun r_2 => if r_2 = 0 then some (.inl (v1 + 1)) else some (.inr (.inr v1)))
def lm_mfirst (N : Nat) (mw : Nat → Int64) : Option (Int32) := Option.bind (ld_it (ls_mfirst_1 mw) N 0) (fun Y1 => ld_ex Y1 (fun y1 => some (-1)) (fun R9 => some R9))
set_option maxHeartbeats 4000000 in
set_option maxRecDepth 100000 in
theorem lc_mfirst (l : Launch) (D : va_G) (cI cZ cJ : ClassId) (a : Nat → Nat) (mw : Nat → Int64) (N : Nat) (R : Int32) (h : lm_mfirst N mw = some R) : Met l y_mfirst (Cond.code y_mfirst prog_4_method_5_code 2 (some .int) :: bgT) ({ frames := 2, cells := 0, slots := 0, locals := 41 }) (ld_PR D cI cZ cJ (ld_mW a cJ mw) [.ref (a 21)]) (vp_Si (fun z => z = R)) 0 0 (fun _ => False) := by
  refine Met.ofW (cc := prog_4_method_5_code) (maxL := 2) (ret := (some .int)) (by decide) rfl ?_
  intro p e s m args below meth c s₁ B hml hv
  obtain ⟨rfl, hP, hK, hN⟩ := hv
  have hx := B.exec
  have hb := B.bytes
  have hr := B.returns
  have hg : ∀ w ∈ bgT, w.before _ s = true := fun w h => atoms_spec (ws := (Cond.code y_mfirst prog_4_method_5_code 2 (some .int) :: bgT)) B.pre w (List.mem_cons_of_mem _ h)
  have hown : s.vm.findClass "LoanDesk$Meetings" = some m.cls := findClass_of_methodNamed B.named
  have hlocks := B.notSynchronized
  have hl := lv_entry ([.ref (a 21)]) (n := 2) (Nat.le_of_ble_eq_true rfl)
  rw [lg_entry_eq]
  generalize (lg_sl ([.ref (a 21)]) ++ List.replicate (2 - (lg_sl ([.ref (a 21)])).length) Slot.unset).toArray = ls at hl ⊢
  have hl : lv_has ls 2 [(0, .ref (a 21))] := hl
  refine lv_iconst (v := 0) hx hb d_mfirst_0 (by decide) ?_
  refine lv_istore_n (lv' := [(1, .int 0), (0, .ref (a 21))]) hx hb d_mfirst_1 rfl hl (by decide) rfl (fun ls hl => ?_)
  obtain ⟨Y1, eY1, h⟩ := ld_ob h
  have kont1 : ∀ (y1 : Int32) (ls : Array Slot), Y1 = .inl y1 → lv_has ls 2 [] → W p l e (headSpec (Cond.code y_mfirst prog_4_method_5_code 2 (some .int) :: bgT) ({ frames := 2, cells := 0, slots := 0, locals := 41 })).room s m ([.ref (a 21)] : List Value).toArray below meth c s.heap [] 0 0 (MQ below (vp_Si (fun z => z = R)) ([.ref (a 21)] : List Value).toArray s 0 0 (fun _ => False)) (F0 m 24 ls []) := by
    intro y1 ls eq1 hl
    subst eq1
    refine lv_iconst (v := (-1)) hx hb d_mfirst_24 (by decide) ?_
    have h := Option.some.inj h
    exact W.iret (v := (-1)) hx hb hr (fun t ht hW => ⟨_, rfl, h, ht⟩) (fun _ q => by cases q) d_mfirst_25
  have key1 : ∀ (n : Nat) (v1 : Int32) (ls : Array Slot), ld_it (ls_mfirst_1 mw) n v1 = some Y1 → lv_has ls 2 [(0, .ref (a 21)), (1, .int v1)] → W p l e (headSpec (Cond.code y_mfirst prog_4_method_5_code 2 (some .int) :: bgT) ({ frames := 2, cells := 0, slots := 0, locals := 41 })).room s m ([.ref (a 21)] : List Value).toArray below meth c s.heap [] 0 0 (MQ below (vp_Si (fun z => z = R)) ([.ref (a 21)] : List Value).toArray s 0 0 (fun _ => False)) (F0 m 2 ls []) := by
    intro n
    induction n with
    | zero => intro v1 ls g1 hl; cases g1
    | succ n ih1 =>
      intro v1 ls g1 hl
      obtain ⟨z1, hy1, g1⟩ := ld_its g1
      refine lv_iload_n hx hb d_mfirst_2 rfl (lv_at hl 1 rfl) ?_
      refine lv_bipush (v := 120) hx hb d_mfirst_3 (by decide) ?_
      refine lv_icmp_ge (tgt := 24) hx hb d_mfirst_5 (by decide) (fun c_1 => ?_) (fun c_1 => ?_)
      · have hy1 := (if_pos c_1).symm.trans hy1
        obtain rfl := Option.some.inj hy1
        exact kont1 v1 _ (Option.some.inj g1).symm (lv_sub hl [] rfl)
      · have hy1 := (if_neg c_1).symm.trans hy1
        refine lv_aload_n hx hb d_mfirst_8 rfl (lv_at hl 0 rfl) ?_
        refine lv_iload_n hx hb d_mfirst_9 rfl (lv_at hl 1 rfl) ?_
        obtain ⟨r_2, e_2, hy1⟩ := ld_nm hy1
        refine ld_rd (W.runV (As := [.int v1]) (rest := []) ⟨hx, hb, hml, hown, hg⟩ (lc_isAnyAt l D cI cZ cJ a mw v1 r_2 e_2) ⟨callB_of 1 hg (ld_gd k_347) rfl rfl rfl (hg _ k_29) (hg _ k_345) hd_isAnyAt ⟨Nat.le_of_ble_eq_true rfl, Nat.le_of_ble_eq_true rfl⟩, hg _ k_346, hg _ k_11⟩ (ld_preRV hP hK hN [0, 1] rfl 5 0 rfl rfl) rfl rfl hl.1 rfl (lv_room (Nat.le_of_ble_eq_true rfl)) d_mfirst_10 ⟨Nat.zero_le _, Nat.zero_le _⟩) ?_
        refine lv_if_eq (tgt := 18) hx hb d_mfirst_13 (by decide) (fun c_3 => ?_) (fun c_3 => ?_)
        · have hy1 := (if_pos c_3).symm.trans hy1
          refine lv_iinc (v := v1 + 1) (lv' := [(1, .int (v1 + 1)), (0, .ref (a 21))]) hx hb d_mfirst_18 hl (k := 1) rfl rfl (by decide) rfl (fun ls hl => ?_)
          refine lv_goto (tgt := 2) hx hb d_mfirst_21 (by decide) ?_
          obtain rfl := Option.some.inj hy1
          exact ih1 (v1 + 1) _ g1 (lv_sub hl [1, 0] rfl)
        · have hy1 := (if_neg c_3).symm.trans hy1
          refine lv_iload_n hx hb d_mfirst_16 rfl (lv_at hl 1 rfl) ?_
          obtain rfl := Option.some.inj hy1
          obtain rfl := Option.some.inj g1
          have h := Option.some.inj h
          exact W.iret (v := v1) hx hb hr (fun t ht hW => ⟨_, rfl, h, ht⟩) (fun _ q => by cases q) d_mfirst_17
  exact key1 N 0 _ eY1 (lv_sub hl [1, 0] rfl)
def ls_least_1 (mw : Nat → Int64) (p0 : Int32) (p1 : Int32) (v1 : Int32) : Option ((Int32) ⊕ ((Int32) ⊕ (Int32))) := if 120 ≤ v1 then some (.inr (.inl v1)) else if v1 ≤ p1 then some (.inl (v1 + 1)) else ld_lt (lf_isAt mw p0 v1) (fun r_3 => if r_3 = 0 then some (.inl (v1 + 1)) else some (.inr (.inr v1)))
def lm_least (N : Nat) (mw : Nat → Int64) (p0 : Int32) (p1 : Int32) : Option (Int32) := Option.bind (ld_it (ls_least_1 mw p0 p1) N 0) (fun Y1 => ld_ex Y1 (fun y1 => some (-1)) (fun R9 => some R9))
set_option maxHeartbeats 4000000 in
set_option maxRecDepth 100000 in
theorem lc_least (l : Launch) (D : va_G) (cI cZ cJ : ClassId) (a : Nat → Nat) (mw : Nat → Int64) (p0 : Int32) (p1 : Int32) (N : Nat) (R : Int32) (h : lm_least N mw p0 p1 = some R) : Met l y_least (Cond.code y_least prog_4_method_6_code 4 (some .int) :: bgT) ({ frames := 2, cells := 0, slots := 0, locals := 42 }) (ld_PR D cI cZ cJ (ld_mW a cJ mw) [.ref (a 21), .int p0, .int p1]) (vp_Si (fun z => z = R)) 0 0 (fun _ => False) := by
  refine Met.ofW (cc := prog_4_method_6_code) (maxL := 4) (ret := (some .int)) (by decide) rfl ?_
  intro p e s m args below meth c s₁ B hml hv
  obtain ⟨rfl, hP, hK, hN⟩ := hv
  have hx := B.exec
  have hb := B.bytes
  have hr := B.returns
  have hg : ∀ w ∈ bgT, w.before _ s = true := fun w h => atoms_spec (ws := (Cond.code y_least prog_4_method_6_code 4 (some .int) :: bgT)) B.pre w (List.mem_cons_of_mem _ h)
  have hown : s.vm.findClass "LoanDesk$Meetings" = some m.cls := findClass_of_methodNamed B.named
  have hlocks := B.notSynchronized
  have hl := lv_entry ([.ref (a 21), .int p0, .int p1]) (n := 4) (Nat.le_of_ble_eq_true rfl)
  rw [lg_entry_eq]
  generalize (lg_sl ([.ref (a 21), .int p0, .int p1]) ++ List.replicate (4 - (lg_sl ([.ref (a 21), .int p0, .int p1])).length) Slot.unset).toArray = ls at hl ⊢
  have hl : lv_has ls 4 [(0, .ref (a 21)), (1, .int p0), (2, .int p1)] := hl
  refine lv_iconst (v := 0) hx hb d_least_0 (by decide) ?_
  refine lv_istore_n (lv' := [(3, .int 0), (0, .ref (a 21)), (1, .int p0), (2, .int p1)]) hx hb d_least_1 rfl hl (by decide) rfl (fun ls hl => ?_)
  obtain ⟨Y1, eY1, h⟩ := ld_ob h
  have kont1 : ∀ (y1 : Int32) (ls : Array Slot), Y1 = .inl y1 → lv_has ls 4 [] → W p l e (headSpec (Cond.code y_least prog_4_method_6_code 4 (some .int) :: bgT) ({ frames := 2, cells := 0, slots := 0, locals := 42 })).room s m ([.ref (a 21), .int p0, .int p1] : List Value).toArray below meth c s.heap [] 0 0 (MQ below (vp_Si (fun z => z = R)) ([.ref (a 21), .int p0, .int p1] : List Value).toArray s 0 0 (fun _ => False)) (F0 m 30 ls []) := by
    intro y1 ls eq1 hl
    subst eq1
    refine lv_iconst (v := (-1)) hx hb d_least_30 (by decide) ?_
    have h := Option.some.inj h
    exact W.iret (v := (-1)) hx hb hr (fun t ht hW => ⟨_, rfl, h, ht⟩) (fun _ q => by cases q) d_least_31
  have key1 : ∀ (n : Nat) (v1 : Int32) (ls : Array Slot), ld_it (ls_least_1 mw p0 p1) n v1 = some Y1 → lv_has ls 4 [(0, .ref (a 21)), (1, .int p0), (2, .int p1), (3, .int v1)] → W p l e (headSpec (Cond.code y_least prog_4_method_6_code 4 (some .int) :: bgT) ({ frames := 2, cells := 0, slots := 0, locals := 42 })).room s m ([.ref (a 21), .int p0, .int p1] : List Value).toArray below meth c s.heap [] 0 0 (MQ below (vp_Si (fun z => z = R)) ([.ref (a 21), .int p0, .int p1] : List Value).toArray s 0 0 (fun _ => False)) (F0 m 2 ls []) := by
    intro n
    induction n with
    | zero => intro v1 ls g1 hl; cases g1
    | succ n ih1 =>
      intro v1 ls g1 hl
      obtain ⟨z1, hy1, g1⟩ := ld_its g1
      refine lv_iload_n hx hb d_least_2 rfl (lv_at hl 3 rfl) ?_
      refine lv_bipush (v := 120) hx hb d_least_3 (by decide) ?_
      refine lv_icmp_ge (tgt := 30) hx hb d_least_5 (by decide) (fun c_1 => ?_) (fun c_1 => ?_)
      · have hy1 := (if_pos c_1).symm.trans hy1
        obtain rfl := Option.some.inj hy1
        exact kont1 v1 _ (Option.some.inj g1).symm (lv_sub hl [] rfl)
      · have hy1 := (if_neg c_1).symm.trans hy1
        refine lv_iload_n hx hb d_least_8 rfl (lv_at hl 3 rfl) ?_
        refine lv_iload_n hx hb d_least_9 rfl (lv_at hl 2 rfl) ?_
        refine lv_icmp_le (tgt := 24) hx hb d_least_10 (by decide) (fun c_2 => ?_) (fun c_2 => ?_)
        · have hy1 := (if_pos c_2).symm.trans hy1
          refine lv_iinc (v := v1 + 1) (lv' := [(3, .int (v1 + 1)), (0, .ref (a 21)), (1, .int p0), (2, .int p1)]) hx hb d_least_24 hl (k := 3) rfl rfl (by decide) rfl (fun ls hl => ?_)
          refine lv_goto (tgt := 2) hx hb d_least_27 (by decide) ?_
          obtain rfl := Option.some.inj hy1
          exact ih1 (v1 + 1) _ g1 (lv_sub hl [1, 2, 3, 0] rfl)
        · have hy1 := (if_neg c_2).symm.trans hy1
          refine lv_aload_n hx hb d_least_13 rfl (lv_at hl 0 rfl) ?_
          refine lv_iload_n hx hb d_least_14 rfl (lv_at hl 1 rfl) ?_
          refine lv_iload_n hx hb d_least_15 rfl (lv_at hl 3 rfl) ?_
          obtain ⟨r_3, e_3, hy1⟩ := ld_nm hy1
          refine ld_rd (W.runV (As := [.int p0, .int v1]) (rest := []) ⟨hx, hb, hml, hown, hg⟩ (lc_isAt l D cI cZ cJ a mw p0 v1 r_3 e_3) ⟨callB_of 2 hg (ld_gd k_332) rfl rfl rfl (hg _ k_29) (hg _ k_330) hd_isAt ⟨Nat.le_of_ble_eq_true rfl, Nat.le_of_ble_eq_true rfl⟩, hg _ k_331, hg _ k_10⟩ (ld_preRV hP hK hN [0, 1] rfl 5 0 rfl rfl) rfl rfl hl.1 rfl (lv_room (Nat.le_of_ble_eq_true rfl)) d_least_16 ⟨Nat.zero_le _, Nat.zero_le _⟩) ?_
          refine lv_if_eq (tgt := 24) hx hb d_least_19 (by decide) (fun c_4 => ?_) (fun c_4 => ?_)
          · have hy1 := (if_pos c_4).symm.trans hy1
            refine lv_iinc (v := v1 + 1) (lv' := [(3, .int (v1 + 1)), (0, .ref (a 21)), (1, .int p0), (2, .int p1)]) hx hb d_least_24 hl (k := 3) rfl rfl (by decide) rfl (fun ls hl => ?_)
            refine lv_goto (tgt := 2) hx hb d_least_27 (by decide) ?_
            obtain rfl := Option.some.inj hy1
            exact ih1 (v1 + 1) _ g1 (lv_sub hl [1, 2, 3, 0] rfl)
          · have hy1 := (if_neg c_4).symm.trans hy1
            refine lv_iload_n hx hb d_least_22 rfl (lv_at hl 3 rfl) ?_
            obtain rfl := Option.some.inj hy1
            obtain rfl := Option.some.inj g1
            have h := Option.some.inj h
            exact W.iret (v := v1) hx hb hr (fun t ht hW => ⟨_, rfl, h, ht⟩) (fun _ q => by cases q) d_least_23
  exact key1 N 0 _ eY1 (lv_sub hl [1, 2, 3, 0] rfl)
