def lm_fIsReached (N : Nat) (fo : Int32 × Int32 × Int32) (fb : ld_bT) (fe : ld_eT) (fs : ld_sT) (p0 : Int32) : Option (Int32 × (Int32 × Int32 × Int32) × ld_eT × ld_sT) := Option.bind (lm_flearn N fo fb fe fs) (fun r_1 => ld_lt (lf_fIsPoint r_1.1 p0) (fun r_2 => if r_2 = 0 then some (0, r_1.1, r_1.2.1, r_1.2.2) else if ld_in p0 120 = true then (if (r_1.2.1.1 p0.toNatClampNeg) = 0 then some (0, r_1.1, r_1.2.1, r_1.2.2) else some (1, r_1.1, r_1.2.1, r_1.2.2)) else none))
set_option maxHeartbeats 4000000 in
set_option maxRecDepth 100000 in
theorem lc_fIsReached (l : Launch) (D : va_G) (cI cZ cJ : ClassId) (f : Nat → Nat) (fo : Int32 × Int32 × Int32) (fb : ld_bT) (fe : ld_eT) (fs : ld_sT) (p0 : Int32) (sz : Nat) (N : Nat) (R : Int32 × (Int32 × Int32 × Int32) × ld_eT × ld_sT) (h : lm_fIsReached N fo fb fe fs p0 = some R) : Met l y_fIsReached (Cond.code y_fIsReached prog_9_method_15_code 2 (some .boolean) :: bgT) ({ frames := 5, cells := 0, slots := 0, locals := 110 }) (ld_PM D cI cZ cJ (ld_oW f fo ++ ld_bW f cI fb ++ ld_eW f cI cZ fe ++ ld_sW f cI cZ fs) sz [.ref (f 0), .int p0]) (ld_QI D (ld_oW f R.2.1 ++ ld_bW f cI fb ++ ld_eW f cI cZ R.2.2.1 ++ ld_sW f cI cZ R.2.2.2) (va_A (ld_oW f fo ++ ld_bW f cI fb ++ ld_eW f cI cZ fe ++ ld_sW f cI cZ fs) sz) R.1) 0 0 ((va_A (ld_oW f fo ++ ld_bW f cI fb ++ ld_eW f cI cZ fe ++ ld_sW f cI cZ fs) sz)) := by
  refine Met.ofW (cc := prog_9_method_15_code) (maxL := 2) (ret := (some .boolean)) (by decide) rfl ?_
  intro p e s m args below meth c s₁ B hml hv
  obtain ⟨rfl, hsz, hP, hK, hD0, hN⟩ := hv
  have hx := B.exec
  have hb := B.bytes
  have hr := B.returns
  have hg : ∀ w ∈ bgT, w.before _ s = true := fun w h => atoms_spec (ws := (Cond.code y_fIsReached prog_9_method_15_code 2 (some .boolean) :: bgT)) B.pre w (List.mem_cons_of_mem _ h)
  have hown : s.vm.findClass "LoanDeskModel" = some m.cls := findClass_of_methodNamed B.named
  have hlocks := B.notSynchronized
  subst hsz
  have hD := hD0.self (sz := s.heap.size)
  generalize hAe : va_A (ld_oW f fo ++ ld_bW f cI fb ++ ld_eW f cI cZ fe ++ ld_sW f cI cZ fs) s.heap.size = A at hD ⊢
  have hA : ∀ q : Nat, s.heap.size ≤ q → A q := fun q h => by rw [← hAe]; exact Or.inr h
  have hS : va_S A s.heap s.heap [] := va_S.rf
  have hl := lv_entry ([.ref (f 0), .int p0]) (n := 2) (Nat.le_of_ble_eq_true rfl)
  rw [lg_entry_eq]
  generalize (lg_sl ([.ref (f 0), .int p0]) ++ List.replicate (2 - (lg_sl ([.ref (f 0), .int p0])).length) Slot.unset).toArray = ls at hl ⊢
  have hl : lv_has ls 2 [(0, .ref (f 0)), (1, .int p0)] := hl
  refine lv_aload_n hx hb d_fIsReached_0 rfl (lv_at hl 0 rfl) ?_
  obtain ⟨r_1, e_1, h⟩ := ld_ob h
  refine ld_mv (wr := ([] : List Nat).filterMap (fun i => (ld_oW f fo ++ ld_bW f cI fb ++ ld_eW f cI cZ fe ++ ld_sW f cI cZ fs)[i]?)) (ws2 := ld_oW f r_1.1 ++ ld_bW f cI fb ++ ld_eW f cI cZ r_1.2.1 ++ ld_sW f cI cZ r_1.2.2) (va_runV (As := []) (rest := []) ⟨hx, hb, hml, hown, hg⟩ (lc_flearn l D cI cZ cJ f fo fb fe fs _ N r_1 e_1) ⟨callB_of 0 hg (ld_gd k_418) rfl rfl rfl (hg _ k_30) (hg _ k_416) hd_flearn ⟨Nat.le_of_ble_eq_true rfl, Nat.le_of_ble_eq_true rfl⟩, hg _ k_417, hg _ k_12⟩ (ld_preMV hP hK hN hD [0, 1, 2, 3, 4, 5, 6, 7, 8, 9, 10, 11] (by decide) rfl 7 0 rfl rfl) rfl rfl hl.1 rfl (lv_room (Nat.le_of_ble_eq_true rfl)) d_fIsReached_1 ⟨Nat.zero_le _, Nat.zero_le _⟩) hP hD hS hA [0, 1, 2, 3, 4, 5, 6, 7, 8, 9, 10, 11] [] [0, 1, 2, 3, 4, 5, 6, 7, 8, 9, 10, 11] rfl rfl (by decide) (by decide) (by decide) rfl (fun H locs hP hD hS => ?_)
  refine lv_aload_n hx hb d_fIsReached_4 rfl (lv_at hl 0 rfl) ?_
  refine lv_iload_n hx hb d_fIsReached_5 rfl (lv_at hl 1 rfl) ?_
  obtain ⟨r_2, e_2, h⟩ := ld_nm h
  refine ld_rd (W.runV (As := [.int p0]) (rest := []) ⟨hx, hb, hml, hown, hg⟩ (lc_fIsPoint l D cI cZ cJ f r_1.1 p0 r_2 e_2) ⟨callB_of 1 hg (ld_gd k_427) rfl rfl rfl (hg _ k_30) (hg _ k_425) hd_fIsPoint ⟨Nat.le_of_ble_eq_true rfl, Nat.le_of_ble_eq_true rfl⟩, hg _ k_426, hg _ k_15⟩ (ld_preRV hP hK hN [0] rfl 7 0 rfl rfl) rfl rfl hl.1 rfl (lv_room (Nat.le_of_ble_eq_true rfl)) d_fIsReached_6 ⟨Nat.zero_le _, Nat.zero_le _⟩) ?_
  refine lv_if_eq (tgt := 25) hx hb d_fIsReached_9 (by decide) (fun c_3 => ?_) (fun c_3 => ?_)
  · have h := (if_pos c_3).symm.trans h
    refine lv_iconst (v := 0) hx hb d_fIsReached_25 (by decide) ?_
    have h := Option.some.inj h
    subst h
    exact W.zret (v := 0) hx hb hr rfl (fun t ht hW => ⟨⟨_, (), rfl, rfl, by rw [ht]; exact hP, hD⟩, hS.F ht⟩) hS.2.2 d_fIsReached_26
  · have h := (if_neg c_3).symm.trans h
    refine lv_aload_n hx hb d_fIsReached_12 rfl (lv_at hl 0 rfl) ?_
    refine va_get (D := D) (ci := 7) (v := .ref (f 7)) (C := "LoanDeskModel") (T := T_Ref) (N := 14) hx hb hg u_Ref hown hK hP 0 rfl rfl 8 (by decide) (hg _ k_378) (fun _ h9 => h9) rfl d_fIsReached_13 ?_
    refine lv_iload_n hx hb d_fIsReached_16 rfl (lv_at hl 1 rfl) ?_
    obtain ⟨i_4, h⟩ := ld_grd h
    refine va_zald hx hb hK hP 7 1 rfl rfl (i := p0) i_4 d_fIsReached_17 ?_
    refine lv_if_eq (tgt := 25) hx hb d_fIsReached_18 (by decide) (fun c_5 => ?_) (fun c_5 => ?_)
    · have h := (if_pos c_5).symm.trans h
      refine lv_iconst (v := 0) hx hb d_fIsReached_25 (by decide) ?_
      have h := Option.some.inj h
      subst h
      exact W.zret (v := 0) hx hb hr rfl (fun t ht hW => ⟨⟨_, (), rfl, rfl, by rw [ht]; exact hP, hD⟩, hS.F ht⟩) hS.2.2 d_fIsReached_26
    · have h := (if_neg c_5).symm.trans h
      refine lv_iconst (v := 1) hx hb d_fIsReached_21 (by decide) ?_
      refine lv_goto (tgt := 26) hx hb d_fIsReached_22 (by decide) ?_
      have h := Option.some.inj h
      subst h
      exact W.zret (v := 1) hx hb hr rfl (fun t ht hW => ⟨⟨_, (), rfl, rfl, by rw [ht]; exact hP, hD⟩, hS.F ht⟩) hS.2.2 d_fIsReached_26
def lm_fholders (N : Nat) (fo : Int32 × Int32 × Int32) (fb : ld_bT) (fe : ld_eT) (fs : ld_sT) (p0 : Int32) (p1 : Int32) : Option (Int32 × (Int32 × Int32 × Int32) × ld_eT × ld_sT) := Option.bind (lm_flearn N fo fb fe fs) (fun r_1 => ld_lt (lf_fIsPoint r_1.1 p0) (fun r_2 => if r_2 = 0 then some (0, r_1.1, r_1.2.1, r_1.2.2) else ld_lt (lf_fIsPoint r_1.1 p1) (fun r_4 => if r_4 = 0 then some (0, r_1.1, r_1.2.1, r_1.2.2) else if ld_in ((120 * p1) + p0) 14400 = true then (some (r_1.2.1.2.2 ((120 * p1) + p0).toNatClampNeg, r_1.1, r_1.2.1, r_1.2.2)) else none)))
set_option maxHeartbeats 4000000 in
set_option maxRecDepth 100000 in
theorem lc_fholders (l : Launch) (D : va_G) (cI cZ cJ : ClassId) (f : Nat → Nat) (fo : Int32 × Int32 × Int32) (fb : ld_bT) (fe : ld_eT) (fs : ld_sT) (p0 : Int32) (p1 : Int32) (sz : Nat) (N : Nat) (R : Int32 × (Int32 × Int32 × Int32) × ld_eT × ld_sT) (h : lm_fholders N fo fb fe fs p0 p1 = some R) : Met l y_fholders (Cond.code y_fholders prog_9_method_16_code 3 (some .int) :: bgT) ({ frames := 5, cells := 0, slots := 0, locals := 110 }) (ld_PM D cI cZ cJ (ld_oW f fo ++ ld_bW f cI fb ++ ld_eW f cI cZ fe ++ ld_sW f cI cZ fs) sz [.ref (f 0), .int p0, .int p1]) (ld_QI D (ld_oW f R.2.1 ++ ld_bW f cI fb ++ ld_eW f cI cZ R.2.2.1 ++ ld_sW f cI cZ R.2.2.2) (va_A (ld_oW f fo ++ ld_bW f cI fb ++ ld_eW f cI cZ fe ++ ld_sW f cI cZ fs) sz) R.1) 0 0 ((va_A (ld_oW f fo ++ ld_bW f cI fb ++ ld_eW f cI cZ fe ++ ld_sW f cI cZ fs) sz)) := by
  refine Met.ofW (cc := prog_9_method_16_code) (maxL := 3) (ret := (some .int)) (by decide) rfl ?_
  intro p e s m args below meth c s₁ B hml hv
  obtain ⟨rfl, hsz, hP, hK, hD0, hN⟩ := hv
  have hx := B.exec
  have hb := B.bytes
  have hr := B.returns
  have hg : ∀ w ∈ bgT, w.before _ s = true := fun w h => atoms_spec (ws := (Cond.code y_fholders prog_9_method_16_code 3 (some .int) :: bgT)) B.pre w (List.mem_cons_of_mem _ h)
  have hown : s.vm.findClass "LoanDeskModel" = some m.cls := findClass_of_methodNamed B.named
  have hlocks := B.notSynchronized
  subst hsz
  have hD := hD0.self (sz := s.heap.size)
  generalize hAe : va_A (ld_oW f fo ++ ld_bW f cI fb ++ ld_eW f cI cZ fe ++ ld_sW f cI cZ fs) s.heap.size = A at hD ⊢
  have hA : ∀ q : Nat, s.heap.size ≤ q → A q := fun q h => by rw [← hAe]; exact Or.inr h
  have hS : va_S A s.heap s.heap [] := va_S.rf
  have hl := lv_entry ([.ref (f 0), .int p0, .int p1]) (n := 3) (Nat.le_of_ble_eq_true rfl)
  rw [lg_entry_eq]
  generalize (lg_sl ([.ref (f 0), .int p0, .int p1]) ++ List.replicate (3 - (lg_sl ([.ref (f 0), .int p0, .int p1])).length) Slot.unset).toArray = ls at hl ⊢
  have hl : lv_has ls 3 [(0, .ref (f 0)), (1, .int p0), (2, .int p1)] := hl
  refine lv_aload_n hx hb d_fholders_0 rfl (lv_at hl 0 rfl) ?_
  obtain ⟨r_1, e_1, h⟩ := ld_ob h
  refine ld_mv (wr := ([] : List Nat).filterMap (fun i => (ld_oW f fo ++ ld_bW f cI fb ++ ld_eW f cI cZ fe ++ ld_sW f cI cZ fs)[i]?)) (ws2 := ld_oW f r_1.1 ++ ld_bW f cI fb ++ ld_eW f cI cZ r_1.2.1 ++ ld_sW f cI cZ r_1.2.2) (va_runV (As := []) (rest := []) ⟨hx, hb, hml, hown, hg⟩ (lc_flearn l D cI cZ cJ f fo fb fe fs _ N r_1 e_1) ⟨callB_of 0 hg (ld_gd k_418) rfl rfl rfl (hg _ k_30) (hg _ k_416) hd_flearn ⟨Nat.le_of_ble_eq_true rfl, Nat.le_of_ble_eq_true rfl⟩, hg _ k_417, hg _ k_12⟩ (ld_preMV hP hK hN hD [0, 1, 2, 3, 4, 5, 6, 7, 8, 9, 10, 11] (by decide) rfl 7 0 rfl rfl) rfl rfl hl.1 rfl (lv_room (Nat.le_of_ble_eq_true rfl)) d_fholders_1 ⟨Nat.zero_le _, Nat.zero_le _⟩) hP hD hS hA [0, 1, 2, 3, 4, 5, 6, 7, 8, 9, 10, 11] [] [0, 1, 2, 3, 4, 5, 6, 7, 8, 9, 10, 11] rfl rfl (by decide) (by decide) (by decide) rfl (fun H locs hP hD hS => ?_)
  refine lv_aload_n hx hb d_fholders_4 rfl (lv_at hl 0 rfl) ?_
  refine lv_iload_n hx hb d_fholders_5 rfl (lv_at hl 1 rfl) ?_
  obtain ⟨r_2, e_2, h⟩ := ld_nm h
  refine ld_rd (W.runV (As := [.int p0]) (rest := []) ⟨hx, hb, hml, hown, hg⟩ (lc_fIsPoint l D cI cZ cJ f r_1.1 p0 r_2 e_2) ⟨callB_of 1 hg (ld_gd k_427) rfl rfl rfl (hg _ k_30) (hg _ k_425) hd_fIsPoint ⟨Nat.le_of_ble_eq_true rfl, Nat.le_of_ble_eq_true rfl⟩, hg _ k_426, hg _ k_15⟩ (ld_preRV hP hK hN [0] rfl 7 0 rfl rfl) rfl rfl hl.1 rfl (lv_room (Nat.le_of_ble_eq_true rfl)) d_fholders_6 ⟨Nat.zero_le _, Nat.zero_le _⟩) ?_
  refine lv_if_eq (tgt := 34) hx hb d_fholders_9 (by decide) (fun c_3 => ?_) (fun c_3 => ?_)
  · have h := (if_pos c_3).symm.trans h
    refine lv_iconst (v := 0) hx hb d_fholders_34 (by decide) ?_
    have h := Option.some.inj h
    subst h
    exact W.iret (v := 0) hx hb hr (fun t ht hW => ⟨⟨_, (), rfl, rfl, by rw [ht]; exact hP, hD⟩, hS.F ht⟩) hS.2.2 d_fholders_35
  · have h := (if_neg c_3).symm.trans h
    refine lv_aload_n hx hb d_fholders_12 rfl (lv_at hl 0 rfl) ?_
    refine lv_iload_n hx hb d_fholders_13 rfl (lv_at hl 2 rfl) ?_
    obtain ⟨r_4, e_4, h⟩ := ld_nm h
    refine ld_rd (W.runV (As := [.int p1]) (rest := []) ⟨hx, hb, hml, hown, hg⟩ (lc_fIsPoint l D cI cZ cJ f r_1.1 p1 r_4 e_4) ⟨callB_of 1 hg (ld_gd k_427) rfl rfl rfl (hg _ k_30) (hg _ k_425) hd_fIsPoint ⟨Nat.le_of_ble_eq_true rfl, Nat.le_of_ble_eq_true rfl⟩, hg _ k_426, hg _ k_15⟩ (ld_preRV hP hK hN [0] rfl 7 0 rfl rfl) rfl rfl hl.1 rfl (lv_room (Nat.le_of_ble_eq_true rfl)) d_fholders_14 ⟨Nat.zero_le _, Nat.zero_le _⟩) ?_
    refine lv_if_eq (tgt := 34) hx hb d_fholders_17 (by decide) (fun c_5 => ?_) (fun c_5 => ?_)
    · have h := (if_pos c_5).symm.trans h
      refine lv_iconst (v := 0) hx hb d_fholders_34 (by decide) ?_
      have h := Option.some.inj h
      subst h
      exact W.iret (v := 0) hx hb hr (fun t ht hW => ⟨⟨_, (), rfl, rfl, by rw [ht]; exact hP, hD⟩, hS.F ht⟩) hS.2.2 d_fholders_35
    · have h := (if_neg c_5).symm.trans h
      refine lv_aload_n hx hb d_fholders_20 rfl (lv_at hl 0 rfl) ?_
      refine va_get (D := D) (ci := 7) (v := .ref (f 9)) (C := "LoanDeskModel") (T := T_Ref) (N := 14) hx hb hg u_Ref hown hK hP 0 rfl rfl 10 (by decide) (hg _ k_380) (fun _ h9 => h9) rfl d_fholders_21 ?_
      refine lv_bipush (v := 120) hx hb d_fholders_24 (by decide) ?_
      refine lv_iload_n hx hb d_fholders_26 rfl (lv_at hl 2 rfl) ?_
      refine lv_imul hx hb d_fholders_27 ?_
      refine lv_iload_n hx hb d_fholders_28 rfl (lv_at hl 1 rfl) ?_
      refine lv_iadd hx hb d_fholders_29 ?_
      obtain ⟨i_6, h⟩ := ld_grd h
      refine va_iald hx hb hK hP 9 0 rfl rfl (i := (120 * p1) + p0) i_6 d_fholders_30 ?_
      refine lv_goto (tgt := 35) hx hb d_fholders_31 (by decide) ?_
      have h := Option.some.inj h
      subst h
      exact W.iret (v := r_1.2.1.2.2 ((120 * p1) + p0).toNatClampNeg) hx hb hr (fun t ht hW => ⟨⟨_, (), rfl, rfl, by rw [ht]; exact hP, hD⟩, hS.F ht⟩) hS.2.2 d_fholders_35
def lm_fused (N : Nat) (fo : Int32 × Int32 × Int32) (fb : ld_bT) (fe : ld_eT) (fs : ld_sT) (p0 : Int32) : Option (Int32 × (Int32 × Int32 × Int32) × ld_eT × ld_sT) := Option.bind (lm_flearn N fo fb fe fs) (fun r_1 => ld_lt (lf_fIsPoint r_1.1 p0) (fun r_2 => if r_2 = 0 then some (0, r_1.1, r_1.2.1, r_1.2.2) else if ld_in p0 120 = true then (some (r_1.2.1.2.1 p0.toNatClampNeg, r_1.1, r_1.2.1, r_1.2.2)) else none))
set_option maxHeartbeats 4000000 in
set_option maxRecDepth 100000 in
theorem lc_fused (l : Launch) (D : va_G) (cI cZ cJ : ClassId) (f : Nat → Nat) (fo : Int32 × Int32 × Int32) (fb : ld_bT) (fe : ld_eT) (fs : ld_sT) (p0 : Int32) (sz : Nat) (N : Nat) (R : Int32 × (Int32 × Int32 × Int32) × ld_eT × ld_sT) (h : lm_fused N fo fb fe fs p0 = some R) : Met l y_fused (Cond.code y_fused prog_9_method_17_code 2 (some .int) :: bgT) ({ frames := 5, cells := 0, slots := 0, locals := 110 }) (ld_PM D cI cZ cJ (ld_oW f fo ++ ld_bW f cI fb ++ ld_eW f cI cZ fe ++ ld_sW f cI cZ fs) sz [.ref (f 0), .int p0]) (ld_QI D (ld_oW f R.2.1 ++ ld_bW f cI fb ++ ld_eW f cI cZ R.2.2.1 ++ ld_sW f cI cZ R.2.2.2) (va_A (ld_oW f fo ++ ld_bW f cI fb ++ ld_eW f cI cZ fe ++ ld_sW f cI cZ fs) sz) R.1) 0 0 ((va_A (ld_oW f fo ++ ld_bW f cI fb ++ ld_eW f cI cZ fe ++ ld_sW f cI cZ fs) sz)) := by
  refine Met.ofW (cc := prog_9_method_17_code) (maxL := 2) (ret := (some .int)) (by decide) rfl ?_
  intro p e s m args below meth c s₁ B hml hv
  obtain ⟨rfl, hsz, hP, hK, hD0, hN⟩ := hv
  have hx := B.exec
  have hb := B.bytes
  have hr := B.returns
  have hg : ∀ w ∈ bgT, w.before _ s = true := fun w h => atoms_spec (ws := (Cond.code y_fused prog_9_method_17_code 2 (some .int) :: bgT)) B.pre w (List.mem_cons_of_mem _ h)
  have hown : s.vm.findClass "LoanDeskModel" = some m.cls := findClass_of_methodNamed B.named
  have hlocks := B.notSynchronized
  subst hsz
  have hD := hD0.self (sz := s.heap.size)
  generalize hAe : va_A (ld_oW f fo ++ ld_bW f cI fb ++ ld_eW f cI cZ fe ++ ld_sW f cI cZ fs) s.heap.size = A at hD ⊢
  have hA : ∀ q : Nat, s.heap.size ≤ q → A q := fun q h => by rw [← hAe]; exact Or.inr h
  have hS : va_S A s.heap s.heap [] := va_S.rf
  have hl := lv_entry ([.ref (f 0), .int p0]) (n := 2) (Nat.le_of_ble_eq_true rfl)
  rw [lg_entry_eq]
  generalize (lg_sl ([.ref (f 0), .int p0]) ++ List.replicate (2 - (lg_sl ([.ref (f 0), .int p0])).length) Slot.unset).toArray = ls at hl ⊢
  have hl : lv_has ls 2 [(0, .ref (f 0)), (1, .int p0)] := hl
  refine lv_aload_n hx hb d_fused_0 rfl (lv_at hl 0 rfl) ?_
  obtain ⟨r_1, e_1, h⟩ := ld_ob h
  refine ld_mv (wr := ([] : List Nat).filterMap (fun i => (ld_oW f fo ++ ld_bW f cI fb ++ ld_eW f cI cZ fe ++ ld_sW f cI cZ fs)[i]?)) (ws2 := ld_oW f r_1.1 ++ ld_bW f cI fb ++ ld_eW f cI cZ r_1.2.1 ++ ld_sW f cI cZ r_1.2.2) (va_runV (As := []) (rest := []) ⟨hx, hb, hml, hown, hg⟩ (lc_flearn l D cI cZ cJ f fo fb fe fs _ N r_1 e_1) ⟨callB_of 0 hg (ld_gd k_418) rfl rfl rfl (hg _ k_30) (hg _ k_416) hd_flearn ⟨Nat.le_of_ble_eq_true rfl, Nat.le_of_ble_eq_true rfl⟩, hg _ k_417, hg _ k_12⟩ (ld_preMV hP hK hN hD [0, 1, 2, 3, 4, 5, 6, 7, 8, 9, 10, 11] (by decide) rfl 7 0 rfl rfl) rfl rfl hl.1 rfl (lv_room (Nat.le_of_ble_eq_true rfl)) d_fused_1 ⟨Nat.zero_le _, Nat.zero_le _⟩) hP hD hS hA [0, 1, 2, 3, 4, 5, 6, 7, 8, 9, 10, 11] [] [0, 1, 2, 3, 4, 5, 6, 7, 8, 9, 10, 11] rfl rfl (by decide) (by decide) (by decide) rfl (fun H locs hP hD hS => ?_)
  refine lv_aload_n hx hb d_fused_4 rfl (lv_at hl 0 rfl) ?_
  refine lv_iload_n hx hb d_fused_5 rfl (lv_at hl 1 rfl) ?_
  obtain ⟨r_2, e_2, h⟩ := ld_nm h
  refine ld_rd (W.runV (As := [.int p0]) (rest := []) ⟨hx, hb, hml, hown, hg⟩ (lc_fIsPoint l D cI cZ cJ f r_1.1 p0 r_2 e_2) ⟨callB_of 1 hg (ld_gd k_427) rfl rfl rfl (hg _ k_30) (hg _ k_425) hd_fIsPoint ⟨Nat.le_of_ble_eq_true rfl, Nat.le_of_ble_eq_true rfl⟩, hg _ k_426, hg _ k_15⟩ (ld_preRV hP hK hN [0] rfl 7 0 rfl rfl) rfl rfl hl.1 rfl (lv_room (Nat.le_of_ble_eq_true rfl)) d_fused_6 ⟨Nat.zero_le _, Nat.zero_le _⟩) ?_
  refine lv_if_eq (tgt := 21) hx hb d_fused_9 (by decide) (fun c_3 => ?_) (fun c_3 => ?_)
  · have h := (if_pos c_3).symm.trans h
    refine lv_iconst (v := 0) hx hb d_fused_21 (by decide) ?_
    have h := Option.some.inj h
    subst h
    exact W.iret (v := 0) hx hb hr (fun t ht hW => ⟨⟨_, (), rfl, rfl, by rw [ht]; exact hP, hD⟩, hS.F ht⟩) hS.2.2 d_fused_22
  · have h := (if_neg c_3).symm.trans h
    refine lv_aload_n hx hb d_fused_12 rfl (lv_at hl 0 rfl) ?_
    refine va_get (D := D) (ci := 7) (v := .ref (f 8)) (C := "LoanDeskModel") (T := T_Ref) (N := 14) hx hb hg u_Ref hown hK hP 0 rfl rfl 9 (by decide) (hg _ k_379) (fun _ h9 => h9) rfl d_fused_13 ?_
    refine lv_iload_n hx hb d_fused_16 rfl (lv_at hl 1 rfl) ?_
    obtain ⟨i_4, h⟩ := ld_grd h
    refine va_iald hx hb hK hP 8 0 rfl rfl (i := p0) i_4 d_fused_17 ?_
    refine lv_goto (tgt := 22) hx hb d_fused_18 (by decide) ?_
    have h := Option.some.inj h
    subst h
    exact W.iret (v := r_1.2.1.2.1 p0.toNatClampNeg) hx hb hr (fun t ht hW => ⟨⟨_, (), rfl, rfl, by rw [ht]; exact hP, hD⟩, hS.F ht⟩) hS.2.2 d_fused_22
def lm_fIsAlive (N : Nat) (fo : Int32 × Int32 × Int32) (fb : ld_bT) (fe : ld_eT) (fs : ld_sT) (p0 : Int32) (p1 : Int32) : Option (Int32 × (Int32 × Int32 × Int32) × ld_eT × ld_sT) := Option.bind (lm_fholders N fo fb fe fs p0 p1) (fun r_1 => Option.bind (lm_fused N r_1.2.1 fb r_1.2.2.1 r_1.2.2.2 p0) (fun r_2 => if (r_1.1 &&& r_2.1) = 0 then some (0, r_2.2.1, r_2.2.2.1, r_2.2.2.2) else some (1, r_2.2.1, r_2.2.2.1, r_2.2.2.2)))
set_option maxHeartbeats 4000000 in
set_option maxRecDepth 100000 in
theorem lc_fIsAlive (l : Launch) (D : va_G) (cI cZ cJ : ClassId) (f : Nat → Nat) (fo : Int32 × Int32 × Int32) (fb : ld_bT) (fe : ld_eT) (fs : ld_sT) (p0 : Int32) (p1 : Int32) (sz : Nat) (N : Nat) (R : Int32 × (Int32 × Int32 × Int32) × ld_eT × ld_sT) (h : lm_fIsAlive N fo fb fe fs p0 p1 = some R) : Met l y_fIsAlive (Cond.code y_fIsAlive prog_9_method_18_code 3 (some .boolean) :: bgT) ({ frames := 6, cells := 0, slots := 0, locals := 132 }) (ld_PM D cI cZ cJ (ld_oW f fo ++ ld_bW f cI fb ++ ld_eW f cI cZ fe ++ ld_sW f cI cZ fs) sz [.ref (f 0), .int p0, .int p1]) (ld_QI D (ld_oW f R.2.1 ++ ld_bW f cI fb ++ ld_eW f cI cZ R.2.2.1 ++ ld_sW f cI cZ R.2.2.2) (va_A (ld_oW f fo ++ ld_bW f cI fb ++ ld_eW f cI cZ fe ++ ld_sW f cI cZ fs) sz) R.1) 0 0 ((va_A (ld_oW f fo ++ ld_bW f cI fb ++ ld_eW f cI cZ fe ++ ld_sW f cI cZ fs) sz)) := by
  refine Met.ofW (cc := prog_9_method_18_code) (maxL := 3) (ret := (some .boolean)) (by decide) rfl ?_
  intro p e s m args below meth c s₁ B hml hv
  obtain ⟨rfl, hsz, hP, hK, hD0, hN⟩ := hv
  have hx := B.exec
  have hb := B.bytes
  have hr := B.returns
  have hg : ∀ w ∈ bgT, w.before _ s = true := fun w h => atoms_spec (ws := (Cond.code y_fIsAlive prog_9_method_18_code 3 (some .boolean) :: bgT)) B.pre w (List.mem_cons_of_mem _ h)
  have hown : s.vm.findClass "LoanDeskModel" = some m.cls := findClass_of_methodNamed B.named
  have hlocks := B.notSynchronized
  subst hsz
  have hD := hD0.self (sz := s.heap.size)
  generalize hAe : va_A (ld_oW f fo ++ ld_bW f cI fb ++ ld_eW f cI cZ fe ++ ld_sW f cI cZ fs) s.heap.size = A at hD ⊢
  have hA : ∀ q : Nat, s.heap.size ≤ q → A q := fun q h => by rw [← hAe]; exact Or.inr h
  have hS : va_S A s.heap s.heap [] := va_S.rf
  have hl := lv_entry ([.ref (f 0), .int p0, .int p1]) (n := 3) (Nat.le_of_ble_eq_true rfl)
  rw [lg_entry_eq]
  generalize (lg_sl ([.ref (f 0), .int p0, .int p1]) ++ List.replicate (3 - (lg_sl ([.ref (f 0), .int p0, .int p1])).length) Slot.unset).toArray = ls at hl ⊢
  have hl : lv_has ls 3 [(0, .ref (f 0)), (1, .int p0), (2, .int p1)] := hl
  refine lv_aload_n hx hb d_fIsAlive_0 rfl (lv_at hl 0 rfl) ?_
  refine lv_iload_n hx hb d_fIsAlive_1 rfl (lv_at hl 1 rfl) ?_
  refine lv_iload_n hx hb d_fIsAlive_2 rfl (lv_at hl 2 rfl) ?_
  obtain ⟨r_1, e_1, h⟩ := ld_ob h
  refine ld_mi (wr := ([] : List Nat).filterMap (fun i => (ld_oW f fo ++ ld_bW f cI fb ++ ld_eW f cI cZ fe ++ ld_sW f cI cZ fs)[i]?)) (ws2 := ld_oW f r_1.2.1 ++ ld_bW f cI fb ++ ld_eW f cI cZ r_1.2.2.1 ++ ld_sW f cI cZ r_1.2.2.2) (va_runV (As := [.int p0, .int p1]) (rest := []) ⟨hx, hb, hml, hown, hg⟩ (lc_fholders l D cI cZ cJ f fo fb fe fs p0 p1 _ N r_1 e_1) ⟨callB_of 2 hg (ld_gd k_446) rfl rfl rfl (hg _ k_30) (hg _ k_455) hd_fholders ⟨Nat.le_of_ble_eq_true rfl, Nat.le_of_ble_eq_true rfl⟩, hg _ k_444, hg _ k_445⟩ (ld_preMV hP hK hN hD [0, 1, 2, 3, 4, 5, 6, 7, 8, 9, 10, 11] (by decide) rfl 7 0 rfl rfl) rfl rfl hl.1 rfl (lv_room (Nat.le_of_ble_eq_true rfl)) d_fIsAlive_3 ⟨Nat.zero_le _, Nat.zero_le _⟩) hP hD hS hA [0, 1, 2, 3, 4, 5, 6, 7, 8, 9, 10, 11] [] [0, 1, 2, 3, 4, 5, 6, 7, 8, 9, 10, 11] rfl rfl (by decide) (by decide) (by decide) rfl (fun H locs hP hD hS => ?_)
  refine lv_aload_n hx hb d_fIsAlive_6 rfl (lv_at hl 0 rfl) ?_
  refine lv_iload_n hx hb d_fIsAlive_7 rfl (lv_at hl 1 rfl) ?_
  obtain ⟨r_2, e_2, h⟩ := ld_ob h
  refine ld_mi (wr := ([] : List Nat).filterMap (fun i => (ld_oW f r_1.2.1 ++ ld_bW f cI fb ++ ld_eW f cI cZ r_1.2.2.1 ++ ld_sW f cI cZ r_1.2.2.2)[i]?)) (ws2 := ld_oW f r_2.2.1 ++ ld_bW f cI fb ++ ld_eW f cI cZ r_2.2.2.1 ++ ld_sW f cI cZ r_2.2.2.2) (va_runV (As := [.int p0]) (rest := [.int r_1.1]) ⟨hx, hb, hml, hown, hg⟩ (lc_fused l D cI cZ cJ f r_1.2.1 fb r_1.2.2.1 r_1.2.2.2 p0 _ N r_2 e_2) ⟨callB_of 1 hg (ld_gd k_450) rfl rfl rfl (hg _ k_30) (hg _ k_456) hd_fused ⟨Nat.le_of_ble_eq_true rfl, Nat.le_of_ble_eq_true rfl⟩, hg _ k_448, hg _ k_449⟩ (ld_preMV hP hK hN hD [0, 1, 2, 3, 4, 5, 6, 7, 8, 9, 10, 11] (by decide) rfl 7 0 rfl rfl) rfl rfl hl.1 rfl (lv_room (Nat.le_of_ble_eq_true rfl)) d_fIsAlive_8 ⟨Nat.zero_le _, Nat.zero_le _⟩) hP hD hS hA [0, 1, 2, 3, 4, 5, 6, 7, 8, 9, 10, 11] [] [0, 1, 2, 3, 4, 5, 6, 7, 8, 9, 10, 11] rfl rfl (by decide) (by decide) (by decide) rfl (fun H locs hP hD hS => ?_)
  refine lv_iand hx hb d_fIsAlive_11 ?_
  refine lv_if_eq (tgt := 19) hx hb d_fIsAlive_12 (by decide) (fun c_3 => ?_) (fun c_3 => ?_)
  · have h := (if_pos c_3).symm.trans h
    refine lv_iconst (v := 0) hx hb d_fIsAlive_19 (by decide) ?_
    have h := Option.some.inj h
    subst h
    exact W.zret (v := 0) hx hb hr rfl (fun t ht hW => ⟨⟨_, (), rfl, rfl, by rw [ht]; exact hP, hD⟩, hS.F ht⟩) hS.2.2 d_fIsAlive_20
  · have h := (if_neg c_3).symm.trans h
    refine lv_iconst (v := 1) hx hb d_fIsAlive_15 (by decide) ?_
    refine lv_goto (tgt := 20) hx hb d_fIsAlive_16 (by decide) ?_
    have h := Option.some.inj h
    subst h
    exact W.zret (v := 1) hx hb hr rfl (fun t ht hW => ⟨⟨_, (), rfl, rfl, by rw [ht]; exact hP, hD⟩, hS.F ht⟩) hS.2.2 d_fIsAlive_20
def lm_fmeets (N : Nat) (fo : Int32 × Int32 × Int32) (fb : ld_bT) (fe : ld_eT) (fs : ld_sT) (p0 : Int32) (p1 : Int32) : Option (Int32 × (Int32 × Int32 × Int32) × ld_eT × ld_sT) := Option.bind (lm_fIsReached N fo fb fe fs p0) (fun r_1 => if r_1.1 = 0 then some (0, r_1.2.1, r_1.2.2.1, r_1.2.2.2) else if ld_in p0 120 = true then (if (fb.1 p0.toNatClampNeg) = 1 then (if ld_in p1 120 = true then (if (fb.1 p1.toNatClampNeg) = 1 then (Option.bind (lm_fIsAlive N r_1.2.1 fb r_1.2.2.1 r_1.2.2.2 p0 p1) (fun r_7 => if r_7.1 = 0 then some (0, r_7.2.1, r_7.2.2.1, r_7.2.2.2) else Option.bind (lm_foverlap N (fb.2.2.1 p0.toNatClampNeg) (fb.2.2.1 p1.toNatClampNeg)) (fun r_9 => if r_9 = 0 then some (0, r_7.2.1, r_7.2.2.1, r_7.2.2.2) else if (fb.1 p0.toNatClampNeg) = 6 then (if (fb.1 p0.toNatClampNeg) = 1 then (Option.bind (lm_fholders N r_7.2.1 fb r_7.2.2.1 r_7.2.2.2 p0 p1) (fun r_15 => Option.bind (lm_fused N r_15.2.1 fb r_15.2.2.1 r_15.2.2.2 p0) (fun r_16 => if (r_15.1 &&& r_16.1) = ((1 : Int32) <<< ((fb.2.1 p0.toNatClampNeg) &&& 31)) then some (0, r_16.2.1, r_16.2.2.1, r_16.2.2.2) else some (1, r_16.2.1, r_16.2.2.1, r_16.2.2.2)))) else some (1, r_7.2.1, r_7.2.2.1, r_7.2.2.2)) else if (fb.1 p0.toNatClampNeg) = 1 then (if (fb.2.2.2.1 p0.toNatClampNeg) = 1 then (if (fb.1 p0.toNatClampNeg) = 1 then (Option.bind (lm_fholders N r_7.2.1 fb r_7.2.2.1 r_7.2.2.2 p0 p1) (fun r_53 => Option.bind (lm_fused N r_53.2.1 fb r_53.2.2.1 r_53.2.2.2 p0) (fun r_54 => if (r_53.1 &&& r_54.1) = ((1 : Int32) <<< ((fb.2.1 p0.toNatClampNeg) &&& 31)) then some (0, r_54.2.1, r_54.2.2.1, r_54.2.2.2) else some (1, r_54.2.1, r_54.2.2.1, r_54.2.2.2)))) else some (1, r_7.2.1, r_7.2.2.1, r_7.2.2.2)) else if (fb.1 p0.toNatClampNeg) = 1 then (Option.bind (lm_fholders N r_7.2.1 fb r_7.2.2.1 r_7.2.2.2 p0 p1) (fun r_41 => Option.bind (lm_fused N r_41.2.1 fb r_41.2.2.1 r_41.2.2.2 p0) (fun r_42 => if (r_41.1 &&& r_42.1) = ((1 : Int32) <<< ((fb.2.1 p0.toNatClampNeg) &&& 31)) then if (fb.2.2.2.1 p1.toNatClampNeg) = 1 then some (0, r_42.2.1, r_42.2.2.1, r_42.2.2.2) else some (0, r_42.2.1, r_42.2.2.1, r_42.2.2.2) else if (fb.2.2.2.1 p1.toNatClampNeg) = 1 then some (1, r_42.2.1, r_42.2.2.1, r_42.2.2.2) else some (0, r_42.2.1, r_42.2.2.1, r_42.2.2.2)))) else if (fb.2.2.2.1 p1.toNatClampNeg) = 1 then some (1, r_7.2.1, r_7.2.2.1, r_7.2.2.2) else some (0, r_7.2.1, r_7.2.2.1, r_7.2.2.2)) else if (fb.1 p0.toNatClampNeg) = 1 then (Option.bind (lm_fholders N r_7.2.1 fb r_7.2.2.1 r_7.2.2.2 p0 p1) (fun r_27 => Option.bind (lm_fused N r_27.2.1 fb r_27.2.2.1 r_27.2.2.2 p0) (fun r_28 => if (r_27.1 &&& r_28.1) = ((1 : Int32) <<< ((fb.2.1 p0.toNatClampNeg) &&& 31)) then if (fb.2.2.2.1 p1.toNatClampNeg) = 1 then some (0, r_28.2.1, r_28.2.2.1, r_28.2.2.2) else some (0, r_28.2.1, r_28.2.2.1, r_28.2.2.2) else if (fb.2.2.2.1 p1.toNatClampNeg) = 1 then some (1, r_28.2.1, r_28.2.2.1, r_28.2.2.2) else some (0, r_28.2.1, r_28.2.2.1, r_28.2.2.2)))) else if (fb.2.2.2.1 p1.toNatClampNeg) = 1 then some (1, r_7.2.1, r_7.2.2.1, r_7.2.2.2) else some (0, r_7.2.1, r_7.2.2.1, r_7.2.2.2)))) else some (0, r_1.2.1, r_1.2.2.1, r_1.2.2.2)) else none) else if (fb.1 p0.toNatClampNeg) < 5 then some (0, r_1.2.1, r_1.2.2.1, r_1.2.2.2) else if ld_in p1 120 = true then (if (fb.1 p1.toNatClampNeg) = 1 then (Option.bind (lm_fIsAlive N r_1.2.1 fb r_1.2.2.1 r_1.2.2.2 p0 p1) (fun r_63 => if r_63.1 = 0 then some (0, r_63.2.1, r_63.2.2.1, r_63.2.2.2) else Option.bind (lm_foverlap N (fb.2.2.1 p0.toNatClampNeg) (fb.2.2.1 p1.toNatClampNeg)) (fun r_65 => if r_65 = 0 then some (0, r_63.2.1, r_63.2.2.1, r_63.2.2.2) else if (fb.1 p0.toNatClampNeg) = 6 then (if (fb.1 p0.toNatClampNeg) = 1 then (Option.bind (lm_fholders N r_63.2.1 fb r_63.2.2.1 r_63.2.2.2 p0 p1) (fun r_71 => Option.bind (lm_fused N r_71.2.1 fb r_71.2.2.1 r_71.2.2.2 p0) (fun r_72 => if (r_71.1 &&& r_72.1) = ((1 : Int32) <<< ((fb.2.1 p0.toNatClampNeg) &&& 31)) then some (0, r_72.2.1, r_72.2.2.1, r_72.2.2.2) else some (1, r_72.2.1, r_72.2.2.1, r_72.2.2.2)))) else some (1, r_63.2.1, r_63.2.2.1, r_63.2.2.2)) else if (fb.1 p0.toNatClampNeg) = 1 then (if (fb.2.2.2.1 p0.toNatClampNeg) = 1 then (if (fb.1 p0.toNatClampNeg) = 1 then (Option.bind (lm_fholders N r_63.2.1 fb r_63.2.2.1 r_63.2.2.2 p0 p1) (fun r_109 => Option.bind (lm_fused N r_109.2.1 fb r_109.2.2.1 r_109.2.2.2 p0) (fun r_110 => if (r_109.1 &&& r_110.1) = ((1 : Int32) <<< ((fb.2.1 p0.toNatClampNeg) &&& 31)) then some (0, r_110.2.1, r_110.2.2.1, r_110.2.2.2) else some (1, r_110.2.1, r_110.2.2.1, r_110.2.2.2)))) else some (1, r_63.2.1, r_63.2.2.1, r_63.2.2.2)) else if (fb.1 p0.toNatClampNeg) = 1 then (Option.bind (lm_fholders N r_63.2.1 fb r_63.2.2.1 r_63.2.2.2 p0 p1) (fun r_97 => Option.bind (lm_fused N r_97.2.1 fb r_97.2.2.1 r_97.2.2.2 p0) (fun r_98 => if (r_97.1 &&& r_98.1) = ((1 : Int32) <<< ((fb.2.1 p0.toNatClampNeg) &&& 31)) then if (fb.2.2.2.1 p1.toNatClampNeg) = 1 then some (0, r_98.2.1, r_98.2.2.1, r_98.2.2.2) else some (0, r_98.2.1, r_98.2.2.1, r_98.2.2.2) else if (fb.2.2.2.1 p1.toNatClampNeg) = 1 then some (1, r_98.2.1, r_98.2.2.1, r_98.2.2.2) else some (0, r_98.2.1, r_98.2.2.1, r_98.2.2.2)))) else if (fb.2.2.2.1 p1.toNatClampNeg) = 1 then some (1, r_63.2.1, r_63.2.2.1, r_63.2.2.2) else some (0, r_63.2.1, r_63.2.2.1, r_63.2.2.2)) else if (fb.1 p0.toNatClampNeg) = 1 then (Option.bind (lm_fholders N r_63.2.1 fb r_63.2.2.1 r_63.2.2.2 p0 p1) (fun r_83 => Option.bind (lm_fused N r_83.2.1 fb r_83.2.2.1 r_83.2.2.2 p0) (fun r_84 => if (r_83.1 &&& r_84.1) = ((1 : Int32) <<< ((fb.2.1 p0.toNatClampNeg) &&& 31)) then if (fb.2.2.2.1 p1.toNatClampNeg) = 1 then some (0, r_84.2.1, r_84.2.2.1, r_84.2.2.2) else some (0, r_84.2.1, r_84.2.2.1, r_84.2.2.2) else if (fb.2.2.2.1 p1.toNatClampNeg) = 1 then some (1, r_84.2.1, r_84.2.2.1, r_84.2.2.2) else some (0, r_84.2.1, r_84.2.2.1, r_84.2.2.2)))) else if (fb.2.2.2.1 p1.toNatClampNeg) = 1 then some (1, r_63.2.1, r_63.2.2.1, r_63.2.2.2) else some (0, r_63.2.1, r_63.2.2.1, r_63.2.2.2)))) else some (0, r_1.2.1, r_1.2.2.1, r_1.2.2.2)) else none) else none)
set_option maxHeartbeats 4000000 in
set_option maxRecDepth 100000 in
theorem lc_fmeets (l : Launch) (D : va_G) (cI cZ cJ : ClassId) (f : Nat → Nat) (fo : Int32 × Int32 × Int32) (fb : ld_bT) (fe : ld_eT) (fs : ld_sT) (p0 : Int32) (p1 : Int32) (sz : Nat) (N : Nat) (R : Int32 × (Int32 × Int32 × Int32) × ld_eT × ld_sT) (h : lm_fmeets N fo fb fe fs p0 p1 = some R) : Met l y_fmeets (Cond.code y_fmeets prog_9_method_20_code 5 (some .boolean) :: bgT) ({ frames := 7, cells := 0, slots := 0, locals := 154 }) (ld_PM D cI cZ cJ (ld_oW f fo ++ ld_bW f cI fb ++ ld_eW f cI cZ fe ++ ld_sW f cI cZ fs) sz [.ref (f 0), .int p0, .int p1]) (ld_QI D (ld_oW f R.2.1 ++ ld_bW f cI fb ++ ld_eW f cI cZ R.2.2.1 ++ ld_sW f cI cZ R.2.2.2) (va_A (ld_oW f fo ++ ld_bW f cI fb ++ ld_eW f cI cZ fe ++ ld_sW f cI cZ fs) sz) R.1) 0 0 ((va_A (ld_oW f fo ++ ld_bW f cI fb ++ ld_eW f cI cZ fe ++ ld_sW f cI cZ fs) sz)) := by
  refine Met.ofW (cc := prog_9_method_20_code) (maxL := 5) (ret := (some .boolean)) (by decide) rfl ?_
  intro p e s m args below meth c s₁ B hml hv
  obtain ⟨rfl, hsz, hP, hK, hD0, hN⟩ := hv
  have hx := B.exec
  have hb := B.bytes
  have hr := B.returns
  have hg : ∀ w ∈ bgT, w.before _ s = true := fun w h => atoms_spec (ws := (Cond.code y_fmeets prog_9_method_20_code 5 (some .boolean) :: bgT)) B.pre w (List.mem_cons_of_mem _ h)
  have hown : s.vm.findClass "LoanDeskModel" = some m.cls := findClass_of_methodNamed B.named
  have hlocks := B.notSynchronized
  subst hsz
  have hD := hD0.self (sz := s.heap.size)
  generalize hAe : va_A (ld_oW f fo ++ ld_bW f cI fb ++ ld_eW f cI cZ fe ++ ld_sW f cI cZ fs) s.heap.size = A at hD ⊢
  have hA : ∀ q : Nat, s.heap.size ≤ q → A q := fun q h => by rw [← hAe]; exact Or.inr h
  have hS : va_S A s.heap s.heap [] := va_S.rf
  have hl := lv_entry ([.ref (f 0), .int p0, .int p1]) (n := 5) (Nat.le_of_ble_eq_true rfl)
  rw [lg_entry_eq]
  generalize (lg_sl ([.ref (f 0), .int p0, .int p1]) ++ List.replicate (5 - (lg_sl ([.ref (f 0), .int p0, .int p1])).length) Slot.unset).toArray = ls at hl ⊢
  have hl : lv_has ls 5 [(0, .ref (f 0)), (1, .int p0), (2, .int p1)] := hl
  refine lv_aload_n hx hb d_fmeets_0 rfl (lv_at hl 0 rfl) ?_
  refine lv_iload_n hx hb d_fmeets_1 rfl (lv_at hl 1 rfl) ?_
  obtain ⟨r_1, e_1, h⟩ := ld_ob h
  refine ld_mi (wr := ([] : List Nat).filterMap (fun i => (ld_oW f fo ++ ld_bW f cI fb ++ ld_eW f cI cZ fe ++ ld_sW f cI cZ fs)[i]?)) (ws2 := ld_oW f r_1.2.1 ++ ld_bW f cI fb ++ ld_eW f cI cZ r_1.2.2.1 ++ ld_sW f cI cZ r_1.2.2.2) (va_runV (As := [.int p0]) (rest := []) ⟨hx, hb, hml, hown, hg⟩ (lc_fIsReached l D cI cZ cJ f fo fb fe fs p0 _ N r_1 e_1) ⟨callB_of 1 hg (ld_gd k_415) rfl rfl rfl (hg _ k_30) (hg _ k_464) hd_fIsReached ⟨Nat.le_of_ble_eq_true rfl, Nat.le_of_ble_eq_true rfl⟩, hg _ k_413, hg _ k_414⟩ (ld_preMV hP hK hN hD [0, 1, 2, 3, 4, 5, 6, 7, 8, 9, 10, 11] (by decide) rfl 7 0 rfl rfl) rfl rfl hl.1 rfl (lv_room (Nat.le_of_ble_eq_true rfl)) d_fmeets_2 ⟨Nat.zero_le _, Nat.zero_le _⟩) hP hD hS hA [0, 1, 2, 3, 4, 5, 6, 7, 8, 9, 10, 11] [] [0, 1, 2, 3, 4, 5, 6, 7, 8, 9, 10, 11] rfl rfl (by decide) (by decide) (by decide) rfl (fun H locs hP hD hS => ?_)
  refine lv_if_eq (tgt := 65) hx hb d_fmeets_5 (by decide) (fun c_2 => ?_) (fun c_2 => ?_)
  · have h := (if_pos c_2).symm.trans h
    refine lv_iconst (v := 0) hx hb d_fmeets_65 (by decide) ?_
    have h := Option.some.inj h
    subst h
    exact W.zret (v := 0) hx hb hr rfl (fun t ht hW => ⟨⟨_, (), rfl, rfl, by rw [ht]; exact hP, hD⟩, hS.F ht⟩) hS.2.2 d_fmeets_66
  · have h := (if_neg c_2).symm.trans h
    refine lv_aload_n hx hb d_fmeets_8 rfl (lv_at hl 0 rfl) ?_
    refine va_get (D := D) (ci := 7) (v := .ref (f 1)) (C := "LoanDeskModel") (T := T_Ref) (N := 14) hx hb hg u_Ref hown hK hP 0 rfl rfl 1 (by decide) (hg _ k_371) (fun _ h9 => h9) rfl d_fmeets_9 ?_
    refine lv_iload_n hx hb d_fmeets_12 rfl (lv_at hl 1 rfl) ?_
    obtain ⟨i_3, h⟩ := ld_grd h
    refine va_iald hx hb hK hP 1 0 rfl rfl (i := p0) i_3 d_fmeets_13 ?_
    refine lv_iconst (v := 1) hx hb d_fmeets_14 (by decide) ?_
    refine lv_icmp_eq (tgt := 28) hx hb d_fmeets_15 (by decide) (fun c_4 => ?_) (fun c_4 => ?_)
    · have h := (if_pos c_4).symm.trans h
      refine lv_aload_n hx hb d_fmeets_28 rfl (lv_at hl 0 rfl) ?_
      refine va_get (D := D) (ci := 7) (v := .ref (f 1)) (C := "LoanDeskModel") (T := T_Ref) (N := 14) hx hb hg u_Ref hown hK hP 0 rfl rfl 1 (by decide) (hg _ k_371) (fun _ h9 => h9) rfl d_fmeets_29 ?_
      refine lv_iload_n hx hb d_fmeets_32 rfl (lv_at hl 2 rfl) ?_
      obtain ⟨i_5, h⟩ := ld_grd h
      refine va_iald hx hb hK hP 1 0 rfl rfl (i := p1) i_5 d_fmeets_33 ?_
      refine lv_iconst (v := 1) hx hb d_fmeets_34 (by decide) ?_
      refine lv_icmp_ne (tgt := 65) hx hb d_fmeets_35 (by decide) (fun c_6 => ?_) (fun c_6 => ?_)
      · have h := (if_neg c_6).symm.trans h
        refine lv_iconst (v := 0) hx hb d_fmeets_65 (by decide) ?_
        have h := Option.some.inj h
        subst h
        exact W.zret (v := 0) hx hb hr rfl (fun t ht hW => ⟨⟨_, (), rfl, rfl, by rw [ht]; exact hP, hD⟩, hS.F ht⟩) hS.2.2 d_fmeets_66
      · have h := (if_pos c_6).symm.trans h
        refine lv_aload_n hx hb d_fmeets_38 rfl (lv_at hl 0 rfl) ?_
        refine lv_iload_n hx hb d_fmeets_39 rfl (lv_at hl 1 rfl) ?_
        refine lv_iload_n hx hb d_fmeets_40 rfl (lv_at hl 2 rfl) ?_
        obtain ⟨r_7, e_7, h⟩ := ld_ob h
        refine ld_mi (wr := ([] : List Nat).filterMap (fun i => (ld_oW f r_1.2.1 ++ ld_bW f cI fb ++ ld_eW f cI cZ r_1.2.2.1 ++ ld_sW f cI cZ r_1.2.2.2)[i]?)) (ws2 := ld_oW f r_7.2.1 ++ ld_bW f cI fb ++ ld_eW f cI cZ r_7.2.2.1 ++ ld_sW f cI cZ r_7.2.2.2) (va_runV (As := [.int p0, .int p1]) (rest := []) ⟨hx, hb, hml, hown, hg⟩ (lc_fIsAlive l D cI cZ cJ f r_1.2.1 fb r_1.2.2.1 r_1.2.2.2 p0 p1 _ N r_7 e_7) ⟨callB_of 2 hg (ld_gd k_454) rfl rfl rfl (hg _ k_30) (hg _ k_465) hd_fIsAlive ⟨Nat.le_of_ble_eq_true rfl, Nat.le_of_ble_eq_true rfl⟩, hg _ k_452, hg _ k_453⟩ (ld_preMV hP hK hN hD [0, 1, 2, 3, 4, 5, 6, 7, 8, 9, 10, 11] (by decide) rfl 7 0 rfl rfl) rfl rfl hl.1 rfl (lv_room (Nat.le_of_ble_eq_true rfl)) d_fmeets_41 ⟨Nat.zero_le _, Nat.zero_le _⟩) hP hD hS hA [0, 1, 2, 3, 4, 5, 6, 7, 8, 9, 10, 11] [] [0, 1, 2, 3, 4, 5, 6, 7, 8, 9, 10, 11] rfl rfl (by decide) (by decide) (by decide) rfl (fun H locs hP hD hS => ?_)
        refine lv_if_eq (tgt := 65) hx hb d_fmeets_44 (by decide) (fun c_8 => ?_) (fun c_8 => ?_)
        · have h := (if_pos c_8).symm.trans h
          refine lv_iconst (v := 0) hx hb d_fmeets_65 (by decide) ?_
          have h := Option.some.inj h
          subst h
          exact W.zret (v := 0) hx hb hr rfl (fun t ht hW => ⟨⟨_, (), rfl, rfl, by rw [ht]; exact hP, hD⟩, hS.F ht⟩) hS.2.2 d_fmeets_66
        · have h := (if_neg c_8).symm.trans h
          refine lv_aload_n hx hb d_fmeets_47 rfl (lv_at hl 0 rfl) ?_
          refine va_get (D := D) (ci := 7) (v := .ref (f 3)) (C := "LoanDeskModel") (T := T_Ref) (N := 14) hx hb hg u_Ref hown hK hP 0 rfl rfl 3 (by decide) (hg _ k_373) (fun _ h9 => h9) rfl d_fmeets_48 ?_
          refine lv_iload_n hx hb d_fmeets_51 rfl (lv_at hl 1 rfl) ?_
          refine va_iald hx hb hK hP 3 0 rfl rfl (i := p0) i_3 d_fmeets_52 ?_
          refine lv_aload_n hx hb d_fmeets_53 rfl (lv_at hl 0 rfl) ?_
          refine va_get (D := D) (ci := 7) (v := .ref (f 3)) (C := "LoanDeskModel") (T := T_Ref) (N := 14) hx hb hg u_Ref hown hK hP 0 rfl rfl 3 (by decide) (hg _ k_373) (fun _ h9 => h9) rfl d_fmeets_54 ?_
          refine lv_iload_n hx hb d_fmeets_57 rfl (lv_at hl 2 rfl) ?_
          refine va_iald hx hb hK hP 3 0 rfl rfl (i := p1) i_5 d_fmeets_58 ?_
          obtain ⟨r_9, e_9, h⟩ := ld_ob h
          refine ld_rd (W.runS (As := [.int (fb.2.2.1 p0.toNatClampNeg), .int (fb.2.2.1 p1.toNatClampNeg)]) (rest := []) ⟨hx, hb, hml, hown, hg⟩ (lc_foverlap l D cI cZ cJ (fb.2.2.1 p0.toNatClampNeg) (fb.2.2.1 p1.toNatClampNeg) N r_9 e_9) ⟨callB_of 2 hg (ld_gd k_468) rfl rfl rfl (hg _ k_30) (hg _ k_466) hd_foverlap ⟨Nat.le_of_ble_eq_true rfl, Nat.le_of_ble_eq_true rfl⟩, hg _ k_467⟩ (ld_preR hP hK hN [] rfl) rfl rfl hl.1 rfl (lv_room (Nat.le_of_ble_eq_true rfl)) d_fmeets_59 ⟨Nat.zero_le _, Nat.zero_le _⟩) ?_
          refine lv_if_ne (tgt := 67) hx hb d_fmeets_62 (by decide) (fun c_10 => ?_) (fun c_10 => ?_)
          · have h := (if_neg c_10).symm.trans h
            refine lv_aload_n hx hb d_fmeets_67 rfl (lv_at hl 0 rfl) ?_
            refine va_get (D := D) (ci := 7) (v := .ref (f 1)) (C := "LoanDeskModel") (T := T_Ref) (N := 14) hx hb hg u_Ref hown hK hP 0 rfl rfl 1 (by decide) (hg _ k_371) (fun _ h9 => h9) rfl d_fmeets_68 ?_
            refine lv_iload_n hx hb d_fmeets_71 rfl (lv_at hl 1 rfl) ?_
            refine va_iald hx hb hK hP 1 0 rfl rfl (i := p0) i_3 d_fmeets_72 ?_
            refine lv_bipush (v := 6) hx hb d_fmeets_73 (by decide) ?_
            refine lv_icmp_eq (tgt := 98) hx hb d_fmeets_75 (by decide) (fun c_11 => ?_) (fun c_11 => ?_)
            · have h := (if_pos c_11).symm.trans h
              refine lv_iconst (v := 1) hx hb d_fmeets_98 (by decide) ?_
              refine lv_goto (tgt := 103) hx hb d_fmeets_99 (by decide) ?_
              refine lv_istore_n (lv' := [(3, .int 1), (0, .ref (f 0)), (1, .int p0), (2, .int p1)]) hx hb d_fmeets_103 rfl hl (by decide) rfl (fun ls hl => ?_)
              refine lv_aload_n hx hb d_fmeets_104 rfl (lv_at hl 1 rfl) ?_
              refine va_get (D := D) (ci := 7) (v := .ref (f 1)) (C := "LoanDeskModel") (T := T_Ref) (N := 14) hx hb hg u_Ref hown hK hP 0 rfl rfl 1 (by decide) (hg _ k_371) (fun _ h9 => h9) rfl d_fmeets_105 ?_
              refine lv_iload_n hx hb d_fmeets_108 rfl (lv_at hl 2 rfl) ?_
              refine va_iald hx hb hK hP 1 0 rfl rfl (i := p0) i_3 d_fmeets_109 ?_
              refine lv_iconst (v := 1) hx hb d_fmeets_110 (by decide) ?_
              refine lv_icmp_ne (tgt := 141) hx hb d_fmeets_111 (by decide) (fun c_12 => ?_) (fun c_12 => ?_)
              · have h := (if_neg c_12).symm.trans h
                refine lv_iconst (v := 0) hx hb d_fmeets_141 (by decide) ?_
                refine lv_istore (lv' := [(4, .int 0), (3, .int 1), (0, .ref (f 0)), (1, .int p0), (2, .int p1)]) hx hb d_fmeets_142 hl (by decide) rfl (fun ls hl => ?_)
                refine lv_iload_n hx hb d_fmeets_144 rfl (lv_at hl 1 rfl) ?_
                refine lv_if_ne (tgt := 158) hx hb d_fmeets_145 (by decide) (fun _ => ?_) (fun c_13 => absurd c_13 (by decide))
                refine lv_iload hx hb d_fmeets_158 (lv_at hl 0 rfl) ?_
                refine lv_if_ne (tgt := 167) hx hb d_fmeets_160 (by decide) (fun c_14 => absurd (by decide) c_14) (fun _ => ?_)
                refine lv_iconst (v := 1) hx hb d_fmeets_163 (by decide) ?_
                refine lv_goto (tgt := 168) hx hb d_fmeets_164 (by decide) ?_
                have h := Option.some.inj h
                subst h
                exact W.zret (v := 1) hx hb hr rfl (fun t ht hW => ⟨⟨_, (), rfl, rfl, by rw [ht]; exact hP, hD⟩, hS.F ht⟩) hS.2.2 d_fmeets_168
              · have h := (if_pos c_12).symm.trans h
                refine lv_aload_n hx hb d_fmeets_114 rfl (lv_at hl 1 rfl) ?_
                refine lv_iload_n hx hb d_fmeets_115 rfl (lv_at hl 2 rfl) ?_
                refine lv_iload_n hx hb d_fmeets_116 rfl (lv_at hl 3 rfl) ?_
                obtain ⟨r_15, e_15, h⟩ := ld_ob h
                refine ld_mi (wr := ([] : List Nat).filterMap (fun i => (ld_oW f r_7.2.1 ++ ld_bW f cI fb ++ ld_eW f cI cZ r_7.2.2.1 ++ ld_sW f cI cZ r_7.2.2.2)[i]?)) (ws2 := ld_oW f r_15.2.1 ++ ld_bW f cI fb ++ ld_eW f cI cZ r_15.2.2.1 ++ ld_sW f cI cZ r_15.2.2.2) (va_runV (As := [.int p0, .int p1]) (rest := []) ⟨hx, hb, hml, hown, hg⟩ (lc_fholders l D cI cZ cJ f r_7.2.1 fb r_7.2.2.1 r_7.2.2.2 p0 p1 _ N r_15 e_15) ⟨callB_of 2 hg (ld_gd k_446) rfl rfl rfl (hg _ k_30) (hg _ k_455) hd_fholders ⟨Nat.le_of_ble_eq_true rfl, Nat.le_of_ble_eq_true rfl⟩, hg _ k_444, hg _ k_445⟩ (ld_preMV hP hK hN hD [0, 1, 2, 3, 4, 5, 6, 7, 8, 9, 10, 11] (by decide) rfl 7 0 rfl rfl) rfl rfl hl.1 rfl (lv_room (Nat.le_of_ble_eq_true rfl)) d_fmeets_117 ⟨Nat.zero_le _, Nat.zero_le _⟩) hP hD hS hA [0, 1, 2, 3, 4, 5, 6, 7, 8, 9, 10, 11] [] [0, 1, 2, 3, 4, 5, 6, 7, 8, 9, 10, 11] rfl rfl (by decide) (by decide) (by decide) rfl (fun H locs hP hD hS => ?_)
                refine lv_aload_n hx hb d_fmeets_120 rfl (lv_at hl 1 rfl) ?_
                refine lv_iload_n hx hb d_fmeets_121 rfl (lv_at hl 2 rfl) ?_
                obtain ⟨r_16, e_16, h⟩ := ld_ob h
                refine ld_mi (wr := ([] : List Nat).filterMap (fun i => (ld_oW f r_15.2.1 ++ ld_bW f cI fb ++ ld_eW f cI cZ r_15.2.2.1 ++ ld_sW f cI cZ r_15.2.2.2)[i]?)) (ws2 := ld_oW f r_16.2.1 ++ ld_bW f cI fb ++ ld_eW f cI cZ r_16.2.2.1 ++ ld_sW f cI cZ r_16.2.2.2) (va_runV (As := [.int p0]) (rest := [.int r_15.1]) ⟨hx, hb, hml, hown, hg⟩ (lc_fused l D cI cZ cJ f r_15.2.1 fb r_15.2.2.1 r_15.2.2.2 p0 _ N r_16 e_16) ⟨callB_of 1 hg (ld_gd k_450) rfl rfl rfl (hg _ k_30) (hg _ k_456) hd_fused ⟨Nat.le_of_ble_eq_true rfl, Nat.le_of_ble_eq_true rfl⟩, hg _ k_448, hg _ k_449⟩ (ld_preMV hP hK hN hD [0, 1, 2, 3, 4, 5, 6, 7, 8, 9, 10, 11] (by decide) rfl 7 0 rfl rfl) rfl rfl hl.1 rfl (lv_room (Nat.le_of_ble_eq_true rfl)) d_fmeets_122 ⟨Nat.zero_le _, Nat.zero_le _⟩) hP hD hS hA [0, 1, 2, 3, 4, 5, 6, 7, 8, 9, 10, 11] [] [0, 1, 2, 3, 4, 5, 6, 7, 8, 9, 10, 11] rfl rfl (by decide) (by decide) (by decide) rfl (fun H locs hP hD hS => ?_)
                refine lv_iand hx hb d_fmeets_125 ?_
                refine lv_iconst (v := 1) hx hb d_fmeets_126 (by decide) ?_
                refine lv_aload_n hx hb d_fmeets_127 rfl (lv_at hl 1 rfl) ?_
                refine va_get (D := D) (ci := 7) (v := .ref (f 2)) (C := "LoanDeskModel") (T := T_Ref) (N := 14) hx hb hg u_Ref hown hK hP 0 rfl rfl 2 (by decide) (hg _ k_372) (fun _ h9 => h9) rfl d_fmeets_128 ?_
                refine lv_iload_n hx hb d_fmeets_131 rfl (lv_at hl 2 rfl) ?_
                refine va_iald hx hb hK hP 2 0 rfl rfl (i := p0) i_3 d_fmeets_132 ?_
                refine lv_ishl hx hb d_fmeets_133 ?_
                refine lv_icmp_ne (tgt := 141) hx hb d_fmeets_134 (by decide) (fun c_17 => ?_) (fun c_17 => ?_)
                · have h := (if_neg c_17).symm.trans h
                  refine lv_iconst (v := 0) hx hb d_fmeets_141 (by decide) ?_
                  refine lv_istore (lv' := [(4, .int 0), (3, .int 1), (0, .ref (f 0)), (1, .int p0), (2, .int p1)]) hx hb d_fmeets_142 hl (by decide) rfl (fun ls hl => ?_)
                  refine lv_iload_n hx hb d_fmeets_144 rfl (lv_at hl 1 rfl) ?_
                  refine lv_if_ne (tgt := 158) hx hb d_fmeets_145 (by decide) (fun _ => ?_) (fun c_18 => absurd c_18 (by decide))
                  refine lv_iload hx hb d_fmeets_158 (lv_at hl 0 rfl) ?_
                  refine lv_if_ne (tgt := 167) hx hb d_fmeets_160 (by decide) (fun c_19 => absurd (by decide) c_19) (fun _ => ?_)
                  refine lv_iconst (v := 1) hx hb d_fmeets_163 (by decide) ?_
                  refine lv_goto (tgt := 168) hx hb d_fmeets_164 (by decide) ?_
                  have h := Option.some.inj h
                  subst h
                  exact W.zret (v := 1) hx hb hr rfl (fun t ht hW => ⟨⟨_, (), rfl, rfl, by rw [ht]; exact hP, hD⟩, hS.F ht⟩) hS.2.2 d_fmeets_168
                · have h := (if_pos c_17).symm.trans h
                  refine lv_iconst (v := 1) hx hb d_fmeets_137 (by decide) ?_
                  refine lv_goto (tgt := 142) hx hb d_fmeets_138 (by decide) ?_
                  refine lv_istore (lv' := [(4, .int 1), (3, .int 1), (0, .ref (f 0)), (1, .int p0), (2, .int p1)]) hx hb d_fmeets_142 hl (by decide) rfl (fun ls hl => ?_)
                  refine lv_iload_n hx hb d_fmeets_144 rfl (lv_at hl 1 rfl) ?_
                  refine lv_if_ne (tgt := 158) hx hb d_fmeets_145 (by decide) (fun _ => ?_) (fun c_20 => absurd c_20 (by decide))
                  refine lv_iload hx hb d_fmeets_158 (lv_at hl 0 rfl) ?_
                  refine lv_if_ne (tgt := 167) hx hb d_fmeets_160 (by decide) (fun _ => ?_) (fun c_21 => absurd c_21 (by decide))
                  refine lv_iconst (v := 0) hx hb d_fmeets_167 (by decide) ?_
                  have h := Option.some.inj h
                  subst h
                  exact W.zret (v := 0) hx hb hr rfl (fun t ht hW => ⟨⟨_, (), rfl, rfl, by rw [ht]; exact hP, hD⟩, hS.F ht⟩) hS.2.2 d_fmeets_168
            · have h := (if_neg c_11).symm.trans h
              refine lv_aload_n hx hb d_fmeets_78 rfl (lv_at hl 0 rfl) ?_
              refine va_get (D := D) (ci := 7) (v := .ref (f 1)) (C := "LoanDeskModel") (T := T_Ref) (N := 14) hx hb hg u_Ref hown hK hP 0 rfl rfl 1 (by decide) (hg _ k_371) (fun _ h9 => h9) rfl d_fmeets_79 ?_
              refine lv_iload_n hx hb d_fmeets_82 rfl (lv_at hl 1 rfl) ?_
              refine va_iald hx hb hK hP 1 0 rfl rfl (i := p0) i_3 d_fmeets_83 ?_
              refine lv_iconst (v := 1) hx hb d_fmeets_84 (by decide) ?_
              refine lv_icmp_ne (tgt := 102) hx hb d_fmeets_85 (by decide) (fun c_22 => ?_) (fun c_22 => ?_)
              · have h := (if_neg c_22).symm.trans h
                refine lv_iconst (v := 0) hx hb d_fmeets_102 (by decide) ?_
                refine lv_istore_n (lv' := [(3, .int 0), (0, .ref (f 0)), (1, .int p0), (2, .int p1)]) hx hb d_fmeets_103 rfl hl (by decide) rfl (fun ls hl => ?_)
                refine lv_aload_n hx hb d_fmeets_104 rfl (lv_at hl 1 rfl) ?_
                refine va_get (D := D) (ci := 7) (v := .ref (f 1)) (C := "LoanDeskModel") (T := T_Ref) (N := 14) hx hb hg u_Ref hown hK hP 0 rfl rfl 1 (by decide) (hg _ k_371) (fun _ h9 => h9) rfl d_fmeets_105 ?_
                refine lv_iload_n hx hb d_fmeets_108 rfl (lv_at hl 2 rfl) ?_
                refine va_iald hx hb hK hP 1 0 rfl rfl (i := p0) i_3 d_fmeets_109 ?_
                refine lv_iconst (v := 1) hx hb d_fmeets_110 (by decide) ?_
                refine lv_icmp_ne (tgt := 141) hx hb d_fmeets_111 (by decide) (fun c_23 => ?_) (fun c_23 => ?_)
                · have h := (if_neg c_23).symm.trans h
                  refine lv_iconst (v := 0) hx hb d_fmeets_141 (by decide) ?_
                  refine lv_istore (lv' := [(4, .int 0), (3, .int 0), (0, .ref (f 0)), (1, .int p0), (2, .int p1)]) hx hb d_fmeets_142 hl (by decide) rfl (fun ls hl => ?_)
                  refine lv_iload_n hx hb d_fmeets_144 rfl (lv_at hl 1 rfl) ?_
                  refine lv_if_ne (tgt := 158) hx hb d_fmeets_145 (by decide) (fun c_24 => absurd (by decide) c_24) (fun _ => ?_)
                  refine lv_aload_n hx hb d_fmeets_148 rfl (lv_at hl 2 rfl) ?_
                  refine va_get (D := D) (ci := 7) (v := .ref (f 4)) (C := "LoanDeskModel") (T := T_Ref) (N := 14) hx hb hg u_Ref hown hK hP 0 rfl rfl 4 (by decide) (hg _ k_374) (fun _ h9 => h9) rfl d_fmeets_149 ?_
                  refine lv_iload_n hx hb d_fmeets_152 rfl (lv_at hl 4 rfl) ?_
                  refine va_iald hx hb hK hP 4 0 rfl rfl (i := p1) i_5 d_fmeets_153 ?_
                  refine lv_iconst (v := 1) hx hb d_fmeets_154 (by decide) ?_
                  refine lv_icmp_ne (tgt := 167) hx hb d_fmeets_155 (by decide) (fun c_25 => ?_) (fun c_25 => ?_)
                  · have h := (if_neg c_25).symm.trans h
                    refine lv_iconst (v := 0) hx hb d_fmeets_167 (by decide) ?_
                    have h := Option.some.inj h
                    subst h
                    exact W.zret (v := 0) hx hb hr rfl (fun t ht hW => ⟨⟨_, (), rfl, rfl, by rw [ht]; exact hP, hD⟩, hS.F ht⟩) hS.2.2 d_fmeets_168
                  · have h := (if_pos c_25).symm.trans h
                    refine lv_iload hx hb d_fmeets_158 (lv_at hl 0 rfl) ?_
                    refine lv_if_ne (tgt := 167) hx hb d_fmeets_160 (by decide) (fun c_26 => absurd (by decide) c_26) (fun _ => ?_)
                    refine lv_iconst (v := 1) hx hb d_fmeets_163 (by decide) ?_
                    refine lv_goto (tgt := 168) hx hb d_fmeets_164 (by decide) ?_
                    have h := Option.some.inj h
                    subst h
                    exact W.zret (v := 1) hx hb hr rfl (fun t ht hW => ⟨⟨_, (), rfl, rfl, by rw [ht]; exact hP, hD⟩, hS.F ht⟩) hS.2.2 d_fmeets_168
                · have h := (if_pos c_23).symm.trans h
                  refine lv_aload_n hx hb d_fmeets_114 rfl (lv_at hl 1 rfl) ?_
                  refine lv_iload_n hx hb d_fmeets_115 rfl (lv_at hl 2 rfl) ?_
                  refine lv_iload_n hx hb d_fmeets_116 rfl (lv_at hl 3 rfl) ?_
                  obtain ⟨r_27, e_27, h⟩ := ld_ob h
                  refine ld_mi (wr := ([] : List Nat).filterMap (fun i => (ld_oW f r_7.2.1 ++ ld_bW f cI fb ++ ld_eW f cI cZ r_7.2.2.1 ++ ld_sW f cI cZ r_7.2.2.2)[i]?)) (ws2 := ld_oW f r_27.2.1 ++ ld_bW f cI fb ++ ld_eW f cI cZ r_27.2.2.1 ++ ld_sW f cI cZ r_27.2.2.2) (va_runV (As := [.int p0, .int p1]) (rest := []) ⟨hx, hb, hml, hown, hg⟩ (lc_fholders l D cI cZ cJ f r_7.2.1 fb r_7.2.2.1 r_7.2.2.2 p0 p1 _ N r_27 e_27) ⟨callB_of 2 hg (ld_gd k_446) rfl rfl rfl (hg _ k_30) (hg _ k_455) hd_fholders ⟨Nat.le_of_ble_eq_true rfl, Nat.le_of_ble_eq_true rfl⟩, hg _ k_444, hg _ k_445⟩ (ld_preMV hP hK hN hD [0, 1, 2, 3, 4, 5, 6, 7, 8, 9, 10, 11] (by decide) rfl 7 0 rfl rfl) rfl rfl hl.1 rfl (lv_room (Nat.le_of_ble_eq_true rfl)) d_fmeets_117 ⟨Nat.zero_le _, Nat.zero_le _⟩) hP hD hS hA [0, 1, 2, 3, 4, 5, 6, 7, 8, 9, 10, 11] [] [0, 1, 2, 3, 4, 5, 6, 7, 8, 9, 10, 11] rfl rfl (by decide) (by decide) (by decide) rfl (fun H locs hP hD hS => ?_)
                  refine lv_aload_n hx hb d_fmeets_120 rfl (lv_at hl 1 rfl) ?_
                  refine lv_iload_n hx hb d_fmeets_121 rfl (lv_at hl 2 rfl) ?_
                  obtain ⟨r_28, e_28, h⟩ := ld_ob h
                  refine ld_mi (wr := ([] : List Nat).filterMap (fun i => (ld_oW f r_27.2.1 ++ ld_bW f cI fb ++ ld_eW f cI cZ r_27.2.2.1 ++ ld_sW f cI cZ r_27.2.2.2)[i]?)) (ws2 := ld_oW f r_28.2.1 ++ ld_bW f cI fb ++ ld_eW f cI cZ r_28.2.2.1 ++ ld_sW f cI cZ r_28.2.2.2) (va_runV (As := [.int p0]) (rest := [.int r_27.1]) ⟨hx, hb, hml, hown, hg⟩ (lc_fused l D cI cZ cJ f r_27.2.1 fb r_27.2.2.1 r_27.2.2.2 p0 _ N r_28 e_28) ⟨callB_of 1 hg (ld_gd k_450) rfl rfl rfl (hg _ k_30) (hg _ k_456) hd_fused ⟨Nat.le_of_ble_eq_true rfl, Nat.le_of_ble_eq_true rfl⟩, hg _ k_448, hg _ k_449⟩ (ld_preMV hP hK hN hD [0, 1, 2, 3, 4, 5, 6, 7, 8, 9, 10, 11] (by decide) rfl 7 0 rfl rfl) rfl rfl hl.1 rfl (lv_room (Nat.le_of_ble_eq_true rfl)) d_fmeets_122 ⟨Nat.zero_le _, Nat.zero_le _⟩) hP hD hS hA [0, 1, 2, 3, 4, 5, 6, 7, 8, 9, 10, 11] [] [0, 1, 2, 3, 4, 5, 6, 7, 8, 9, 10, 11] rfl rfl (by decide) (by decide) (by decide) rfl (fun H locs hP hD hS => ?_)
                  refine lv_iand hx hb d_fmeets_125 ?_
                  refine lv_iconst (v := 1) hx hb d_fmeets_126 (by decide) ?_
                  refine lv_aload_n hx hb d_fmeets_127 rfl (lv_at hl 1 rfl) ?_
                  refine va_get (D := D) (ci := 7) (v := .ref (f 2)) (C := "LoanDeskModel") (T := T_Ref) (N := 14) hx hb hg u_Ref hown hK hP 0 rfl rfl 2 (by decide) (hg _ k_372) (fun _ h9 => h9) rfl d_fmeets_128 ?_
                  refine lv_iload_n hx hb d_fmeets_131 rfl (lv_at hl 2 rfl) ?_
                  refine va_iald hx hb hK hP 2 0 rfl rfl (i := p0) i_3 d_fmeets_132 ?_
                  refine lv_ishl hx hb d_fmeets_133 ?_
                  refine lv_icmp_ne (tgt := 141) hx hb d_fmeets_134 (by decide) (fun c_29 => ?_) (fun c_29 => ?_)
                  · have h := (if_neg c_29).symm.trans h
                    refine lv_iconst (v := 0) hx hb d_fmeets_141 (by decide) ?_
                    refine lv_istore (lv' := [(4, .int 0), (3, .int 0), (0, .ref (f 0)), (1, .int p0), (2, .int p1)]) hx hb d_fmeets_142 hl (by decide) rfl (fun ls hl => ?_)
                    refine lv_iload_n hx hb d_fmeets_144 rfl (lv_at hl 1 rfl) ?_
                    refine lv_if_ne (tgt := 158) hx hb d_fmeets_145 (by decide) (fun c_30 => absurd (by decide) c_30) (fun _ => ?_)
                    refine lv_aload_n hx hb d_fmeets_148 rfl (lv_at hl 2 rfl) ?_
                    refine va_get (D := D) (ci := 7) (v := .ref (f 4)) (C := "LoanDeskModel") (T := T_Ref) (N := 14) hx hb hg u_Ref hown hK hP 0 rfl rfl 4 (by decide) (hg _ k_374) (fun _ h9 => h9) rfl d_fmeets_149 ?_
                    refine lv_iload_n hx hb d_fmeets_152 rfl (lv_at hl 4 rfl) ?_
                    refine va_iald hx hb hK hP 4 0 rfl rfl (i := p1) i_5 d_fmeets_153 ?_
                    refine lv_iconst (v := 1) hx hb d_fmeets_154 (by decide) ?_
                    refine lv_icmp_ne (tgt := 167) hx hb d_fmeets_155 (by decide) (fun c_31 => ?_) (fun c_31 => ?_)
                    · have h := (if_neg c_31).symm.trans h
                      refine lv_iconst (v := 0) hx hb d_fmeets_167 (by decide) ?_
                      have h := Option.some.inj h
                      subst h
                      exact W.zret (v := 0) hx hb hr rfl (fun t ht hW => ⟨⟨_, (), rfl, rfl, by rw [ht]; exact hP, hD⟩, hS.F ht⟩) hS.2.2 d_fmeets_168
                    · have h := (if_pos c_31).symm.trans h
                      refine lv_iload hx hb d_fmeets_158 (lv_at hl 0 rfl) ?_
                      refine lv_if_ne (tgt := 167) hx hb d_fmeets_160 (by decide) (fun c_32 => absurd (by decide) c_32) (fun _ => ?_)
                      refine lv_iconst (v := 1) hx hb d_fmeets_163 (by decide) ?_
                      refine lv_goto (tgt := 168) hx hb d_fmeets_164 (by decide) ?_
                      have h := Option.some.inj h
                      subst h
                      exact W.zret (v := 1) hx hb hr rfl (fun t ht hW => ⟨⟨_, (), rfl, rfl, by rw [ht]; exact hP, hD⟩, hS.F ht⟩) hS.2.2 d_fmeets_168
                  · have h := (if_pos c_29).symm.trans h
                    refine lv_iconst (v := 1) hx hb d_fmeets_137 (by decide) ?_
                    refine lv_goto (tgt := 142) hx hb d_fmeets_138 (by decide) ?_
                    refine lv_istore (lv' := [(4, .int 1), (3, .int 0), (0, .ref (f 0)), (1, .int p0), (2, .int p1)]) hx hb d_fmeets_142 hl (by decide) rfl (fun ls hl => ?_)
                    refine lv_iload_n hx hb d_fmeets_144 rfl (lv_at hl 1 rfl) ?_
                    refine lv_if_ne (tgt := 158) hx hb d_fmeets_145 (by decide) (fun c_33 => absurd (by decide) c_33) (fun _ => ?_)
                    refine lv_aload_n hx hb d_fmeets_148 rfl (lv_at hl 2 rfl) ?_
                    refine va_get (D := D) (ci := 7) (v := .ref (f 4)) (C := "LoanDeskModel") (T := T_Ref) (N := 14) hx hb hg u_Ref hown hK hP 0 rfl rfl 4 (by decide) (hg _ k_374) (fun _ h9 => h9) rfl d_fmeets_149 ?_
                    refine lv_iload_n hx hb d_fmeets_152 rfl (lv_at hl 4 rfl) ?_
                    refine va_iald hx hb hK hP 4 0 rfl rfl (i := p1) i_5 d_fmeets_153 ?_
                    refine lv_iconst (v := 1) hx hb d_fmeets_154 (by decide) ?_
                    refine lv_icmp_ne (tgt := 167) hx hb d_fmeets_155 (by decide) (fun c_34 => ?_) (fun c_34 => ?_)
                    · have h := (if_neg c_34).symm.trans h
                      refine lv_iconst (v := 0) hx hb d_fmeets_167 (by decide) ?_
                      have h := Option.some.inj h
                      subst h
                      exact W.zret (v := 0) hx hb hr rfl (fun t ht hW => ⟨⟨_, (), rfl, rfl, by rw [ht]; exact hP, hD⟩, hS.F ht⟩) hS.2.2 d_fmeets_168
                    · have h := (if_pos c_34).symm.trans h
                      refine lv_iload hx hb d_fmeets_158 (lv_at hl 0 rfl) ?_
                      refine lv_if_ne (tgt := 167) hx hb d_fmeets_160 (by decide) (fun _ => ?_) (fun c_35 => absurd c_35 (by decide))
                      refine lv_iconst (v := 0) hx hb d_fmeets_167 (by decide) ?_
                      have h := Option.some.inj h
                      subst h
                      exact W.zret (v := 0) hx hb hr rfl (fun t ht hW => ⟨⟨_, (), rfl, rfl, by rw [ht]; exact hP, hD⟩, hS.F ht⟩) hS.2.2 d_fmeets_168
              · have h := (if_pos c_22).symm.trans h
                refine lv_aload_n hx hb d_fmeets_88 rfl (lv_at hl 0 rfl) ?_
                refine va_get (D := D) (ci := 7) (v := .ref (f 4)) (C := "LoanDeskModel") (T := T_Ref) (N := 14) hx hb hg u_Ref hown hK hP 0 rfl rfl 4 (by decide) (hg _ k_374) (fun _ h9 => h9) rfl d_fmeets_89 ?_
                refine lv_iload_n hx hb d_fmeets_92 rfl (lv_at hl 1 rfl) ?_
                refine va_iald hx hb hK hP 4 0 rfl rfl (i := p0) i_3 d_fmeets_93 ?_
                refine lv_iconst (v := 1) hx hb d_fmeets_94 (by decide) ?_
                refine lv_icmp_ne (tgt := 102) hx hb d_fmeets_95 (by decide) (fun c_36 => ?_) (fun c_36 => ?_)
                · have h := (if_neg c_36).symm.trans h
                  refine lv_iconst (v := 0) hx hb d_fmeets_102 (by decide) ?_
                  refine lv_istore_n (lv' := [(3, .int 0), (0, .ref (f 0)), (1, .int p0), (2, .int p1)]) hx hb d_fmeets_103 rfl hl (by decide) rfl (fun ls hl => ?_)
                  refine lv_aload_n hx hb d_fmeets_104 rfl (lv_at hl 1 rfl) ?_
                  refine va_get (D := D) (ci := 7) (v := .ref (f 1)) (C := "LoanDeskModel") (T := T_Ref) (N := 14) hx hb hg u_Ref hown hK hP 0 rfl rfl 1 (by decide) (hg _ k_371) (fun _ h9 => h9) rfl d_fmeets_105 ?_
                  refine lv_iload_n hx hb d_fmeets_108 rfl (lv_at hl 2 rfl) ?_
                  refine va_iald hx hb hK hP 1 0 rfl rfl (i := p0) i_3 d_fmeets_109 ?_
                  refine lv_iconst (v := 1) hx hb d_fmeets_110 (by decide) ?_
                  refine lv_icmp_ne (tgt := 141) hx hb d_fmeets_111 (by decide) (fun c_37 => ?_) (fun c_37 => ?_)
                  · have h := (if_neg c_37).symm.trans h
                    refine lv_iconst (v := 0) hx hb d_fmeets_141 (by decide) ?_
                    refine lv_istore (lv' := [(4, .int 0), (3, .int 0), (0, .ref (f 0)), (1, .int p0), (2, .int p1)]) hx hb d_fmeets_142 hl (by decide) rfl (fun ls hl => ?_)
                    refine lv_iload_n hx hb d_fmeets_144 rfl (lv_at hl 1 rfl) ?_
                    refine lv_if_ne (tgt := 158) hx hb d_fmeets_145 (by decide) (fun c_38 => absurd (by decide) c_38) (fun _ => ?_)
                    refine lv_aload_n hx hb d_fmeets_148 rfl (lv_at hl 2 rfl) ?_
                    refine va_get (D := D) (ci := 7) (v := .ref (f 4)) (C := "LoanDeskModel") (T := T_Ref) (N := 14) hx hb hg u_Ref hown hK hP 0 rfl rfl 4 (by decide) (hg _ k_374) (fun _ h9 => h9) rfl d_fmeets_149 ?_
                    refine lv_iload_n hx hb d_fmeets_152 rfl (lv_at hl 4 rfl) ?_
                    refine va_iald hx hb hK hP 4 0 rfl rfl (i := p1) i_5 d_fmeets_153 ?_
                    refine lv_iconst (v := 1) hx hb d_fmeets_154 (by decide) ?_
                    refine lv_icmp_ne (tgt := 167) hx hb d_fmeets_155 (by decide) (fun c_39 => ?_) (fun c_39 => ?_)
                    · have h := (if_neg c_39).symm.trans h
                      refine lv_iconst (v := 0) hx hb d_fmeets_167 (by decide) ?_
                      have h := Option.some.inj h
                      subst h
                      exact W.zret (v := 0) hx hb hr rfl (fun t ht hW => ⟨⟨_, (), rfl, rfl, by rw [ht]; exact hP, hD⟩, hS.F ht⟩) hS.2.2 d_fmeets_168
                    · have h := (if_pos c_39).symm.trans h
                      refine lv_iload hx hb d_fmeets_158 (lv_at hl 0 rfl) ?_
                      refine lv_if_ne (tgt := 167) hx hb d_fmeets_160 (by decide) (fun c_40 => absurd (by decide) c_40) (fun _ => ?_)
                      refine lv_iconst (v := 1) hx hb d_fmeets_163 (by decide) ?_
                      refine lv_goto (tgt := 168) hx hb d_fmeets_164 (by decide) ?_
                      have h := Option.some.inj h
                      subst h
                      exact W.zret (v := 1) hx hb hr rfl (fun t ht hW => ⟨⟨_, (), rfl, rfl, by rw [ht]; exact hP, hD⟩, hS.F ht⟩) hS.2.2 d_fmeets_168
                  · have h := (if_pos c_37).symm.trans h
                    refine lv_aload_n hx hb d_fmeets_114 rfl (lv_at hl 1 rfl) ?_
                    refine lv_iload_n hx hb d_fmeets_115 rfl (lv_at hl 2 rfl) ?_
                    refine lv_iload_n hx hb d_fmeets_116 rfl (lv_at hl 3 rfl) ?_
                    obtain ⟨r_41, e_41, h⟩ := ld_ob h
                    refine ld_mi (wr := ([] : List Nat).filterMap (fun i => (ld_oW f r_7.2.1 ++ ld_bW f cI fb ++ ld_eW f cI cZ r_7.2.2.1 ++ ld_sW f cI cZ r_7.2.2.2)[i]?)) (ws2 := ld_oW f r_41.2.1 ++ ld_bW f cI fb ++ ld_eW f cI cZ r_41.2.2.1 ++ ld_sW f cI cZ r_41.2.2.2) (va_runV (As := [.int p0, .int p1]) (rest := []) ⟨hx, hb, hml, hown, hg⟩ (lc_fholders l D cI cZ cJ f r_7.2.1 fb r_7.2.2.1 r_7.2.2.2 p0 p1 _ N r_41 e_41) ⟨callB_of 2 hg (ld_gd k_446) rfl rfl rfl (hg _ k_30) (hg _ k_455) hd_fholders ⟨Nat.le_of_ble_eq_true rfl, Nat.le_of_ble_eq_true rfl⟩, hg _ k_444, hg _ k_445⟩ (ld_preMV hP hK hN hD [0, 1, 2, 3, 4, 5, 6, 7, 8, 9, 10, 11] (by decide) rfl 7 0 rfl rfl) rfl rfl hl.1 rfl (lv_room (Nat.le_of_ble_eq_true rfl)) d_fmeets_117 ⟨Nat.zero_le _, Nat.zero_le _⟩) hP hD hS hA [0, 1, 2, 3, 4, 5, 6, 7, 8, 9, 10, 11] [] [0, 1, 2, 3, 4, 5, 6, 7, 8, 9, 10, 11] rfl rfl (by decide) (by decide) (by decide) rfl (fun H locs hP hD hS => ?_)
                    refine lv_aload_n hx hb d_fmeets_120 rfl (lv_at hl 1 rfl) ?_
                    refine lv_iload_n hx hb d_fmeets_121 rfl (lv_at hl 2 rfl) ?_
                    obtain ⟨r_42, e_42, h⟩ := ld_ob h
                    refine ld_mi (wr := ([] : List Nat).filterMap (fun i => (ld_oW f r_41.2.1 ++ ld_bW f cI fb ++ ld_eW f cI cZ r_41.2.2.1 ++ ld_sW f cI cZ r_41.2.2.2)[i]?)) (ws2 := ld_oW f r_42.2.1 ++ ld_bW f cI fb ++ ld_eW f cI cZ r_42.2.2.1 ++ ld_sW f cI cZ r_42.2.2.2) (va_runV (As := [.int p0]) (rest := [.int r_41.1]) ⟨hx, hb, hml, hown, hg⟩ (lc_fused l D cI cZ cJ f r_41.2.1 fb r_41.2.2.1 r_41.2.2.2 p0 _ N r_42 e_42) ⟨callB_of 1 hg (ld_gd k_450) rfl rfl rfl (hg _ k_30) (hg _ k_456) hd_fused ⟨Nat.le_of_ble_eq_true rfl, Nat.le_of_ble_eq_true rfl⟩, hg _ k_448, hg _ k_449⟩ (ld_preMV hP hK hN hD [0, 1, 2, 3, 4, 5, 6, 7, 8, 9, 10, 11] (by decide) rfl 7 0 rfl rfl) rfl rfl hl.1 rfl (lv_room (Nat.le_of_ble_eq_true rfl)) d_fmeets_122 ⟨Nat.zero_le _, Nat.zero_le _⟩) hP hD hS hA [0, 1, 2, 3, 4, 5, 6, 7, 8, 9, 10, 11] [] [0, 1, 2, 3, 4, 5, 6, 7, 8, 9, 10, 11] rfl rfl (by decide) (by decide) (by decide) rfl (fun H locs hP hD hS => ?_)
                    refine lv_iand hx hb d_fmeets_125 ?_
                    refine lv_iconst (v := 1) hx hb d_fmeets_126 (by decide) ?_
                    refine lv_aload_n hx hb d_fmeets_127 rfl (lv_at hl 1 rfl) ?_
                    refine va_get (D := D) (ci := 7) (v := .ref (f 2)) (C := "LoanDeskModel") (T := T_Ref) (N := 14) hx hb hg u_Ref hown hK hP 0 rfl rfl 2 (by decide) (hg _ k_372) (fun _ h9 => h9) rfl d_fmeets_128 ?_
                    refine lv_iload_n hx hb d_fmeets_131 rfl (lv_at hl 2 rfl) ?_
                    refine va_iald hx hb hK hP 2 0 rfl rfl (i := p0) i_3 d_fmeets_132 ?_
                    refine lv_ishl hx hb d_fmeets_133 ?_
                    refine lv_icmp_ne (tgt := 141) hx hb d_fmeets_134 (by decide) (fun c_43 => ?_) (fun c_43 => ?_)
                    · have h := (if_neg c_43).symm.trans h
                      refine lv_iconst (v := 0) hx hb d_fmeets_141 (by decide) ?_
                      refine lv_istore (lv' := [(4, .int 0), (3, .int 0), (0, .ref (f 0)), (1, .int p0), (2, .int p1)]) hx hb d_fmeets_142 hl (by decide) rfl (fun ls hl => ?_)
                      refine lv_iload_n hx hb d_fmeets_144 rfl (lv_at hl 1 rfl) ?_
                      refine lv_if_ne (tgt := 158) hx hb d_fmeets_145 (by decide) (fun c_44 => absurd (by decide) c_44) (fun _ => ?_)
                      refine lv_aload_n hx hb d_fmeets_148 rfl (lv_at hl 2 rfl) ?_
                      refine va_get (D := D) (ci := 7) (v := .ref (f 4)) (C := "LoanDeskModel") (T := T_Ref) (N := 14) hx hb hg u_Ref hown hK hP 0 rfl rfl 4 (by decide) (hg _ k_374) (fun _ h9 => h9) rfl d_fmeets_149 ?_
                      refine lv_iload_n hx hb d_fmeets_152 rfl (lv_at hl 4 rfl) ?_
                      refine va_iald hx hb hK hP 4 0 rfl rfl (i := p1) i_5 d_fmeets_153 ?_
                      refine lv_iconst (v := 1) hx hb d_fmeets_154 (by decide) ?_
                      refine lv_icmp_ne (tgt := 167) hx hb d_fmeets_155 (by decide) (fun c_45 => ?_) (fun c_45 => ?_)
                      · have h := (if_neg c_45).symm.trans h
                        refine lv_iconst (v := 0) hx hb d_fmeets_167 (by decide) ?_
                        have h := Option.some.inj h
                        subst h
                        exact W.zret (v := 0) hx hb hr rfl (fun t ht hW => ⟨⟨_, (), rfl, rfl, by rw [ht]; exact hP, hD⟩, hS.F ht⟩) hS.2.2 d_fmeets_168
                      · have h := (if_pos c_45).symm.trans h
                        refine lv_iload hx hb d_fmeets_158 (lv_at hl 0 rfl) ?_
                        refine lv_if_ne (tgt := 167) hx hb d_fmeets_160 (by decide) (fun c_46 => absurd (by decide) c_46) (fun _ => ?_)
                        refine lv_iconst (v := 1) hx hb d_fmeets_163 (by decide) ?_
                        refine lv_goto (tgt := 168) hx hb d_fmeets_164 (by decide) ?_
                        have h := Option.some.inj h
                        subst h
                        exact W.zret (v := 1) hx hb hr rfl (fun t ht hW => ⟨⟨_, (), rfl, rfl, by rw [ht]; exact hP, hD⟩, hS.F ht⟩) hS.2.2 d_fmeets_168
                    · have h := (if_pos c_43).symm.trans h
                      refine lv_iconst (v := 1) hx hb d_fmeets_137 (by decide) ?_
                      refine lv_goto (tgt := 142) hx hb d_fmeets_138 (by decide) ?_
                      refine lv_istore (lv' := [(4, .int 1), (3, .int 0), (0, .ref (f 0)), (1, .int p0), (2, .int p1)]) hx hb d_fmeets_142 hl (by decide) rfl (fun ls hl => ?_)
                      refine lv_iload_n hx hb d_fmeets_144 rfl (lv_at hl 1 rfl) ?_
                      refine lv_if_ne (tgt := 158) hx hb d_fmeets_145 (by decide) (fun c_47 => absurd (by decide) c_47) (fun _ => ?_)
                      refine lv_aload_n hx hb d_fmeets_148 rfl (lv_at hl 2 rfl) ?_
                      refine va_get (D := D) (ci := 7) (v := .ref (f 4)) (C := "LoanDeskModel") (T := T_Ref) (N := 14) hx hb hg u_Ref hown hK hP 0 rfl rfl 4 (by decide) (hg _ k_374) (fun _ h9 => h9) rfl d_fmeets_149 ?_
                      refine lv_iload_n hx hb d_fmeets_152 rfl (lv_at hl 4 rfl) ?_
                      refine va_iald hx hb hK hP 4 0 rfl rfl (i := p1) i_5 d_fmeets_153 ?_
                      refine lv_iconst (v := 1) hx hb d_fmeets_154 (by decide) ?_
                      refine lv_icmp_ne (tgt := 167) hx hb d_fmeets_155 (by decide) (fun c_48 => ?_) (fun c_48 => ?_)
                      · have h := (if_neg c_48).symm.trans h
                        refine lv_iconst (v := 0) hx hb d_fmeets_167 (by decide) ?_
                        have h := Option.some.inj h
                        subst h
                        exact W.zret (v := 0) hx hb hr rfl (fun t ht hW => ⟨⟨_, (), rfl, rfl, by rw [ht]; exact hP, hD⟩, hS.F ht⟩) hS.2.2 d_fmeets_168
                      · have h := (if_pos c_48).symm.trans h
                        refine lv_iload hx hb d_fmeets_158 (lv_at hl 0 rfl) ?_
                        refine lv_if_ne (tgt := 167) hx hb d_fmeets_160 (by decide) (fun _ => ?_) (fun c_49 => absurd c_49 (by decide))
                        refine lv_iconst (v := 0) hx hb d_fmeets_167 (by decide) ?_
                        have h := Option.some.inj h
                        subst h
                        exact W.zret (v := 0) hx hb hr rfl (fun t ht hW => ⟨⟨_, (), rfl, rfl, by rw [ht]; exact hP, hD⟩, hS.F ht⟩) hS.2.2 d_fmeets_168
                · have h := (if_pos c_36).symm.trans h
                  refine lv_iconst (v := 1) hx hb d_fmeets_98 (by decide) ?_
                  refine lv_goto (tgt := 103) hx hb d_fmeets_99 (by decide) ?_
                  refine lv_istore_n (lv' := [(3, .int 1), (0, .ref (f 0)), (1, .int p0), (2, .int p1)]) hx hb d_fmeets_103 rfl hl (by decide) rfl (fun ls hl => ?_)
                  refine lv_aload_n hx hb d_fmeets_104 rfl (lv_at hl 1 rfl) ?_
                  refine va_get (D := D) (ci := 7) (v := .ref (f 1)) (C := "LoanDeskModel") (T := T_Ref) (N := 14) hx hb hg u_Ref hown hK hP 0 rfl rfl 1 (by decide) (hg _ k_371) (fun _ h9 => h9) rfl d_fmeets_105 ?_
                  refine lv_iload_n hx hb d_fmeets_108 rfl (lv_at hl 2 rfl) ?_
                  refine va_iald hx hb hK hP 1 0 rfl rfl (i := p0) i_3 d_fmeets_109 ?_
                  refine lv_iconst (v := 1) hx hb d_fmeets_110 (by decide) ?_
                  refine lv_icmp_ne (tgt := 141) hx hb d_fmeets_111 (by decide) (fun c_50 => ?_) (fun c_50 => ?_)
                  · have h := (if_neg c_50).symm.trans h
                    refine lv_iconst (v := 0) hx hb d_fmeets_141 (by decide) ?_
                    refine lv_istore (lv' := [(4, .int 0), (3, .int 1), (0, .ref (f 0)), (1, .int p0), (2, .int p1)]) hx hb d_fmeets_142 hl (by decide) rfl (fun ls hl => ?_)
                    refine lv_iload_n hx hb d_fmeets_144 rfl (lv_at hl 1 rfl) ?_
                    refine lv_if_ne (tgt := 158) hx hb d_fmeets_145 (by decide) (fun _ => ?_) (fun c_51 => absurd c_51 (by decide))
                    refine lv_iload hx hb d_fmeets_158 (lv_at hl 0 rfl) ?_
                    refine lv_if_ne (tgt := 167) hx hb d_fmeets_160 (by decide) (fun c_52 => absurd (by decide) c_52) (fun _ => ?_)
                    refine lv_iconst (v := 1) hx hb d_fmeets_163 (by decide) ?_
                    refine lv_goto (tgt := 168) hx hb d_fmeets_164 (by decide) ?_
                    have h := Option.some.inj h
                    subst h
                    exact W.zret (v := 1) hx hb hr rfl (fun t ht hW => ⟨⟨_, (), rfl, rfl, by rw [ht]; exact hP, hD⟩, hS.F ht⟩) hS.2.2 d_fmeets_168
                  · have h := (if_pos c_50).symm.trans h
                    refine lv_aload_n hx hb d_fmeets_114 rfl (lv_at hl 1 rfl) ?_
                    refine lv_iload_n hx hb d_fmeets_115 rfl (lv_at hl 2 rfl) ?_
                    refine lv_iload_n hx hb d_fmeets_116 rfl (lv_at hl 3 rfl) ?_
                    obtain ⟨r_53, e_53, h⟩ := ld_ob h
                    refine ld_mi (wr := ([] : List Nat).filterMap (fun i => (ld_oW f r_7.2.1 ++ ld_bW f cI fb ++ ld_eW f cI cZ r_7.2.2.1 ++ ld_sW f cI cZ r_7.2.2.2)[i]?)) (ws2 := ld_oW f r_53.2.1 ++ ld_bW f cI fb ++ ld_eW f cI cZ r_53.2.2.1 ++ ld_sW f cI cZ r_53.2.2.2) (va_runV (As := [.int p0, .int p1]) (rest := []) ⟨hx, hb, hml, hown, hg⟩ (lc_fholders l D cI cZ cJ f r_7.2.1 fb r_7.2.2.1 r_7.2.2.2 p0 p1 _ N r_53 e_53) ⟨callB_of 2 hg (ld_gd k_446) rfl rfl rfl (hg _ k_30) (hg _ k_455) hd_fholders ⟨Nat.le_of_ble_eq_true rfl, Nat.le_of_ble_eq_true rfl⟩, hg _ k_444, hg _ k_445⟩ (ld_preMV hP hK hN hD [0, 1, 2, 3, 4, 5, 6, 7, 8, 9, 10, 11] (by decide) rfl 7 0 rfl rfl) rfl rfl hl.1 rfl (lv_room (Nat.le_of_ble_eq_true rfl)) d_fmeets_117 ⟨Nat.zero_le _, Nat.zero_le _⟩) hP hD hS hA [0, 1, 2, 3, 4, 5, 6, 7, 8, 9, 10, 11] [] [0, 1, 2, 3, 4, 5, 6, 7, 8, 9, 10, 11] rfl rfl (by decide) (by decide) (by decide) rfl (fun H locs hP hD hS => ?_)
                    refine lv_aload_n hx hb d_fmeets_120 rfl (lv_at hl 1 rfl) ?_
                    refine lv_iload_n hx hb d_fmeets_121 rfl (lv_at hl 2 rfl) ?_
                    obtain ⟨r_54, e_54, h⟩ := ld_ob h
                    refine ld_mi (wr := ([] : List Nat).filterMap (fun i => (ld_oW f r_53.2.1 ++ ld_bW f cI fb ++ ld_eW f cI cZ r_53.2.2.1 ++ ld_sW f cI cZ r_53.2.2.2)[i]?)) (ws2 := ld_oW f r_54.2.1 ++ ld_bW f cI fb ++ ld_eW f cI cZ r_54.2.2.1 ++ ld_sW f cI cZ r_54.2.2.2) (va_runV (As := [.int p0]) (rest := [.int r_53.1]) ⟨hx, hb, hml, hown, hg⟩ (lc_fused l D cI cZ cJ f r_53.2.1 fb r_53.2.2.1 r_53.2.2.2 p0 _ N r_54 e_54) ⟨callB_of 1 hg (ld_gd k_450) rfl rfl rfl (hg _ k_30) (hg _ k_456) hd_fused ⟨Nat.le_of_ble_eq_true rfl, Nat.le_of_ble_eq_true rfl⟩, hg _ k_448, hg _ k_449⟩ (ld_preMV hP hK hN hD [0, 1, 2, 3, 4, 5, 6, 7, 8, 9, 10, 11] (by decide) rfl 7 0 rfl rfl) rfl rfl hl.1 rfl (lv_room (Nat.le_of_ble_eq_true rfl)) d_fmeets_122 ⟨Nat.zero_le _, Nat.zero_le _⟩) hP hD hS hA [0, 1, 2, 3, 4, 5, 6, 7, 8, 9, 10, 11] [] [0, 1, 2, 3, 4, 5, 6, 7, 8, 9, 10, 11] rfl rfl (by decide) (by decide) (by decide) rfl (fun H locs hP hD hS => ?_)
                    refine lv_iand hx hb d_fmeets_125 ?_
                    refine lv_iconst (v := 1) hx hb d_fmeets_126 (by decide) ?_
                    refine lv_aload_n hx hb d_fmeets_127 rfl (lv_at hl 1 rfl) ?_
                    refine va_get (D := D) (ci := 7) (v := .ref (f 2)) (C := "LoanDeskModel") (T := T_Ref) (N := 14) hx hb hg u_Ref hown hK hP 0 rfl rfl 2 (by decide) (hg _ k_372) (fun _ h9 => h9) rfl d_fmeets_128 ?_
                    refine lv_iload_n hx hb d_fmeets_131 rfl (lv_at hl 2 rfl) ?_
                    refine va_iald hx hb hK hP 2 0 rfl rfl (i := p0) i_3 d_fmeets_132 ?_
                    refine lv_ishl hx hb d_fmeets_133 ?_
                    refine lv_icmp_ne (tgt := 141) hx hb d_fmeets_134 (by decide) (fun c_55 => ?_) (fun c_55 => ?_)
                    · have h := (if_neg c_55).symm.trans h
                      refine lv_iconst (v := 0) hx hb d_fmeets_141 (by decide) ?_
                      refine lv_istore (lv' := [(4, .int 0), (3, .int 1), (0, .ref (f 0)), (1, .int p0), (2, .int p1)]) hx hb d_fmeets_142 hl (by decide) rfl (fun ls hl => ?_)
                      refine lv_iload_n hx hb d_fmeets_144 rfl (lv_at hl 1 rfl) ?_
                      refine lv_if_ne (tgt := 158) hx hb d_fmeets_145 (by decide) (fun _ => ?_) (fun c_56 => absurd c_56 (by decide))
                      refine lv_iload hx hb d_fmeets_158 (lv_at hl 0 rfl) ?_
                      refine lv_if_ne (tgt := 167) hx hb d_fmeets_160 (by decide) (fun c_57 => absurd (by decide) c_57) (fun _ => ?_)
                      refine lv_iconst (v := 1) hx hb d_fmeets_163 (by decide) ?_
                      refine lv_goto (tgt := 168) hx hb d_fmeets_164 (by decide) ?_
                      have h := Option.some.inj h
                      subst h
                      exact W.zret (v := 1) hx hb hr rfl (fun t ht hW => ⟨⟨_, (), rfl, rfl, by rw [ht]; exact hP, hD⟩, hS.F ht⟩) hS.2.2 d_fmeets_168
                    · have h := (if_pos c_55).symm.trans h
                      refine lv_iconst (v := 1) hx hb d_fmeets_137 (by decide) ?_
                      refine lv_goto (tgt := 142) hx hb d_fmeets_138 (by decide) ?_
                      refine lv_istore (lv' := [(4, .int 1), (3, .int 1), (0, .ref (f 0)), (1, .int p0), (2, .int p1)]) hx hb d_fmeets_142 hl (by decide) rfl (fun ls hl => ?_)
                      refine lv_iload_n hx hb d_fmeets_144 rfl (lv_at hl 1 rfl) ?_
                      refine lv_if_ne (tgt := 158) hx hb d_fmeets_145 (by decide) (fun _ => ?_) (fun c_58 => absurd c_58 (by decide))
                      refine lv_iload hx hb d_fmeets_158 (lv_at hl 0 rfl) ?_
                      refine lv_if_ne (tgt := 167) hx hb d_fmeets_160 (by decide) (fun _ => ?_) (fun c_59 => absurd c_59 (by decide))
                      refine lv_iconst (v := 0) hx hb d_fmeets_167 (by decide) ?_
                      have h := Option.some.inj h
                      subst h
                      exact W.zret (v := 0) hx hb hr rfl (fun t ht hW => ⟨⟨_, (), rfl, rfl, by rw [ht]; exact hP, hD⟩, hS.F ht⟩) hS.2.2 d_fmeets_168
          · have h := (if_pos c_10).symm.trans h
            refine lv_iconst (v := 0) hx hb d_fmeets_65 (by decide) ?_
            have h := Option.some.inj h
            subst h
            exact W.zret (v := 0) hx hb hr rfl (fun t ht hW => ⟨⟨_, (), rfl, rfl, by rw [ht]; exact hP, hD⟩, hS.F ht⟩) hS.2.2 d_fmeets_66
    · have h := (if_neg c_4).symm.trans h
      refine lv_aload_n hx hb d_fmeets_18 rfl (lv_at hl 0 rfl) ?_
      refine va_get (D := D) (ci := 7) (v := .ref (f 1)) (C := "LoanDeskModel") (T := T_Ref) (N := 14) hx hb hg u_Ref hown hK hP 0 rfl rfl 1 (by decide) (hg _ k_371) (fun _ h9 => h9) rfl d_fmeets_19 ?_
      refine lv_iload_n hx hb d_fmeets_22 rfl (lv_at hl 1 rfl) ?_
      refine va_iald hx hb hK hP 1 0 rfl rfl (i := p0) i_3 d_fmeets_23 ?_
      refine lv_iconst (v := 5) hx hb d_fmeets_24 (by decide) ?_
      refine lv_icmp_lt (tgt := 65) hx hb d_fmeets_25 (by decide) (fun c_60 => ?_) (fun c_60 => ?_)
      · have h := (if_pos c_60).symm.trans h
        refine lv_iconst (v := 0) hx hb d_fmeets_65 (by decide) ?_
        have h := Option.some.inj h
        subst h
        exact W.zret (v := 0) hx hb hr rfl (fun t ht hW => ⟨⟨_, (), rfl, rfl, by rw [ht]; exact hP, hD⟩, hS.F ht⟩) hS.2.2 d_fmeets_66
      · have h := (if_neg c_60).symm.trans h
        refine lv_aload_n hx hb d_fmeets_28 rfl (lv_at hl 0 rfl) ?_
        refine va_get (D := D) (ci := 7) (v := .ref (f 1)) (C := "LoanDeskModel") (T := T_Ref) (N := 14) hx hb hg u_Ref hown hK hP 0 rfl rfl 1 (by decide) (hg _ k_371) (fun _ h9 => h9) rfl d_fmeets_29 ?_
        refine lv_iload_n hx hb d_fmeets_32 rfl (lv_at hl 2 rfl) ?_
        obtain ⟨i_61, h⟩ := ld_grd h
        refine va_iald hx hb hK hP 1 0 rfl rfl (i := p1) i_61 d_fmeets_33 ?_
        refine lv_iconst (v := 1) hx hb d_fmeets_34 (by decide) ?_
        refine lv_icmp_ne (tgt := 65) hx hb d_fmeets_35 (by decide) (fun c_62 => ?_) (fun c_62 => ?_)
        · have h := (if_neg c_62).symm.trans h
          refine lv_iconst (v := 0) hx hb d_fmeets_65 (by decide) ?_
          have h := Option.some.inj h
          subst h
          exact W.zret (v := 0) hx hb hr rfl (fun t ht hW => ⟨⟨_, (), rfl, rfl, by rw [ht]; exact hP, hD⟩, hS.F ht⟩) hS.2.2 d_fmeets_66
        · have h := (if_pos c_62).symm.trans h
          refine lv_aload_n hx hb d_fmeets_38 rfl (lv_at hl 0 rfl) ?_
          refine lv_iload_n hx hb d_fmeets_39 rfl (lv_at hl 1 rfl) ?_
          refine lv_iload_n hx hb d_fmeets_40 rfl (lv_at hl 2 rfl) ?_
          obtain ⟨r_63, e_63, h⟩ := ld_ob h
          refine ld_mi (wr := ([] : List Nat).filterMap (fun i => (ld_oW f r_1.2.1 ++ ld_bW f cI fb ++ ld_eW f cI cZ r_1.2.2.1 ++ ld_sW f cI cZ r_1.2.2.2)[i]?)) (ws2 := ld_oW f r_63.2.1 ++ ld_bW f cI fb ++ ld_eW f cI cZ r_63.2.2.1 ++ ld_sW f cI cZ r_63.2.2.2) (va_runV (As := [.int p0, .int p1]) (rest := []) ⟨hx, hb, hml, hown, hg⟩ (lc_fIsAlive l D cI cZ cJ f r_1.2.1 fb r_1.2.2.1 r_1.2.2.2 p0 p1 _ N r_63 e_63) ⟨callB_of 2 hg (ld_gd k_454) rfl rfl rfl (hg _ k_30) (hg _ k_465) hd_fIsAlive ⟨Nat.le_of_ble_eq_true rfl, Nat.le_of_ble_eq_true rfl⟩, hg _ k_452, hg _ k_453⟩ (ld_preMV hP hK hN hD [0, 1, 2, 3, 4, 5, 6, 7, 8, 9, 10, 11] (by decide) rfl 7 0 rfl rfl) rfl rfl hl.1 rfl (lv_room (Nat.le_of_ble_eq_true rfl)) d_fmeets_41 ⟨Nat.zero_le _, Nat.zero_le _⟩) hP hD hS hA [0, 1, 2, 3, 4, 5, 6, 7, 8, 9, 10, 11] [] [0, 1, 2, 3, 4, 5, 6, 7, 8, 9, 10, 11] rfl rfl (by decide) (by decide) (by decide) rfl (fun H locs hP hD hS => ?_)
          refine lv_if_eq (tgt := 65) hx hb d_fmeets_44 (by decide) (fun c_64 => ?_) (fun c_64 => ?_)
          · have h := (if_pos c_64).symm.trans h
            refine lv_iconst (v := 0) hx hb d_fmeets_65 (by decide) ?_
            have h := Option.some.inj h
            subst h
            exact W.zret (v := 0) hx hb hr rfl (fun t ht hW => ⟨⟨_, (), rfl, rfl, by rw [ht]; exact hP, hD⟩, hS.F ht⟩) hS.2.2 d_fmeets_66
          · have h := (if_neg c_64).symm.trans h
            refine lv_aload_n hx hb d_fmeets_47 rfl (lv_at hl 0 rfl) ?_
            refine va_get (D := D) (ci := 7) (v := .ref (f 3)) (C := "LoanDeskModel") (T := T_Ref) (N := 14) hx hb hg u_Ref hown hK hP 0 rfl rfl 3 (by decide) (hg _ k_373) (fun _ h9 => h9) rfl d_fmeets_48 ?_
            refine lv_iload_n hx hb d_fmeets_51 rfl (lv_at hl 1 rfl) ?_
            refine va_iald hx hb hK hP 3 0 rfl rfl (i := p0) i_3 d_fmeets_52 ?_
            refine lv_aload_n hx hb d_fmeets_53 rfl (lv_at hl 0 rfl) ?_
            refine va_get (D := D) (ci := 7) (v := .ref (f 3)) (C := "LoanDeskModel") (T := T_Ref) (N := 14) hx hb hg u_Ref hown hK hP 0 rfl rfl 3 (by decide) (hg _ k_373) (fun _ h9 => h9) rfl d_fmeets_54 ?_
            refine lv_iload_n hx hb d_fmeets_57 rfl (lv_at hl 2 rfl) ?_
            refine va_iald hx hb hK hP 3 0 rfl rfl (i := p1) i_61 d_fmeets_58 ?_
            obtain ⟨r_65, e_65, h⟩ := ld_ob h
            refine ld_rd (W.runS (As := [.int (fb.2.2.1 p0.toNatClampNeg), .int (fb.2.2.1 p1.toNatClampNeg)]) (rest := []) ⟨hx, hb, hml, hown, hg⟩ (lc_foverlap l D cI cZ cJ (fb.2.2.1 p0.toNatClampNeg) (fb.2.2.1 p1.toNatClampNeg) N r_65 e_65) ⟨callB_of 2 hg (ld_gd k_468) rfl rfl rfl (hg _ k_30) (hg _ k_466) hd_foverlap ⟨Nat.le_of_ble_eq_true rfl, Nat.le_of_ble_eq_true rfl⟩, hg _ k_467⟩ (ld_preR hP hK hN [] rfl) rfl rfl hl.1 rfl (lv_room (Nat.le_of_ble_eq_true rfl)) d_fmeets_59 ⟨Nat.zero_le _, Nat.zero_le _⟩) ?_
            refine lv_if_ne (tgt := 67) hx hb d_fmeets_62 (by decide) (fun c_66 => ?_) (fun c_66 => ?_)
            · have h := (if_neg c_66).symm.trans h
              refine lv_aload_n hx hb d_fmeets_67 rfl (lv_at hl 0 rfl) ?_
              refine va_get (D := D) (ci := 7) (v := .ref (f 1)) (C := "LoanDeskModel") (T := T_Ref) (N := 14) hx hb hg u_Ref hown hK hP 0 rfl rfl 1 (by decide) (hg _ k_371) (fun _ h9 => h9) rfl d_fmeets_68 ?_
              refine lv_iload_n hx hb d_fmeets_71 rfl (lv_at hl 1 rfl) ?_
              refine va_iald hx hb hK hP 1 0 rfl rfl (i := p0) i_3 d_fmeets_72 ?_
              refine lv_bipush (v := 6) hx hb d_fmeets_73 (by decide) ?_
              refine lv_icmp_eq (tgt := 98) hx hb d_fmeets_75 (by decide) (fun c_67 => ?_) (fun c_67 => ?_)
              · have h := (if_pos c_67).symm.trans h
                refine lv_iconst (v := 1) hx hb d_fmeets_98 (by decide) ?_
                refine lv_goto (tgt := 103) hx hb d_fmeets_99 (by decide) ?_
                refine lv_istore_n (lv' := [(3, .int 1), (0, .ref (f 0)), (1, .int p0), (2, .int p1)]) hx hb d_fmeets_103 rfl hl (by decide) rfl (fun ls hl => ?_)
                refine lv_aload_n hx hb d_fmeets_104 rfl (lv_at hl 1 rfl) ?_
                refine va_get (D := D) (ci := 7) (v := .ref (f 1)) (C := "LoanDeskModel") (T := T_Ref) (N := 14) hx hb hg u_Ref hown hK hP 0 rfl rfl 1 (by decide) (hg _ k_371) (fun _ h9 => h9) rfl d_fmeets_105 ?_
                refine lv_iload_n hx hb d_fmeets_108 rfl (lv_at hl 2 rfl) ?_
                refine va_iald hx hb hK hP 1 0 rfl rfl (i := p0) i_3 d_fmeets_109 ?_
                refine lv_iconst (v := 1) hx hb d_fmeets_110 (by decide) ?_
                refine lv_icmp_ne (tgt := 141) hx hb d_fmeets_111 (by decide) (fun c_68 => ?_) (fun c_68 => ?_)
                · have h := (if_neg c_68).symm.trans h
                  refine lv_iconst (v := 0) hx hb d_fmeets_141 (by decide) ?_
                  refine lv_istore (lv' := [(4, .int 0), (3, .int 1), (0, .ref (f 0)), (1, .int p0), (2, .int p1)]) hx hb d_fmeets_142 hl (by decide) rfl (fun ls hl => ?_)
                  refine lv_iload_n hx hb d_fmeets_144 rfl (lv_at hl 1 rfl) ?_
                  refine lv_if_ne (tgt := 158) hx hb d_fmeets_145 (by decide) (fun _ => ?_) (fun c_69 => absurd c_69 (by decide))
                  refine lv_iload hx hb d_fmeets_158 (lv_at hl 0 rfl) ?_
                  refine lv_if_ne (tgt := 167) hx hb d_fmeets_160 (by decide) (fun c_70 => absurd (by decide) c_70) (fun _ => ?_)
                  refine lv_iconst (v := 1) hx hb d_fmeets_163 (by decide) ?_
                  refine lv_goto (tgt := 168) hx hb d_fmeets_164 (by decide) ?_
                  have h := Option.some.inj h
                  subst h
                  exact W.zret (v := 1) hx hb hr rfl (fun t ht hW => ⟨⟨_, (), rfl, rfl, by rw [ht]; exact hP, hD⟩, hS.F ht⟩) hS.2.2 d_fmeets_168
                · have h := (if_pos c_68).symm.trans h
                  refine lv_aload_n hx hb d_fmeets_114 rfl (lv_at hl 1 rfl) ?_
                  refine lv_iload_n hx hb d_fmeets_115 rfl (lv_at hl 2 rfl) ?_
                  refine lv_iload_n hx hb d_fmeets_116 rfl (lv_at hl 3 rfl) ?_
                  obtain ⟨r_71, e_71, h⟩ := ld_ob h
                  refine ld_mi (wr := ([] : List Nat).filterMap (fun i => (ld_oW f r_63.2.1 ++ ld_bW f cI fb ++ ld_eW f cI cZ r_63.2.2.1 ++ ld_sW f cI cZ r_63.2.2.2)[i]?)) (ws2 := ld_oW f r_71.2.1 ++ ld_bW f cI fb ++ ld_eW f cI cZ r_71.2.2.1 ++ ld_sW f cI cZ r_71.2.2.2) (va_runV (As := [.int p0, .int p1]) (rest := []) ⟨hx, hb, hml, hown, hg⟩ (lc_fholders l D cI cZ cJ f r_63.2.1 fb r_63.2.2.1 r_63.2.2.2 p0 p1 _ N r_71 e_71) ⟨callB_of 2 hg (ld_gd k_446) rfl rfl rfl (hg _ k_30) (hg _ k_455) hd_fholders ⟨Nat.le_of_ble_eq_true rfl, Nat.le_of_ble_eq_true rfl⟩, hg _ k_444, hg _ k_445⟩ (ld_preMV hP hK hN hD [0, 1, 2, 3, 4, 5, 6, 7, 8, 9, 10, 11] (by decide) rfl 7 0 rfl rfl) rfl rfl hl.1 rfl (lv_room (Nat.le_of_ble_eq_true rfl)) d_fmeets_117 ⟨Nat.zero_le _, Nat.zero_le _⟩) hP hD hS hA [0, 1, 2, 3, 4, 5, 6, 7, 8, 9, 10, 11] [] [0, 1, 2, 3, 4, 5, 6, 7, 8, 9, 10, 11] rfl rfl (by decide) (by decide) (by decide) rfl (fun H locs hP hD hS => ?_)
                  refine lv_aload_n hx hb d_fmeets_120 rfl (lv_at hl 1 rfl) ?_
                  refine lv_iload_n hx hb d_fmeets_121 rfl (lv_at hl 2 rfl) ?_
                  obtain ⟨r_72, e_72, h⟩ := ld_ob h
                  refine ld_mi (wr := ([] : List Nat).filterMap (fun i => (ld_oW f r_71.2.1 ++ ld_bW f cI fb ++ ld_eW f cI cZ r_71.2.2.1 ++ ld_sW f cI cZ r_71.2.2.2)[i]?)) (ws2 := ld_oW f r_72.2.1 ++ ld_bW f cI fb ++ ld_eW f cI cZ r_72.2.2.1 ++ ld_sW f cI cZ r_72.2.2.2) (va_runV (As := [.int p0]) (rest := [.int r_71.1]) ⟨hx, hb, hml, hown, hg⟩ (lc_fused l D cI cZ cJ f r_71.2.1 fb r_71.2.2.1 r_71.2.2.2 p0 _ N r_72 e_72) ⟨callB_of 1 hg (ld_gd k_450) rfl rfl rfl (hg _ k_30) (hg _ k_456) hd_fused ⟨Nat.le_of_ble_eq_true rfl, Nat.le_of_ble_eq_true rfl⟩, hg _ k_448, hg _ k_449⟩ (ld_preMV hP hK hN hD [0, 1, 2, 3, 4, 5, 6, 7, 8, 9, 10, 11] (by decide) rfl 7 0 rfl rfl) rfl rfl hl.1 rfl (lv_room (Nat.le_of_ble_eq_true rfl)) d_fmeets_122 ⟨Nat.zero_le _, Nat.zero_le _⟩) hP hD hS hA [0, 1, 2, 3, 4, 5, 6, 7, 8, 9, 10, 11] [] [0, 1, 2, 3, 4, 5, 6, 7, 8, 9, 10, 11] rfl rfl (by decide) (by decide) (by decide) rfl (fun H locs hP hD hS => ?_)
                  refine lv_iand hx hb d_fmeets_125 ?_
                  refine lv_iconst (v := 1) hx hb d_fmeets_126 (by decide) ?_
                  refine lv_aload_n hx hb d_fmeets_127 rfl (lv_at hl 1 rfl) ?_
                  refine va_get (D := D) (ci := 7) (v := .ref (f 2)) (C := "LoanDeskModel") (T := T_Ref) (N := 14) hx hb hg u_Ref hown hK hP 0 rfl rfl 2 (by decide) (hg _ k_372) (fun _ h9 => h9) rfl d_fmeets_128 ?_
                  refine lv_iload_n hx hb d_fmeets_131 rfl (lv_at hl 2 rfl) ?_
                  refine va_iald hx hb hK hP 2 0 rfl rfl (i := p0) i_3 d_fmeets_132 ?_
                  refine lv_ishl hx hb d_fmeets_133 ?_
                  refine lv_icmp_ne (tgt := 141) hx hb d_fmeets_134 (by decide) (fun c_73 => ?_) (fun c_73 => ?_)
                  · have h := (if_neg c_73).symm.trans h
                    refine lv_iconst (v := 0) hx hb d_fmeets_141 (by decide) ?_
                    refine lv_istore (lv' := [(4, .int 0), (3, .int 1), (0, .ref (f 0)), (1, .int p0), (2, .int p1)]) hx hb d_fmeets_142 hl (by decide) rfl (fun ls hl => ?_)
                    refine lv_iload_n hx hb d_fmeets_144 rfl (lv_at hl 1 rfl) ?_
                    refine lv_if_ne (tgt := 158) hx hb d_fmeets_145 (by decide) (fun _ => ?_) (fun c_74 => absurd c_74 (by decide))
                    refine lv_iload hx hb d_fmeets_158 (lv_at hl 0 rfl) ?_
                    refine lv_if_ne (tgt := 167) hx hb d_fmeets_160 (by decide) (fun c_75 => absurd (by decide) c_75) (fun _ => ?_)
                    refine lv_iconst (v := 1) hx hb d_fmeets_163 (by decide) ?_
                    refine lv_goto (tgt := 168) hx hb d_fmeets_164 (by decide) ?_
                    have h := Option.some.inj h
                    subst h
                    exact W.zret (v := 1) hx hb hr rfl (fun t ht hW => ⟨⟨_, (), rfl, rfl, by rw [ht]; exact hP, hD⟩, hS.F ht⟩) hS.2.2 d_fmeets_168
                  · have h := (if_pos c_73).symm.trans h
                    refine lv_iconst (v := 1) hx hb d_fmeets_137 (by decide) ?_
                    refine lv_goto (tgt := 142) hx hb d_fmeets_138 (by decide) ?_
                    refine lv_istore (lv' := [(4, .int 1), (3, .int 1), (0, .ref (f 0)), (1, .int p0), (2, .int p1)]) hx hb d_fmeets_142 hl (by decide) rfl (fun ls hl => ?_)
                    refine lv_iload_n hx hb d_fmeets_144 rfl (lv_at hl 1 rfl) ?_
                    refine lv_if_ne (tgt := 158) hx hb d_fmeets_145 (by decide) (fun _ => ?_) (fun c_76 => absurd c_76 (by decide))
                    refine lv_iload hx hb d_fmeets_158 (lv_at hl 0 rfl) ?_
                    refine lv_if_ne (tgt := 167) hx hb d_fmeets_160 (by decide) (fun _ => ?_) (fun c_77 => absurd c_77 (by decide))
                    refine lv_iconst (v := 0) hx hb d_fmeets_167 (by decide) ?_
                    have h := Option.some.inj h
                    subst h
                    exact W.zret (v := 0) hx hb hr rfl (fun t ht hW => ⟨⟨_, (), rfl, rfl, by rw [ht]; exact hP, hD⟩, hS.F ht⟩) hS.2.2 d_fmeets_168
              · have h := (if_neg c_67).symm.trans h
                refine lv_aload_n hx hb d_fmeets_78 rfl (lv_at hl 0 rfl) ?_
                refine va_get (D := D) (ci := 7) (v := .ref (f 1)) (C := "LoanDeskModel") (T := T_Ref) (N := 14) hx hb hg u_Ref hown hK hP 0 rfl rfl 1 (by decide) (hg _ k_371) (fun _ h9 => h9) rfl d_fmeets_79 ?_
                refine lv_iload_n hx hb d_fmeets_82 rfl (lv_at hl 1 rfl) ?_
                refine va_iald hx hb hK hP 1 0 rfl rfl (i := p0) i_3 d_fmeets_83 ?_
                refine lv_iconst (v := 1) hx hb d_fmeets_84 (by decide) ?_
                refine lv_icmp_ne (tgt := 102) hx hb d_fmeets_85 (by decide) (fun c_78 => ?_) (fun c_78 => ?_)
                · have h := (if_neg c_78).symm.trans h
                  refine lv_iconst (v := 0) hx hb d_fmeets_102 (by decide) ?_
                  refine lv_istore_n (lv' := [(3, .int 0), (0, .ref (f 0)), (1, .int p0), (2, .int p1)]) hx hb d_fmeets_103 rfl hl (by decide) rfl (fun ls hl => ?_)
                  refine lv_aload_n hx hb d_fmeets_104 rfl (lv_at hl 1 rfl) ?_
                  refine va_get (D := D) (ci := 7) (v := .ref (f 1)) (C := "LoanDeskModel") (T := T_Ref) (N := 14) hx hb hg u_Ref hown hK hP 0 rfl rfl 1 (by decide) (hg _ k_371) (fun _ h9 => h9) rfl d_fmeets_105 ?_
                  refine lv_iload_n hx hb d_fmeets_108 rfl (lv_at hl 2 rfl) ?_
                  refine va_iald hx hb hK hP 1 0 rfl rfl (i := p0) i_3 d_fmeets_109 ?_
                  refine lv_iconst (v := 1) hx hb d_fmeets_110 (by decide) ?_
                  refine lv_icmp_ne (tgt := 141) hx hb d_fmeets_111 (by decide) (fun c_79 => ?_) (fun c_79 => ?_)
                  · have h := (if_neg c_79).symm.trans h
                    refine lv_iconst (v := 0) hx hb d_fmeets_141 (by decide) ?_
                    refine lv_istore (lv' := [(4, .int 0), (3, .int 0), (0, .ref (f 0)), (1, .int p0), (2, .int p1)]) hx hb d_fmeets_142 hl (by decide) rfl (fun ls hl => ?_)
                    refine lv_iload_n hx hb d_fmeets_144 rfl (lv_at hl 1 rfl) ?_
                    refine lv_if_ne (tgt := 158) hx hb d_fmeets_145 (by decide) (fun c_80 => absurd (by decide) c_80) (fun _ => ?_)
                    refine lv_aload_n hx hb d_fmeets_148 rfl (lv_at hl 2 rfl) ?_
                    refine va_get (D := D) (ci := 7) (v := .ref (f 4)) (C := "LoanDeskModel") (T := T_Ref) (N := 14) hx hb hg u_Ref hown hK hP 0 rfl rfl 4 (by decide) (hg _ k_374) (fun _ h9 => h9) rfl d_fmeets_149 ?_
                    refine lv_iload_n hx hb d_fmeets_152 rfl (lv_at hl 4 rfl) ?_
                    refine va_iald hx hb hK hP 4 0 rfl rfl (i := p1) i_61 d_fmeets_153 ?_
                    refine lv_iconst (v := 1) hx hb d_fmeets_154 (by decide) ?_
                    refine lv_icmp_ne (tgt := 167) hx hb d_fmeets_155 (by decide) (fun c_81 => ?_) (fun c_81 => ?_)
                    · have h := (if_neg c_81).symm.trans h
                      refine lv_iconst (v := 0) hx hb d_fmeets_167 (by decide) ?_
                      have h := Option.some.inj h
                      subst h
                      exact W.zret (v := 0) hx hb hr rfl (fun t ht hW => ⟨⟨_, (), rfl, rfl, by rw [ht]; exact hP, hD⟩, hS.F ht⟩) hS.2.2 d_fmeets_168
                    · have h := (if_pos c_81).symm.trans h
                      refine lv_iload hx hb d_fmeets_158 (lv_at hl 0 rfl) ?_
                      refine lv_if_ne (tgt := 167) hx hb d_fmeets_160 (by decide) (fun c_82 => absurd (by decide) c_82) (fun _ => ?_)
                      refine lv_iconst (v := 1) hx hb d_fmeets_163 (by decide) ?_
                      refine lv_goto (tgt := 168) hx hb d_fmeets_164 (by decide) ?_
                      have h := Option.some.inj h
                      subst h
                      exact W.zret (v := 1) hx hb hr rfl (fun t ht hW => ⟨⟨_, (), rfl, rfl, by rw [ht]; exact hP, hD⟩, hS.F ht⟩) hS.2.2 d_fmeets_168
                  · have h := (if_pos c_79).symm.trans h
                    refine lv_aload_n hx hb d_fmeets_114 rfl (lv_at hl 1 rfl) ?_
                    refine lv_iload_n hx hb d_fmeets_115 rfl (lv_at hl 2 rfl) ?_
                    refine lv_iload_n hx hb d_fmeets_116 rfl (lv_at hl 3 rfl) ?_
                    obtain ⟨r_83, e_83, h⟩ := ld_ob h
                    refine ld_mi (wr := ([] : List Nat).filterMap (fun i => (ld_oW f r_63.2.1 ++ ld_bW f cI fb ++ ld_eW f cI cZ r_63.2.2.1 ++ ld_sW f cI cZ r_63.2.2.2)[i]?)) (ws2 := ld_oW f r_83.2.1 ++ ld_bW f cI fb ++ ld_eW f cI cZ r_83.2.2.1 ++ ld_sW f cI cZ r_83.2.2.2) (va_runV (As := [.int p0, .int p1]) (rest := []) ⟨hx, hb, hml, hown, hg⟩ (lc_fholders l D cI cZ cJ f r_63.2.1 fb r_63.2.2.1 r_63.2.2.2 p0 p1 _ N r_83 e_83) ⟨callB_of 2 hg (ld_gd k_446) rfl rfl rfl (hg _ k_30) (hg _ k_455) hd_fholders ⟨Nat.le_of_ble_eq_true rfl, Nat.le_of_ble_eq_true rfl⟩, hg _ k_444, hg _ k_445⟩ (ld_preMV hP hK hN hD [0, 1, 2, 3, 4, 5, 6, 7, 8, 9, 10, 11] (by decide) rfl 7 0 rfl rfl) rfl rfl hl.1 rfl (lv_room (Nat.le_of_ble_eq_true rfl)) d_fmeets_117 ⟨Nat.zero_le _, Nat.zero_le _⟩) hP hD hS hA [0, 1, 2, 3, 4, 5, 6, 7, 8, 9, 10, 11] [] [0, 1, 2, 3, 4, 5, 6, 7, 8, 9, 10, 11] rfl rfl (by decide) (by decide) (by decide) rfl (fun H locs hP hD hS => ?_)
                    refine lv_aload_n hx hb d_fmeets_120 rfl (lv_at hl 1 rfl) ?_
                    refine lv_iload_n hx hb d_fmeets_121 rfl (lv_at hl 2 rfl) ?_
                    obtain ⟨r_84, e_84, h⟩ := ld_ob h
                    refine ld_mi (wr := ([] : List Nat).filterMap (fun i => (ld_oW f r_83.2.1 ++ ld_bW f cI fb ++ ld_eW f cI cZ r_83.2.2.1 ++ ld_sW f cI cZ r_83.2.2.2)[i]?)) (ws2 := ld_oW f r_84.2.1 ++ ld_bW f cI fb ++ ld_eW f cI cZ r_84.2.2.1 ++ ld_sW f cI cZ r_84.2.2.2) (va_runV (As := [.int p0]) (rest := [.int r_83.1]) ⟨hx, hb, hml, hown, hg⟩ (lc_fused l D cI cZ cJ f r_83.2.1 fb r_83.2.2.1 r_83.2.2.2 p0 _ N r_84 e_84) ⟨callB_of 1 hg (ld_gd k_450) rfl rfl rfl (hg _ k_30) (hg _ k_456) hd_fused ⟨Nat.le_of_ble_eq_true rfl, Nat.le_of_ble_eq_true rfl⟩, hg _ k_448, hg _ k_449⟩ (ld_preMV hP hK hN hD [0, 1, 2, 3, 4, 5, 6, 7, 8, 9, 10, 11] (by decide) rfl 7 0 rfl rfl) rfl rfl hl.1 rfl (lv_room (Nat.le_of_ble_eq_true rfl)) d_fmeets_122 ⟨Nat.zero_le _, Nat.zero_le _⟩) hP hD hS hA [0, 1, 2, 3, 4, 5, 6, 7, 8, 9, 10, 11] [] [0, 1, 2, 3, 4, 5, 6, 7, 8, 9, 10, 11] rfl rfl (by decide) (by decide) (by decide) rfl (fun H locs hP hD hS => ?_)
                    refine lv_iand hx hb d_fmeets_125 ?_
                    refine lv_iconst (v := 1) hx hb d_fmeets_126 (by decide) ?_
                    refine lv_aload_n hx hb d_fmeets_127 rfl (lv_at hl 1 rfl) ?_
                    refine va_get (D := D) (ci := 7) (v := .ref (f 2)) (C := "LoanDeskModel") (T := T_Ref) (N := 14) hx hb hg u_Ref hown hK hP 0 rfl rfl 2 (by decide) (hg _ k_372) (fun _ h9 => h9) rfl d_fmeets_128 ?_
                    refine lv_iload_n hx hb d_fmeets_131 rfl (lv_at hl 2 rfl) ?_
                    refine va_iald hx hb hK hP 2 0 rfl rfl (i := p0) i_3 d_fmeets_132 ?_
                    refine lv_ishl hx hb d_fmeets_133 ?_
                    refine lv_icmp_ne (tgt := 141) hx hb d_fmeets_134 (by decide) (fun c_85 => ?_) (fun c_85 => ?_)
                    · have h := (if_neg c_85).symm.trans h
                      refine lv_iconst (v := 0) hx hb d_fmeets_141 (by decide) ?_
                      refine lv_istore (lv' := [(4, .int 0), (3, .int 0), (0, .ref (f 0)), (1, .int p0), (2, .int p1)]) hx hb d_fmeets_142 hl (by decide) rfl (fun ls hl => ?_)
                      refine lv_iload_n hx hb d_fmeets_144 rfl (lv_at hl 1 rfl) ?_
                      refine lv_if_ne (tgt := 158) hx hb d_fmeets_145 (by decide) (fun c_86 => absurd (by decide) c_86) (fun _ => ?_)
                      refine lv_aload_n hx hb d_fmeets_148 rfl (lv_at hl 2 rfl) ?_
                      refine va_get (D := D) (ci := 7) (v := .ref (f 4)) (C := "LoanDeskModel") (T := T_Ref) (N := 14) hx hb hg u_Ref hown hK hP 0 rfl rfl 4 (by decide) (hg _ k_374) (fun _ h9 => h9) rfl d_fmeets_149 ?_
                      refine lv_iload_n hx hb d_fmeets_152 rfl (lv_at hl 4 rfl) ?_
                      refine va_iald hx hb hK hP 4 0 rfl rfl (i := p1) i_61 d_fmeets_153 ?_
                      refine lv_iconst (v := 1) hx hb d_fmeets_154 (by decide) ?_
                      refine lv_icmp_ne (tgt := 167) hx hb d_fmeets_155 (by decide) (fun c_87 => ?_) (fun c_87 => ?_)
                      · have h := (if_neg c_87).symm.trans h
                        refine lv_iconst (v := 0) hx hb d_fmeets_167 (by decide) ?_
                        have h := Option.some.inj h
                        subst h
                        exact W.zret (v := 0) hx hb hr rfl (fun t ht hW => ⟨⟨_, (), rfl, rfl, by rw [ht]; exact hP, hD⟩, hS.F ht⟩) hS.2.2 d_fmeets_168
                      · have h := (if_pos c_87).symm.trans h
                        refine lv_iload hx hb d_fmeets_158 (lv_at hl 0 rfl) ?_
                        refine lv_if_ne (tgt := 167) hx hb d_fmeets_160 (by decide) (fun c_88 => absurd (by decide) c_88) (fun _ => ?_)
                        refine lv_iconst (v := 1) hx hb d_fmeets_163 (by decide) ?_
                        refine lv_goto (tgt := 168) hx hb d_fmeets_164 (by decide) ?_
                        have h := Option.some.inj h
                        subst h
                        exact W.zret (v := 1) hx hb hr rfl (fun t ht hW => ⟨⟨_, (), rfl, rfl, by rw [ht]; exact hP, hD⟩, hS.F ht⟩) hS.2.2 d_fmeets_168
                    · have h := (if_pos c_85).symm.trans h
                      refine lv_iconst (v := 1) hx hb d_fmeets_137 (by decide) ?_
                      refine lv_goto (tgt := 142) hx hb d_fmeets_138 (by decide) ?_
                      refine lv_istore (lv' := [(4, .int 1), (3, .int 0), (0, .ref (f 0)), (1, .int p0), (2, .int p1)]) hx hb d_fmeets_142 hl (by decide) rfl (fun ls hl => ?_)
                      refine lv_iload_n hx hb d_fmeets_144 rfl (lv_at hl 1 rfl) ?_
                      refine lv_if_ne (tgt := 158) hx hb d_fmeets_145 (by decide) (fun c_89 => absurd (by decide) c_89) (fun _ => ?_)
                      refine lv_aload_n hx hb d_fmeets_148 rfl (lv_at hl 2 rfl) ?_
                      refine va_get (D := D) (ci := 7) (v := .ref (f 4)) (C := "LoanDeskModel") (T := T_Ref) (N := 14) hx hb hg u_Ref hown hK hP 0 rfl rfl 4 (by decide) (hg _ k_374) (fun _ h9 => h9) rfl d_fmeets_149 ?_
                      refine lv_iload_n hx hb d_fmeets_152 rfl (lv_at hl 4 rfl) ?_
                      refine va_iald hx hb hK hP 4 0 rfl rfl (i := p1) i_61 d_fmeets_153 ?_
                      refine lv_iconst (v := 1) hx hb d_fmeets_154 (by decide) ?_
                      refine lv_icmp_ne (tgt := 167) hx hb d_fmeets_155 (by decide) (fun c_90 => ?_) (fun c_90 => ?_)
                      · have h := (if_neg c_90).symm.trans h
                        refine lv_iconst (v := 0) hx hb d_fmeets_167 (by decide) ?_
                        have h := Option.some.inj h
                        subst h
                        exact W.zret (v := 0) hx hb hr rfl (fun t ht hW => ⟨⟨_, (), rfl, rfl, by rw [ht]; exact hP, hD⟩, hS.F ht⟩) hS.2.2 d_fmeets_168
                      · have h := (if_pos c_90).symm.trans h
                        refine lv_iload hx hb d_fmeets_158 (lv_at hl 0 rfl) ?_
                        refine lv_if_ne (tgt := 167) hx hb d_fmeets_160 (by decide) (fun _ => ?_) (fun c_91 => absurd c_91 (by decide))
                        refine lv_iconst (v := 0) hx hb d_fmeets_167 (by decide) ?_
                        have h := Option.some.inj h
                        subst h
                        exact W.zret (v := 0) hx hb hr rfl (fun t ht hW => ⟨⟨_, (), rfl, rfl, by rw [ht]; exact hP, hD⟩, hS.F ht⟩) hS.2.2 d_fmeets_168
                · have h := (if_pos c_78).symm.trans h
                  refine lv_aload_n hx hb d_fmeets_88 rfl (lv_at hl 0 rfl) ?_
                  refine va_get (D := D) (ci := 7) (v := .ref (f 4)) (C := "LoanDeskModel") (T := T_Ref) (N := 14) hx hb hg u_Ref hown hK hP 0 rfl rfl 4 (by decide) (hg _ k_374) (fun _ h9 => h9) rfl d_fmeets_89 ?_
                  refine lv_iload_n hx hb d_fmeets_92 rfl (lv_at hl 1 rfl) ?_
                  refine va_iald hx hb hK hP 4 0 rfl rfl (i := p0) i_3 d_fmeets_93 ?_
                  refine lv_iconst (v := 1) hx hb d_fmeets_94 (by decide) ?_
                  refine lv_icmp_ne (tgt := 102) hx hb d_fmeets_95 (by decide) (fun c_92 => ?_) (fun c_92 => ?_)
                  · have h := (if_neg c_92).symm.trans h
                    refine lv_iconst (v := 0) hx hb d_fmeets_102 (by decide) ?_
                    refine lv_istore_n (lv' := [(3, .int 0), (0, .ref (f 0)), (1, .int p0), (2, .int p1)]) hx hb d_fmeets_103 rfl hl (by decide) rfl (fun ls hl => ?_)
                    refine lv_aload_n hx hb d_fmeets_104 rfl (lv_at hl 1 rfl) ?_
                    refine va_get (D := D) (ci := 7) (v := .ref (f 1)) (C := "LoanDeskModel") (T := T_Ref) (N := 14) hx hb hg u_Ref hown hK hP 0 rfl rfl 1 (by decide) (hg _ k_371) (fun _ h9 => h9) rfl d_fmeets_105 ?_
                    refine lv_iload_n hx hb d_fmeets_108 rfl (lv_at hl 2 rfl) ?_
                    refine va_iald hx hb hK hP 1 0 rfl rfl (i := p0) i_3 d_fmeets_109 ?_
                    refine lv_iconst (v := 1) hx hb d_fmeets_110 (by decide) ?_
                    refine lv_icmp_ne (tgt := 141) hx hb d_fmeets_111 (by decide) (fun c_93 => ?_) (fun c_93 => ?_)
                    · have h := (if_neg c_93).symm.trans h
                      refine lv_iconst (v := 0) hx hb d_fmeets_141 (by decide) ?_
                      refine lv_istore (lv' := [(4, .int 0), (3, .int 0), (0, .ref (f 0)), (1, .int p0), (2, .int p1)]) hx hb d_fmeets_142 hl (by decide) rfl (fun ls hl => ?_)
                      refine lv_iload_n hx hb d_fmeets_144 rfl (lv_at hl 1 rfl) ?_
                      refine lv_if_ne (tgt := 158) hx hb d_fmeets_145 (by decide) (fun c_94 => absurd (by decide) c_94) (fun _ => ?_)
                      refine lv_aload_n hx hb d_fmeets_148 rfl (lv_at hl 2 rfl) ?_
                      refine va_get (D := D) (ci := 7) (v := .ref (f 4)) (C := "LoanDeskModel") (T := T_Ref) (N := 14) hx hb hg u_Ref hown hK hP 0 rfl rfl 4 (by decide) (hg _ k_374) (fun _ h9 => h9) rfl d_fmeets_149 ?_
                      refine lv_iload_n hx hb d_fmeets_152 rfl (lv_at hl 4 rfl) ?_
                      refine va_iald hx hb hK hP 4 0 rfl rfl (i := p1) i_61 d_fmeets_153 ?_
                      refine lv_iconst (v := 1) hx hb d_fmeets_154 (by decide) ?_
                      refine lv_icmp_ne (tgt := 167) hx hb d_fmeets_155 (by decide) (fun c_95 => ?_) (fun c_95 => ?_)
                      · have h := (if_neg c_95).symm.trans h
                        refine lv_iconst (v := 0) hx hb d_fmeets_167 (by decide) ?_
                        have h := Option.some.inj h
                        subst h
                        exact W.zret (v := 0) hx hb hr rfl (fun t ht hW => ⟨⟨_, (), rfl, rfl, by rw [ht]; exact hP, hD⟩, hS.F ht⟩) hS.2.2 d_fmeets_168
                      · have h := (if_pos c_95).symm.trans h
                        refine lv_iload hx hb d_fmeets_158 (lv_at hl 0 rfl) ?_
                        refine lv_if_ne (tgt := 167) hx hb d_fmeets_160 (by decide) (fun c_96 => absurd (by decide) c_96) (fun _ => ?_)
                        refine lv_iconst (v := 1) hx hb d_fmeets_163 (by decide) ?_
                        refine lv_goto (tgt := 168) hx hb d_fmeets_164 (by decide) ?_
                        have h := Option.some.inj h
                        subst h
                        exact W.zret (v := 1) hx hb hr rfl (fun t ht hW => ⟨⟨_, (), rfl, rfl, by rw [ht]; exact hP, hD⟩, hS.F ht⟩) hS.2.2 d_fmeets_168
                    · have h := (if_pos c_93).symm.trans h
                      refine lv_aload_n hx hb d_fmeets_114 rfl (lv_at hl 1 rfl) ?_
                      refine lv_iload_n hx hb d_fmeets_115 rfl (lv_at hl 2 rfl) ?_
                      refine lv_iload_n hx hb d_fmeets_116 rfl (lv_at hl 3 rfl) ?_
                      obtain ⟨r_97, e_97, h⟩ := ld_ob h
                      refine ld_mi (wr := ([] : List Nat).filterMap (fun i => (ld_oW f r_63.2.1 ++ ld_bW f cI fb ++ ld_eW f cI cZ r_63.2.2.1 ++ ld_sW f cI cZ r_63.2.2.2)[i]?)) (ws2 := ld_oW f r_97.2.1 ++ ld_bW f cI fb ++ ld_eW f cI cZ r_97.2.2.1 ++ ld_sW f cI cZ r_97.2.2.2) (va_runV (As := [.int p0, .int p1]) (rest := []) ⟨hx, hb, hml, hown, hg⟩ (lc_fholders l D cI cZ cJ f r_63.2.1 fb r_63.2.2.1 r_63.2.2.2 p0 p1 _ N r_97 e_97) ⟨callB_of 2 hg (ld_gd k_446) rfl rfl rfl (hg _ k_30) (hg _ k_455) hd_fholders ⟨Nat.le_of_ble_eq_true rfl, Nat.le_of_ble_eq_true rfl⟩, hg _ k_444, hg _ k_445⟩ (ld_preMV hP hK hN hD [0, 1, 2, 3, 4, 5, 6, 7, 8, 9, 10, 11] (by decide) rfl 7 0 rfl rfl) rfl rfl hl.1 rfl (lv_room (Nat.le_of_ble_eq_true rfl)) d_fmeets_117 ⟨Nat.zero_le _, Nat.zero_le _⟩) hP hD hS hA [0, 1, 2, 3, 4, 5, 6, 7, 8, 9, 10, 11] [] [0, 1, 2, 3, 4, 5, 6, 7, 8, 9, 10, 11] rfl rfl (by decide) (by decide) (by decide) rfl (fun H locs hP hD hS => ?_)
                      refine lv_aload_n hx hb d_fmeets_120 rfl (lv_at hl 1 rfl) ?_
                      refine lv_iload_n hx hb d_fmeets_121 rfl (lv_at hl 2 rfl) ?_
                      obtain ⟨r_98, e_98, h⟩ := ld_ob h
                      refine ld_mi (wr := ([] : List Nat).filterMap (fun i => (ld_oW f r_97.2.1 ++ ld_bW f cI fb ++ ld_eW f cI cZ r_97.2.2.1 ++ ld_sW f cI cZ r_97.2.2.2)[i]?)) (ws2 := ld_oW f r_98.2.1 ++ ld_bW f cI fb ++ ld_eW f cI cZ r_98.2.2.1 ++ ld_sW f cI cZ r_98.2.2.2) (va_runV (As := [.int p0]) (rest := [.int r_97.1]) ⟨hx, hb, hml, hown, hg⟩ (lc_fused l D cI cZ cJ f r_97.2.1 fb r_97.2.2.1 r_97.2.2.2 p0 _ N r_98 e_98) ⟨callB_of 1 hg (ld_gd k_450) rfl rfl rfl (hg _ k_30) (hg _ k_456) hd_fused ⟨Nat.le_of_ble_eq_true rfl, Nat.le_of_ble_eq_true rfl⟩, hg _ k_448, hg _ k_449⟩ (ld_preMV hP hK hN hD [0, 1, 2, 3, 4, 5, 6, 7, 8, 9, 10, 11] (by decide) rfl 7 0 rfl rfl) rfl rfl hl.1 rfl (lv_room (Nat.le_of_ble_eq_true rfl)) d_fmeets_122 ⟨Nat.zero_le _, Nat.zero_le _⟩) hP hD hS hA [0, 1, 2, 3, 4, 5, 6, 7, 8, 9, 10, 11] [] [0, 1, 2, 3, 4, 5, 6, 7, 8, 9, 10, 11] rfl rfl (by decide) (by decide) (by decide) rfl (fun H locs hP hD hS => ?_)
                      refine lv_iand hx hb d_fmeets_125 ?_
                      refine lv_iconst (v := 1) hx hb d_fmeets_126 (by decide) ?_
                      refine lv_aload_n hx hb d_fmeets_127 rfl (lv_at hl 1 rfl) ?_
                      refine va_get (D := D) (ci := 7) (v := .ref (f 2)) (C := "LoanDeskModel") (T := T_Ref) (N := 14) hx hb hg u_Ref hown hK hP 0 rfl rfl 2 (by decide) (hg _ k_372) (fun _ h9 => h9) rfl d_fmeets_128 ?_
                      refine lv_iload_n hx hb d_fmeets_131 rfl (lv_at hl 2 rfl) ?_
                      refine va_iald hx hb hK hP 2 0 rfl rfl (i := p0) i_3 d_fmeets_132 ?_
                      refine lv_ishl hx hb d_fmeets_133 ?_
                      refine lv_icmp_ne (tgt := 141) hx hb d_fmeets_134 (by decide) (fun c_99 => ?_) (fun c_99 => ?_)
                      · have h := (if_neg c_99).symm.trans h
                        refine lv_iconst (v := 0) hx hb d_fmeets_141 (by decide) ?_
                        refine lv_istore (lv' := [(4, .int 0), (3, .int 0), (0, .ref (f 0)), (1, .int p0), (2, .int p1)]) hx hb d_fmeets_142 hl (by decide) rfl (fun ls hl => ?_)
                        refine lv_iload_n hx hb d_fmeets_144 rfl (lv_at hl 1 rfl) ?_
                        refine lv_if_ne (tgt := 158) hx hb d_fmeets_145 (by decide) (fun c_100 => absurd (by decide) c_100) (fun _ => ?_)
                        refine lv_aload_n hx hb d_fmeets_148 rfl (lv_at hl 2 rfl) ?_
                        refine va_get (D := D) (ci := 7) (v := .ref (f 4)) (C := "LoanDeskModel") (T := T_Ref) (N := 14) hx hb hg u_Ref hown hK hP 0 rfl rfl 4 (by decide) (hg _ k_374) (fun _ h9 => h9) rfl d_fmeets_149 ?_
                        refine lv_iload_n hx hb d_fmeets_152 rfl (lv_at hl 4 rfl) ?_
                        refine va_iald hx hb hK hP 4 0 rfl rfl (i := p1) i_61 d_fmeets_153 ?_
                        refine lv_iconst (v := 1) hx hb d_fmeets_154 (by decide) ?_
                        refine lv_icmp_ne (tgt := 167) hx hb d_fmeets_155 (by decide) (fun c_101 => ?_) (fun c_101 => ?_)
                        · have h := (if_neg c_101).symm.trans h
                          refine lv_iconst (v := 0) hx hb d_fmeets_167 (by decide) ?_
                          have h := Option.some.inj h
                          subst h
                          exact W.zret (v := 0) hx hb hr rfl (fun t ht hW => ⟨⟨_, (), rfl, rfl, by rw [ht]; exact hP, hD⟩, hS.F ht⟩) hS.2.2 d_fmeets_168
                        · have h := (if_pos c_101).symm.trans h
                          refine lv_iload hx hb d_fmeets_158 (lv_at hl 0 rfl) ?_
                          refine lv_if_ne (tgt := 167) hx hb d_fmeets_160 (by decide) (fun c_102 => absurd (by decide) c_102) (fun _ => ?_)
                          refine lv_iconst (v := 1) hx hb d_fmeets_163 (by decide) ?_
                          refine lv_goto (tgt := 168) hx hb d_fmeets_164 (by decide) ?_
                          have h := Option.some.inj h
                          subst h
                          exact W.zret (v := 1) hx hb hr rfl (fun t ht hW => ⟨⟨_, (), rfl, rfl, by rw [ht]; exact hP, hD⟩, hS.F ht⟩) hS.2.2 d_fmeets_168
                      · have h := (if_pos c_99).symm.trans h
                        refine lv_iconst (v := 1) hx hb d_fmeets_137 (by decide) ?_
                        refine lv_goto (tgt := 142) hx hb d_fmeets_138 (by decide) ?_
                        refine lv_istore (lv' := [(4, .int 1), (3, .int 0), (0, .ref (f 0)), (1, .int p0), (2, .int p1)]) hx hb d_fmeets_142 hl (by decide) rfl (fun ls hl => ?_)
                        refine lv_iload_n hx hb d_fmeets_144 rfl (lv_at hl 1 rfl) ?_
                        refine lv_if_ne (tgt := 158) hx hb d_fmeets_145 (by decide) (fun c_103 => absurd (by decide) c_103) (fun _ => ?_)
                        refine lv_aload_n hx hb d_fmeets_148 rfl (lv_at hl 2 rfl) ?_
                        refine va_get (D := D) (ci := 7) (v := .ref (f 4)) (C := "LoanDeskModel") (T := T_Ref) (N := 14) hx hb hg u_Ref hown hK hP 0 rfl rfl 4 (by decide) (hg _ k_374) (fun _ h9 => h9) rfl d_fmeets_149 ?_
                        refine lv_iload_n hx hb d_fmeets_152 rfl (lv_at hl 4 rfl) ?_
                        refine va_iald hx hb hK hP 4 0 rfl rfl (i := p1) i_61 d_fmeets_153 ?_
                        refine lv_iconst (v := 1) hx hb d_fmeets_154 (by decide) ?_
                        refine lv_icmp_ne (tgt := 167) hx hb d_fmeets_155 (by decide) (fun c_104 => ?_) (fun c_104 => ?_)
                        · have h := (if_neg c_104).symm.trans h
                          refine lv_iconst (v := 0) hx hb d_fmeets_167 (by decide) ?_
                          have h := Option.some.inj h
                          subst h
                          exact W.zret (v := 0) hx hb hr rfl (fun t ht hW => ⟨⟨_, (), rfl, rfl, by rw [ht]; exact hP, hD⟩, hS.F ht⟩) hS.2.2 d_fmeets_168
                        · have h := (if_pos c_104).symm.trans h
                          refine lv_iload hx hb d_fmeets_158 (lv_at hl 0 rfl) ?_
                          refine lv_if_ne (tgt := 167) hx hb d_fmeets_160 (by decide) (fun _ => ?_) (fun c_105 => absurd c_105 (by decide))
                          refine lv_iconst (v := 0) hx hb d_fmeets_167 (by decide) ?_
                          have h := Option.some.inj h
                          subst h
                          exact W.zret (v := 0) hx hb hr rfl (fun t ht hW => ⟨⟨_, (), rfl, rfl, by rw [ht]; exact hP, hD⟩, hS.F ht⟩) hS.2.2 d_fmeets_168
                  · have h := (if_pos c_92).symm.trans h
                    refine lv_iconst (v := 1) hx hb d_fmeets_98 (by decide) ?_
                    refine lv_goto (tgt := 103) hx hb d_fmeets_99 (by decide) ?_
                    refine lv_istore_n (lv' := [(3, .int 1), (0, .ref (f 0)), (1, .int p0), (2, .int p1)]) hx hb d_fmeets_103 rfl hl (by decide) rfl (fun ls hl => ?_)
                    refine lv_aload_n hx hb d_fmeets_104 rfl (lv_at hl 1 rfl) ?_
                    refine va_get (D := D) (ci := 7) (v := .ref (f 1)) (C := "LoanDeskModel") (T := T_Ref) (N := 14) hx hb hg u_Ref hown hK hP 0 rfl rfl 1 (by decide) (hg _ k_371) (fun _ h9 => h9) rfl d_fmeets_105 ?_
                    refine lv_iload_n hx hb d_fmeets_108 rfl (lv_at hl 2 rfl) ?_
                    refine va_iald hx hb hK hP 1 0 rfl rfl (i := p0) i_3 d_fmeets_109 ?_
                    refine lv_iconst (v := 1) hx hb d_fmeets_110 (by decide) ?_
                    refine lv_icmp_ne (tgt := 141) hx hb d_fmeets_111 (by decide) (fun c_106 => ?_) (fun c_106 => ?_)
                    · have h := (if_neg c_106).symm.trans h
                      refine lv_iconst (v := 0) hx hb d_fmeets_141 (by decide) ?_
                      refine lv_istore (lv' := [(4, .int 0), (3, .int 1), (0, .ref (f 0)), (1, .int p0), (2, .int p1)]) hx hb d_fmeets_142 hl (by decide) rfl (fun ls hl => ?_)
                      refine lv_iload_n hx hb d_fmeets_144 rfl (lv_at hl 1 rfl) ?_
                      refine lv_if_ne (tgt := 158) hx hb d_fmeets_145 (by decide) (fun _ => ?_) (fun c_107 => absurd c_107 (by decide))
                      refine lv_iload hx hb d_fmeets_158 (lv_at hl 0 rfl) ?_
                      refine lv_if_ne (tgt := 167) hx hb d_fmeets_160 (by decide) (fun c_108 => absurd (by decide) c_108) (fun _ => ?_)
                      refine lv_iconst (v := 1) hx hb d_fmeets_163 (by decide) ?_
                      refine lv_goto (tgt := 168) hx hb d_fmeets_164 (by decide) ?_
                      have h := Option.some.inj h
                      subst h
                      exact W.zret (v := 1) hx hb hr rfl (fun t ht hW => ⟨⟨_, (), rfl, rfl, by rw [ht]; exact hP, hD⟩, hS.F ht⟩) hS.2.2 d_fmeets_168
                    · have h := (if_pos c_106).symm.trans h
                      refine lv_aload_n hx hb d_fmeets_114 rfl (lv_at hl 1 rfl) ?_
                      refine lv_iload_n hx hb d_fmeets_115 rfl (lv_at hl 2 rfl) ?_
                      refine lv_iload_n hx hb d_fmeets_116 rfl (lv_at hl 3 rfl) ?_
                      obtain ⟨r_109, e_109, h⟩ := ld_ob h
                      refine ld_mi (wr := ([] : List Nat).filterMap (fun i => (ld_oW f r_63.2.1 ++ ld_bW f cI fb ++ ld_eW f cI cZ r_63.2.2.1 ++ ld_sW f cI cZ r_63.2.2.2)[i]?)) (ws2 := ld_oW f r_109.2.1 ++ ld_bW f cI fb ++ ld_eW f cI cZ r_109.2.2.1 ++ ld_sW f cI cZ r_109.2.2.2) (va_runV (As := [.int p0, .int p1]) (rest := []) ⟨hx, hb, hml, hown, hg⟩ (lc_fholders l D cI cZ cJ f r_63.2.1 fb r_63.2.2.1 r_63.2.2.2 p0 p1 _ N r_109 e_109) ⟨callB_of 2 hg (ld_gd k_446) rfl rfl rfl (hg _ k_30) (hg _ k_455) hd_fholders ⟨Nat.le_of_ble_eq_true rfl, Nat.le_of_ble_eq_true rfl⟩, hg _ k_444, hg _ k_445⟩ (ld_preMV hP hK hN hD [0, 1, 2, 3, 4, 5, 6, 7, 8, 9, 10, 11] (by decide) rfl 7 0 rfl rfl) rfl rfl hl.1 rfl (lv_room (Nat.le_of_ble_eq_true rfl)) d_fmeets_117 ⟨Nat.zero_le _, Nat.zero_le _⟩) hP hD hS hA [0, 1, 2, 3, 4, 5, 6, 7, 8, 9, 10, 11] [] [0, 1, 2, 3, 4, 5, 6, 7, 8, 9, 10, 11] rfl rfl (by decide) (by decide) (by decide) rfl (fun H locs hP hD hS => ?_)
                      refine lv_aload_n hx hb d_fmeets_120 rfl (lv_at hl 1 rfl) ?_
                      refine lv_iload_n hx hb d_fmeets_121 rfl (lv_at hl 2 rfl) ?_
                      obtain ⟨r_110, e_110, h⟩ := ld_ob h
                      refine ld_mi (wr := ([] : List Nat).filterMap (fun i => (ld_oW f r_109.2.1 ++ ld_bW f cI fb ++ ld_eW f cI cZ r_109.2.2.1 ++ ld_sW f cI cZ r_109.2.2.2)[i]?)) (ws2 := ld_oW f r_110.2.1 ++ ld_bW f cI fb ++ ld_eW f cI cZ r_110.2.2.1 ++ ld_sW f cI cZ r_110.2.2.2) (va_runV (As := [.int p0]) (rest := [.int r_109.1]) ⟨hx, hb, hml, hown, hg⟩ (lc_fused l D cI cZ cJ f r_109.2.1 fb r_109.2.2.1 r_109.2.2.2 p0 _ N r_110 e_110) ⟨callB_of 1 hg (ld_gd k_450) rfl rfl rfl (hg _ k_30) (hg _ k_456) hd_fused ⟨Nat.le_of_ble_eq_true rfl, Nat.le_of_ble_eq_true rfl⟩, hg _ k_448, hg _ k_449⟩ (ld_preMV hP hK hN hD [0, 1, 2, 3, 4, 5, 6, 7, 8, 9, 10, 11] (by decide) rfl 7 0 rfl rfl) rfl rfl hl.1 rfl (lv_room (Nat.le_of_ble_eq_true rfl)) d_fmeets_122 ⟨Nat.zero_le _, Nat.zero_le _⟩) hP hD hS hA [0, 1, 2, 3, 4, 5, 6, 7, 8, 9, 10, 11] [] [0, 1, 2, 3, 4, 5, 6, 7, 8, 9, 10, 11] rfl rfl (by decide) (by decide) (by decide) rfl (fun H locs hP hD hS => ?_)
                      refine lv_iand hx hb d_fmeets_125 ?_
                      refine lv_iconst (v := 1) hx hb d_fmeets_126 (by decide) ?_
                      refine lv_aload_n hx hb d_fmeets_127 rfl (lv_at hl 1 rfl) ?_
                      refine va_get (D := D) (ci := 7) (v := .ref (f 2)) (C := "LoanDeskModel") (T := T_Ref) (N := 14) hx hb hg u_Ref hown hK hP 0 rfl rfl 2 (by decide) (hg _ k_372) (fun _ h9 => h9) rfl d_fmeets_128 ?_
                      refine lv_iload_n hx hb d_fmeets_131 rfl (lv_at hl 2 rfl) ?_
                      refine va_iald hx hb hK hP 2 0 rfl rfl (i := p0) i_3 d_fmeets_132 ?_
                      refine lv_ishl hx hb d_fmeets_133 ?_
                      refine lv_icmp_ne (tgt := 141) hx hb d_fmeets_134 (by decide) (fun c_111 => ?_) (fun c_111 => ?_)
                      · have h := (if_neg c_111).symm.trans h
                        refine lv_iconst (v := 0) hx hb d_fmeets_141 (by decide) ?_
                        refine lv_istore (lv' := [(4, .int 0), (3, .int 1), (0, .ref (f 0)), (1, .int p0), (2, .int p1)]) hx hb d_fmeets_142 hl (by decide) rfl (fun ls hl => ?_)
                        refine lv_iload_n hx hb d_fmeets_144 rfl (lv_at hl 1 rfl) ?_
                        refine lv_if_ne (tgt := 158) hx hb d_fmeets_145 (by decide) (fun _ => ?_) (fun c_112 => absurd c_112 (by decide))
                        refine lv_iload hx hb d_fmeets_158 (lv_at hl 0 rfl) ?_
                        refine lv_if_ne (tgt := 167) hx hb d_fmeets_160 (by decide) (fun c_113 => absurd (by decide) c_113) (fun _ => ?_)
                        refine lv_iconst (v := 1) hx hb d_fmeets_163 (by decide) ?_
                        refine lv_goto (tgt := 168) hx hb d_fmeets_164 (by decide) ?_
                        have h := Option.some.inj h
                        subst h
                        exact W.zret (v := 1) hx hb hr rfl (fun t ht hW => ⟨⟨_, (), rfl, rfl, by rw [ht]; exact hP, hD⟩, hS.F ht⟩) hS.2.2 d_fmeets_168
                      · have h := (if_pos c_111).symm.trans h
                        refine lv_iconst (v := 1) hx hb d_fmeets_137 (by decide) ?_
                        refine lv_goto (tgt := 142) hx hb d_fmeets_138 (by decide) ?_
                        refine lv_istore (lv' := [(4, .int 1), (3, .int 1), (0, .ref (f 0)), (1, .int p0), (2, .int p1)]) hx hb d_fmeets_142 hl (by decide) rfl (fun ls hl => ?_)
                        refine lv_iload_n hx hb d_fmeets_144 rfl (lv_at hl 1 rfl) ?_
                        refine lv_if_ne (tgt := 158) hx hb d_fmeets_145 (by decide) (fun _ => ?_) (fun c_114 => absurd c_114 (by decide))
                        refine lv_iload hx hb d_fmeets_158 (lv_at hl 0 rfl) ?_
                        refine lv_if_ne (tgt := 167) hx hb d_fmeets_160 (by decide) (fun _ => ?_) (fun c_115 => absurd c_115 (by decide))
                        refine lv_iconst (v := 0) hx hb d_fmeets_167 (by decide) ?_
                        have h := Option.some.inj h
                        subst h
                        exact W.zret (v := 0) hx hb hr rfl (fun t ht hW => ⟨⟨_, (), rfl, rfl, by rw [ht]; exact hP, hD⟩, hS.F ht⟩) hS.2.2 d_fmeets_168
            · have h := (if_pos c_66).symm.trans h
              refine lv_iconst (v := 0) hx hb d_fmeets_65 (by decide) ?_
              have h := Option.some.inj h
              subst h
              exact W.zret (v := 0) hx hb hr rfl (fun t ht hW => ⟨⟨_, (), rfl, rfl, by rw [ht]; exact hP, hD⟩, hS.F ht⟩) hS.2.2 d_fmeets_66
