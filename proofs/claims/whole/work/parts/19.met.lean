def lm_point (N : Nat) (dk : Int32 × Int32) (G : ld_gT) (p0 : Int32) (p1 : Int32) (p2 : Int32) (p3 : Int32) : Option (Int32 × (Int32 × Int32) × ld_gT) := Option.bind (lm_isDoing N p0 p1 p2 p3) (fun r_1 => if r_1 = 0 then some ((-1), dk, G) else ld_lt (lf_hasRoom G) (fun r_3 => if r_3 = 0 then some ((-1), dk, G) else ld_lt (lf_forget dk) (fun r_5 => Option.bind (lm_add N G p0 p1 p2 p3) (fun r_6 => some (r_6.1, r_5, r_6.2)))))
set_option maxHeartbeats 4000000 in
set_option maxRecDepth 100000 in
theorem lc_point (l : Launch) (D : va_G) (cI cZ cJ : ClassId) (a : Nat → Nat) (dk : Int32 × Int32) (G : ld_gT) (p0 : Int32) (p1 : Int32) (p2 : Int32) (p3 : Int32) (sz : Nat) (N : Nat) (R : Int32 × (Int32 × Int32) × ld_gT) (h : lm_point N dk G p0 p1 p2 p3 = some R) : Met l y_point (Cond.code y_point prog_1_method_2_code 5 (some .int) :: bgT) ({ frames := 2, cells := 0, slots := 0, locals := 45 }) (ld_PM D cI cZ cJ (ld_dW a dk ++ ld_gW a cI G) sz [.ref (a 0), .int p0, .int p1, .int p2, .int p3]) (ld_QI D (ld_dW a R.2.1 ++ ld_gW a cI R.2.2) (va_A (ld_dW a dk ++ ld_gW a cI G) sz) R.1) 0 0 ((va_A (ld_dW a dk ++ ld_gW a cI G) sz)) := by
  refine Met.ofW (cc := prog_1_method_2_code) (maxL := 5) (ret := (some .int)) (by decide) rfl ?_
  intro p e s m args below meth c s₁ B hml hv
  obtain ⟨rfl, hsz, hP, hK, hD0, hN⟩ := hv
  have hx := B.exec
  have hb := B.bytes
  have hr := B.returns
  have hg : ∀ w ∈ bgT, w.before _ s = true := fun w h => atoms_spec (ws := (Cond.code y_point prog_1_method_2_code 5 (some .int) :: bgT)) B.pre w (List.mem_cons_of_mem _ h)
  have hown : s.vm.findClass "LoanDesk" = some m.cls := findClass_of_methodNamed B.named
  have hlocks := B.notSynchronized
  subst hsz
  have hD := hD0.self (sz := s.heap.size)
  generalize hAe : va_A (ld_dW a dk ++ ld_gW a cI G) s.heap.size = A at hD ⊢
  have hA : ∀ q : Nat, s.heap.size ≤ q → A q := fun q h => by rw [← hAe]; exact Or.inr h
  have hS : va_S A s.heap s.heap [] := va_S.rf
  have hl := lv_entry ([.ref (a 0), .int p0, .int p1, .int p2, .int p3]) (n := 5) (Nat.le_of_ble_eq_true rfl)
  rw [lg_entry_eq]
  generalize (lg_sl ([.ref (a 0), .int p0, .int p1, .int p2, .int p3]) ++ List.replicate (5 - (lg_sl ([.ref (a 0), .int p0, .int p1, .int p2, .int p3])).length) Slot.unset).toArray = ls at hl ⊢
  have hl : lv_has ls 5 [(0, .ref (a 0)), (1, .int p0), (2, .int p1), (3, .int p2), (4, .int p3)] := hl
  refine lv_iload_n hx hb d_point_0 rfl (lv_at hl 1 rfl) ?_
  refine lv_iload_n hx hb d_point_1 rfl (lv_at hl 2 rfl) ?_
  refine lv_iload_n hx hb d_point_2 rfl (lv_at hl 3 rfl) ?_
  refine lv_iload hx hb d_point_3 (lv_at hl 4 rfl) ?_
  obtain ⟨r_1, e_1, h⟩ := ld_ob h
  refine ld_rd (W.runS (As := [.int p0, .int p1, .int p2, .int p3]) (rest := []) ⟨hx, hb, hml, hown, hg⟩ (lc_isDoing l D cI cZ cJ p0 p1 p2 p3 N r_1 e_1) ⟨callB_of 4 hg (ld_gd k_129) rfl rfl rfl (hg _ k_23) (hg _ k_127) hd_isDoing ⟨Nat.le_of_ble_eq_true rfl, Nat.le_of_ble_eq_true rfl⟩, hg _ k_128⟩ (ld_preR hP hK hN [] rfl) rfl rfl hl.1 rfl (lv_room (Nat.le_of_ble_eq_true rfl)) d_point_5 ⟨Nat.zero_le _, Nat.zero_le _⟩) ?_
  refine lv_if_eq (tgt := 21) hx hb d_point_8 (by decide) (fun c_2 => ?_) (fun c_2 => ?_)
  · have h := (if_pos c_2).symm.trans h
    refine lv_iconst (v := (-1)) hx hb d_point_21 (by decide) ?_
    have h := Option.some.inj h
    subst h
    exact W.iret (v := (-1)) hx hb hr (fun t ht hW => ⟨⟨_, (), rfl, rfl, by rw [ht]; exact hP, hD⟩, hS.F ht⟩) hS.2.2 d_point_22
  · have h := (if_neg c_2).symm.trans h
    refine lv_aload_n hx hb d_point_11 rfl (lv_at hl 0 rfl) ?_
    refine va_get (D := D) (ci := 6) (v := .ref (a 1)) (C := "LoanDesk") (T := T_Desk) (N := 7) hx hb hg u_Desk hown hK hP 0 rfl rfl 0 (by decide) (hg _ k_109) (fun _ h9 => h9) rfl d_point_12 ?_
    obtain ⟨r_3, e_3, h⟩ := ld_nm h
    refine ld_rd (W.runV (As := []) (rest := []) ⟨hx, hb, hml, hown, hg⟩ (lc_hasRoom l D cI cZ cJ a G r_3 e_3) ⟨callB_of 0 hg (ld_gd k_139) rfl rfl rfl (hg _ k_24) (hg _ k_136) hd_hasRoom ⟨Nat.le_of_ble_eq_true rfl, Nat.le_of_ble_eq_true rfl⟩, hg _ k_137, hg _ k_138⟩ (ld_preRV hP hK hN [1, 2, 3, 4, 5, 6, 7] rfl 0 0 rfl rfl) rfl rfl hl.1 rfl (lv_room (Nat.le_of_ble_eq_true rfl)) d_point_15 ⟨Nat.zero_le _, Nat.zero_le _⟩) ?_
    refine lv_if_ne (tgt := 23) hx hb d_point_18 (by decide) (fun c_4 => ?_) (fun c_4 => ?_)
    · have h := (if_neg c_4).symm.trans h
      refine lv_aload_n hx hb d_point_23 rfl (lv_at hl 0 rfl) ?_
      obtain ⟨r_5, e_5, h⟩ := ld_nm h
      refine ld_mv (wr := ([1, 2, 3, 4, 5, 6, 7] : List Nat).filterMap (fun i => (ld_dW a dk ++ ld_gW a cI G)[i]?)) (ws2 := ld_dW a r_5 ++ ld_gW a cI G) (va_runV (As := []) (rest := []) ⟨hx, hb, hml, hown, hg⟩ (lc_forget l D cI cZ cJ a dk _ r_5 e_5) ⟨callB_of 0 hg (ld_gd k_142) rfl rfl rfl (hg _ k_23) (hg _ k_140) hd_forget ⟨Nat.le_of_ble_eq_true rfl, Nat.le_of_ble_eq_true rfl⟩, hg _ k_141, hg _ k_0⟩ (ld_preMV hP hK hN hD [0] (by decide) rfl 6 0 rfl rfl) rfl rfl hl.1 rfl (lv_room (Nat.le_of_ble_eq_true rfl)) d_point_24 ⟨Nat.zero_le _, Nat.zero_le _⟩) hP hD hS hA [0] [1, 2, 3, 4, 5, 6, 7] [7, 0, 1, 2, 3, 4, 5, 6] rfl rfl (by decide) (by decide) (by decide) rfl (fun H locs hP hD hS => ?_)
      refine lv_aload_n hx hb d_point_27 rfl (lv_at hl 0 rfl) ?_
      refine va_get (D := D) (ci := 6) (v := .ref (a 1)) (C := "LoanDesk") (T := T_Desk) (N := 7) hx hb hg u_Desk hown hK hP 0 rfl rfl 0 (by decide) (hg _ k_109) (fun _ h9 => h9) rfl d_point_28 ?_
      refine lv_iload_n hx hb d_point_31 rfl (lv_at hl 1 rfl) ?_
      refine lv_iload_n hx hb d_point_32 rfl (lv_at hl 2 rfl) ?_
      refine lv_iload_n hx hb d_point_33 rfl (lv_at hl 3 rfl) ?_
      refine lv_iload hx hb d_point_34 (lv_at hl 4 rfl) ?_
      obtain ⟨r_6, e_6, h⟩ := ld_ob h
      refine ld_mi (wr := ([0] : List Nat).filterMap (fun i => (ld_dW a r_5 ++ ld_gW a cI G)[i]?)) (ws2 := ld_dW a r_5 ++ ld_gW a cI r_6.2) (va_runV (As := [.int p0, .int p1, .int p2, .int p3]) (rest := []) ⟨hx, hb, hml, hown, hg⟩ (lc_add l D cI cZ cJ a G p0 p1 p2 p3 _ N r_6 e_6) ⟨callB_of 4 hg (ld_gd k_146) rfl rfl rfl (hg _ k_24) (hg _ k_143) hd_add ⟨Nat.le_of_ble_eq_true rfl, Nat.le_of_ble_eq_true rfl⟩, hg _ k_144, hg _ k_145⟩ (ld_preMV hP hK hN hD [1, 2, 3, 4, 5, 6, 7] (by decide) rfl 0 0 rfl rfl) rfl rfl hl.1 rfl (lv_room (Nat.le_of_ble_eq_true rfl)) d_point_36 ⟨Nat.zero_le _, Nat.zero_le _⟩) hP hD hS hA [1, 2, 3, 4, 5, 6, 7] [0] [0, 1, 2, 3, 4, 5, 6, 7] rfl rfl (by decide) (by decide) (by decide) rfl (fun H locs hP hD hS => ?_)
      have h := Option.some.inj h
      subst h
      exact W.iret (v := r_6.1) hx hb hr (fun t ht hW => ⟨⟨_, (), rfl, rfl, by rw [ht]; exact hP, hD⟩, hS.F ht⟩) hS.2.2 d_point_39
    · have h := (if_pos c_4).symm.trans h
      refine lv_iconst (v := (-1)) hx hb d_point_21 (by decide) ?_
      have h := Option.some.inj h
      subst h
      exact W.iret (v := (-1)) hx hb hr (fun t ht hW => ⟨⟨_, (), rfl, rfl, by rw [ht]; exact hP, hD⟩, hS.F ht⟩) hS.2.2 d_point_22
def lf_next (dk : Int32 × Int32) (G : ld_gT) (p0 : Int32) (p1 : Int32) (p2 : Int32) : Int32 × (Int32 × Int32) × ld_gT := ld_lt (lf_isPoint G p0) (fun r_1 => if r_1 = 0 then (0, dk, G) else ld_lt (lf_isNext p1) (fun r_3 => if r_3 = 0 then (0, dk, G) else ld_lt (lf_isNext p2) (fun r_5 => if r_5 = 0 then (0, dk, G) else ld_lt (lf_forget dk) (fun r_7 => ld_lt (lf_tellNext G p0 p1 p2) (fun r_8 => (1, r_7, r_8))))))
set_option maxHeartbeats 4000000 in
set_option maxRecDepth 100000 in
theorem lc_next (l : Launch) (D : va_G) (cI cZ cJ : ClassId) (a : Nat → Nat) (dk : Int32 × Int32) (G : ld_gT) (p0 : Int32) (p1 : Int32) (p2 : Int32) (sz : Nat) (R : Int32 × (Int32 × Int32) × ld_gT) (h : lf_next dk G p0 p1 p2 = R) : Met l y_next (Cond.code y_next prog_1_method_3_code 4 (some .boolean) :: bgT) ({ frames := 2, cells := 0, slots := 0, locals := 44 }) (ld_PM D cI cZ cJ (ld_dW a dk ++ ld_gW a cI G) sz [.ref (a 0), .int p0, .int p1, .int p2]) (ld_QI D (ld_dW a R.2.1 ++ ld_gW a cI R.2.2) (va_A (ld_dW a dk ++ ld_gW a cI G) sz) R.1) 0 0 ((va_A (ld_dW a dk ++ ld_gW a cI G) sz)) := by
  refine Met.ofW (cc := prog_1_method_3_code) (maxL := 4) (ret := (some .boolean)) (by decide) rfl ?_
  intro p e s m args below meth c s₁ B hml hv
  obtain ⟨rfl, hsz, hP, hK, hD0, hN⟩ := hv
  have hx := B.exec
  have hb := B.bytes
  have hr := B.returns
  have hg : ∀ w ∈ bgT, w.before _ s = true := fun w h => atoms_spec (ws := (Cond.code y_next prog_1_method_3_code 4 (some .boolean) :: bgT)) B.pre w (List.mem_cons_of_mem _ h)
  have hown : s.vm.findClass "LoanDesk" = some m.cls := findClass_of_methodNamed B.named
  have hlocks := B.notSynchronized
  subst hsz
  have hD := hD0.self (sz := s.heap.size)
  generalize hAe : va_A (ld_dW a dk ++ ld_gW a cI G) s.heap.size = A at hD ⊢
  have hA : ∀ q : Nat, s.heap.size ≤ q → A q := fun q h => by rw [← hAe]; exact Or.inr h
  have hS : va_S A s.heap s.heap [] := va_S.rf
  have hl := lv_entry ([.ref (a 0), .int p0, .int p1, .int p2]) (n := 4) (Nat.le_of_ble_eq_true rfl)
  rw [lg_entry_eq]
  generalize (lg_sl ([.ref (a 0), .int p0, .int p1, .int p2]) ++ List.replicate (4 - (lg_sl ([.ref (a 0), .int p0, .int p1, .int p2])).length) Slot.unset).toArray = ls at hl ⊢
  have hl : lv_has ls 4 [(0, .ref (a 0)), (1, .int p0), (2, .int p1), (3, .int p2)] := hl
  refine lv_aload_n hx hb d_next_0 rfl (lv_at hl 0 rfl) ?_
  refine va_get (D := D) (ci := 6) (v := .ref (a 1)) (C := "LoanDesk") (T := T_Desk) (N := 7) hx hb hg u_Desk hown hK hP 0 rfl rfl 0 (by decide) (hg _ k_109) (fun _ h9 => h9) rfl d_next_1 ?_
  refine lv_iload_n hx hb d_next_4 rfl (lv_at hl 1 rfl) ?_
  obtain ⟨r_1, e_1, h⟩ := ld_nm h
  refine ld_rd (W.runV (As := [.int p0]) (rest := []) ⟨hx, hb, hml, hown, hg⟩ (lc_isPoint l D cI cZ cJ a G p0 r_1 e_1) ⟨callB_of 1 hg (ld_gd k_155) rfl rfl rfl (hg _ k_24) (hg _ k_152) hd_isPoint ⟨Nat.le_of_ble_eq_true rfl, Nat.le_of_ble_eq_true rfl⟩, hg _ k_153, hg _ k_154⟩ (ld_preRV hP hK hN [1, 2, 3, 4, 5, 6, 7] rfl 0 0 rfl rfl) rfl rfl hl.1 rfl (lv_room (Nat.le_of_ble_eq_true rfl)) d_next_5 ⟨Nat.zero_le _, Nat.zero_le _⟩) ?_
  refine lv_if_eq (tgt := 25) hx hb d_next_8 (by decide) (fun c_2 => ?_) (fun c_2 => ?_)
  · have h := (if_pos c_2).symm.trans h
    refine lv_iconst (v := 0) hx hb d_next_25 (by decide) ?_
    subst h
    exact W.zret (v := 0) hx hb hr rfl (fun t ht hW => ⟨⟨_, (), rfl, rfl, by rw [ht]; exact hP, hD⟩, hS.F ht⟩) hS.2.2 d_next_26
  · have h := (if_neg c_2).symm.trans h
    refine lv_iload_n hx hb d_next_11 rfl (lv_at hl 2 rfl) ?_
    obtain ⟨r_3, e_3, h⟩ := ld_nm h
    refine ld_rd (W.runS (As := [.int p1]) (rest := []) ⟨hx, hb, hml, hown, hg⟩ (lc_isNext l D cI cZ cJ p1 r_3 e_3) ⟨callB_of 1 hg (ld_gd k_158) rfl rfl rfl (hg _ k_23) (hg _ k_156) hd_isNext ⟨Nat.le_of_ble_eq_true rfl, Nat.le_of_ble_eq_true rfl⟩, hg _ k_157⟩ (ld_preR hP hK hN [] rfl) rfl rfl hl.1 rfl (lv_room (Nat.le_of_ble_eq_true rfl)) d_next_12 ⟨Nat.zero_le _, Nat.zero_le _⟩) ?_
    refine lv_if_eq (tgt := 25) hx hb d_next_15 (by decide) (fun c_4 => ?_) (fun c_4 => ?_)
    · have h := (if_pos c_4).symm.trans h
      refine lv_iconst (v := 0) hx hb d_next_25 (by decide) ?_
      subst h
      exact W.zret (v := 0) hx hb hr rfl (fun t ht hW => ⟨⟨_, (), rfl, rfl, by rw [ht]; exact hP, hD⟩, hS.F ht⟩) hS.2.2 d_next_26
    · have h := (if_neg c_4).symm.trans h
      refine lv_iload_n hx hb d_next_18 rfl (lv_at hl 3 rfl) ?_
      obtain ⟨r_5, e_5, h⟩ := ld_nm h
      refine ld_rd (W.runS (As := [.int p2]) (rest := []) ⟨hx, hb, hml, hown, hg⟩ (lc_isNext l D cI cZ cJ p2 r_5 e_5) ⟨callB_of 1 hg (ld_gd k_158) rfl rfl rfl (hg _ k_23) (hg _ k_156) hd_isNext ⟨Nat.le_of_ble_eq_true rfl, Nat.le_of_ble_eq_true rfl⟩, hg _ k_157⟩ (ld_preR hP hK hN [] rfl) rfl rfl hl.1 rfl (lv_room (Nat.le_of_ble_eq_true rfl)) d_next_19 ⟨Nat.zero_le _, Nat.zero_le _⟩) ?_
      refine lv_if_ne (tgt := 27) hx hb d_next_22 (by decide) (fun c_6 => ?_) (fun c_6 => ?_)
      · have h := (if_neg c_6).symm.trans h
        refine lv_aload_n hx hb d_next_27 rfl (lv_at hl 0 rfl) ?_
        obtain ⟨r_7, e_7, h⟩ := ld_nm h
        refine ld_mv (wr := ([1, 2, 3, 4, 5, 6, 7] : List Nat).filterMap (fun i => (ld_dW a dk ++ ld_gW a cI G)[i]?)) (ws2 := ld_dW a r_7 ++ ld_gW a cI G) (va_runV (As := []) (rest := []) ⟨hx, hb, hml, hown, hg⟩ (lc_forget l D cI cZ cJ a dk _ r_7 e_7) ⟨callB_of 0 hg (ld_gd k_142) rfl rfl rfl (hg _ k_23) (hg _ k_140) hd_forget ⟨Nat.le_of_ble_eq_true rfl, Nat.le_of_ble_eq_true rfl⟩, hg _ k_141, hg _ k_0⟩ (ld_preMV hP hK hN hD [0] (by decide) rfl 6 0 rfl rfl) rfl rfl hl.1 rfl (lv_room (Nat.le_of_ble_eq_true rfl)) d_next_28 ⟨Nat.zero_le _, Nat.zero_le _⟩) hP hD hS hA [0] [1, 2, 3, 4, 5, 6, 7] [7, 0, 1, 2, 3, 4, 5, 6] rfl rfl (by decide) (by decide) (by decide) rfl (fun H locs hP hD hS => ?_)
        refine lv_aload_n hx hb d_next_31 rfl (lv_at hl 0 rfl) ?_
        refine va_get (D := D) (ci := 6) (v := .ref (a 1)) (C := "LoanDesk") (T := T_Desk) (N := 7) hx hb hg u_Desk hown hK hP 0 rfl rfl 0 (by decide) (hg _ k_109) (fun _ h9 => h9) rfl d_next_32 ?_
        refine lv_iload_n hx hb d_next_35 rfl (lv_at hl 1 rfl) ?_
        refine lv_iload_n hx hb d_next_36 rfl (lv_at hl 2 rfl) ?_
        refine lv_iload_n hx hb d_next_37 rfl (lv_at hl 3 rfl) ?_
        obtain ⟨r_8, e_8, h⟩ := ld_nm h
        refine ld_mv (wr := ([0] : List Nat).filterMap (fun i => (ld_dW a r_7 ++ ld_gW a cI G)[i]?)) (ws2 := ld_dW a r_7 ++ ld_gW a cI r_8) (va_runV (As := [.int p0, .int p1, .int p2]) (rest := []) ⟨hx, hb, hml, hown, hg⟩ (lc_tellNext l D cI cZ cJ a G p0 p1 p2 _ r_8 e_8) ⟨callB_of 3 hg (ld_gd k_165) rfl rfl rfl (hg _ k_24) (hg _ k_162) hd_tellNext ⟨Nat.le_of_ble_eq_true rfl, Nat.le_of_ble_eq_true rfl⟩, hg _ k_163, hg _ k_164⟩ (ld_preMV hP hK hN hD [1, 2, 3, 4, 5, 6, 7] (by decide) rfl 0 0 rfl rfl) rfl rfl hl.1 rfl (lv_room (Nat.le_of_ble_eq_true rfl)) d_next_38 ⟨Nat.zero_le _, Nat.zero_le _⟩) hP hD hS hA [1, 2, 3, 4, 5, 6, 7] [0] [0, 1, 2, 3, 4, 5, 6, 7] rfl rfl (by decide) (by decide) (by decide) rfl (fun H locs hP hD hS => ?_)
        refine lv_iconst (v := 1) hx hb d_next_41 (by decide) ?_
        subst h
        exact W.zret (v := 1) hx hb hr rfl (fun t ht hW => ⟨⟨_, (), rfl, rfl, by rw [ht]; exact hP, hD⟩, hS.F ht⟩) hS.2.2 d_next_42
      · have h := (if_pos c_6).symm.trans h
        refine lv_iconst (v := 0) hx hb d_next_25 (by decide) ?_
        subst h
        exact W.zret (v := 0) hx hb hr rfl (fun t ht hW => ⟨⟨_, (), rfl, rfl, by rw [ht]; exact hP, hD⟩, hS.F ht⟩) hS.2.2 d_next_26
def lm_isReached (N : Nat) (dk : Int32 × Int32) (G : ld_gT) (rc : Nat → Int32) (q : ld_pT) (u : Nat → Int32) (p0 : Int32) : Option (Int32 × (Int32 × Int32) × (Nat → Int32) × ld_pT × (Nat → Int32)) := ld_lt (lf_isPoint G p0) (fun r_1 => if r_1 = 0 then some (0, dk, rc, q, u) else Option.bind (lm_findWays N dk G rc q u) (fun r_3 => ld_lt (lf_comesTo r_3.2.1 p0) (fun r_4 => some (r_4, r_3.1, r_3.2.1, r_3.2.2.1, r_3.2.2.2))))
set_option maxHeartbeats 4000000 in
set_option maxRecDepth 100000 in
theorem lc_isReached (l : Launch) (D : va_G) (cI cZ cJ : ClassId) (a : Nat → Nat) (dk : Int32 × Int32) (G : ld_gT) (rc : Nat → Int32) (q : ld_pT) (u : Nat → Int32) (p0 : Int32) (sz : Nat) (N : Nat) (R : Int32 × (Int32 × Int32) × (Nat → Int32) × ld_pT × (Nat → Int32)) (h : lm_isReached N dk G rc q u p0 = some R) : Met l y_isReached (Cond.code y_isReached prog_1_method_4_code 2 (some .boolean) :: bgT) ({ frames := 5, cells := 0, slots := 0, locals := 112 }) (ld_PM D cI cZ cJ (ld_dW a dk ++ ld_gW a cI G ++ ld_rW a cI rc ++ ld_pW (a 10) (a 11) (a 12) cI cZ q ++ ld_uW a cI u) sz [.ref (a 0), .int p0]) (ld_QI D (ld_dW a R.2.1 ++ ld_gW a cI G ++ ld_rW a cI R.2.2.1 ++ ld_pW (a 10) (a 11) (a 12) cI cZ R.2.2.2.1 ++ ld_uW a cI R.2.2.2.2) (va_A (ld_dW a dk ++ ld_gW a cI G ++ ld_rW a cI rc ++ ld_pW (a 10) (a 11) (a 12) cI cZ q ++ ld_uW a cI u) sz) R.1) 0 0 ((va_A (ld_dW a dk ++ ld_gW a cI G ++ ld_rW a cI rc ++ ld_pW (a 10) (a 11) (a 12) cI cZ q ++ ld_uW a cI u) sz)) := by
  refine Met.ofW (cc := prog_1_method_4_code) (maxL := 2) (ret := (some .boolean)) (by decide) rfl ?_
  intro p e s m args below meth c s₁ B hml hv
  obtain ⟨rfl, hsz, hP, hK, hD0, hN⟩ := hv
  have hx := B.exec
  have hb := B.bytes
  have hr := B.returns
  have hg : ∀ w ∈ bgT, w.before _ s = true := fun w h => atoms_spec (ws := (Cond.code y_isReached prog_1_method_4_code 2 (some .boolean) :: bgT)) B.pre w (List.mem_cons_of_mem _ h)
  have hown : s.vm.findClass "LoanDesk" = some m.cls := findClass_of_methodNamed B.named
  have hlocks := B.notSynchronized
  subst hsz
  have hD := hD0.self (sz := s.heap.size)
  generalize hAe : va_A (ld_dW a dk ++ ld_gW a cI G ++ ld_rW a cI rc ++ ld_pW (a 10) (a 11) (a 12) cI cZ q ++ ld_uW a cI u) s.heap.size = A at hD ⊢
  have hA : ∀ q : Nat, s.heap.size ≤ q → A q := fun q h => by rw [← hAe]; exact Or.inr h
  have hS : va_S A s.heap s.heap [] := va_S.rf
  have hl := lv_entry ([.ref (a 0), .int p0]) (n := 2) (Nat.le_of_ble_eq_true rfl)
  rw [lg_entry_eq]
  generalize (lg_sl ([.ref (a 0), .int p0]) ++ List.replicate (2 - (lg_sl ([.ref (a 0), .int p0])).length) Slot.unset).toArray = ls at hl ⊢
  have hl : lv_has ls 2 [(0, .ref (a 0)), (1, .int p0)] := hl
  refine lv_aload_n hx hb d_isReached_0 rfl (lv_at hl 0 rfl) ?_
  refine va_get (D := D) (ci := 6) (v := .ref (a 1)) (C := "LoanDesk") (T := T_Desk) (N := 7) hx hb hg u_Desk hown hK hP 0 rfl rfl 0 (by decide) (hg _ k_109) (fun _ h9 => h9) rfl d_isReached_1 ?_
  refine lv_iload_n hx hb d_isReached_4 rfl (lv_at hl 1 rfl) ?_
  obtain ⟨r_1, e_1, h⟩ := ld_nm h
  refine ld_rd (W.runV (As := [.int p0]) (rest := []) ⟨hx, hb, hml, hown, hg⟩ (lc_isPoint l D cI cZ cJ a G p0 r_1 e_1) ⟨callB_of 1 hg (ld_gd k_155) rfl rfl rfl (hg _ k_24) (hg _ k_152) hd_isPoint ⟨Nat.le_of_ble_eq_true rfl, Nat.le_of_ble_eq_true rfl⟩, hg _ k_153, hg _ k_154⟩ (ld_preRV hP hK hN [1, 2, 3, 4, 5, 6, 7] rfl 0 0 rfl rfl) rfl rfl hl.1 rfl (lv_room (Nat.le_of_ble_eq_true rfl)) d_isReached_5 ⟨Nat.zero_le _, Nat.zero_le _⟩) ?_
  refine lv_if_ne (tgt := 13) hx hb d_isReached_8 (by decide) (fun c_2 => ?_) (fun c_2 => ?_)
  · have h := (if_neg c_2).symm.trans h
    refine lv_aload_n hx hb d_isReached_13 rfl (lv_at hl 0 rfl) ?_
    obtain ⟨r_3, e_3, h⟩ := ld_ob h
    refine ld_mv (wr := ([] : List Nat).filterMap (fun i => (ld_dW a dk ++ ld_gW a cI G ++ ld_rW a cI rc ++ ld_pW (a 10) (a 11) (a 12) cI cZ q ++ ld_uW a cI u)[i]?)) (ws2 := ld_dW a r_3.1 ++ ld_gW a cI G ++ ld_rW a cI r_3.2.1 ++ ld_pW (a 10) (a 11) (a 12) cI cZ r_3.2.2.1 ++ ld_uW a cI r_3.2.2.2) (va_runV (As := []) (rest := []) ⟨hx, hb, hml, hown, hg⟩ (lc_findWays l D cI cZ cJ a dk G rc q u _ N r_3 e_3) ⟨callB_of 0 hg (ld_gd k_173) rfl rfl rfl (hg _ k_23) (hg _ k_171) hd_findWays ⟨Nat.le_of_ble_eq_true rfl, Nat.le_of_ble_eq_true rfl⟩, hg _ k_172, hg _ k_1⟩ (ld_preMV hP hK hN hD [0, 1, 2, 3, 4, 5, 6, 7, 8, 9, 10, 11, 12, 13, 14] (by decide) rfl 6 0 rfl rfl) rfl rfl hl.1 rfl (lv_room (Nat.le_of_ble_eq_true rfl)) d_isReached_14 ⟨Nat.zero_le _, Nat.zero_le _⟩) hP hD hS hA [0, 1, 2, 3, 4, 5, 6, 7, 8, 9, 10, 11, 12, 13, 14] [] [0, 1, 2, 3, 4, 5, 6, 7, 8, 9, 10, 11, 12, 13, 14] rfl rfl (by decide) (by decide) (by decide) rfl (fun H locs hP hD hS => ?_)
    refine lv_aload_n hx hb d_isReached_17 rfl (lv_at hl 0 rfl) ?_
    refine va_get (D := D) (ci := 6) (v := .ref (a 8)) (C := "LoanDesk") (T := T_Desk) (N := 7) hx hb hg u_Desk hown hK hP 0 rfl rfl 1 (by decide) (hg _ k_110) (fun _ h9 => h9) rfl d_isReached_18 ?_
    refine lv_iload_n hx hb d_isReached_21 rfl (lv_at hl 1 rfl) ?_
    obtain ⟨r_4, e_4, h⟩ := ld_nm h
    refine ld_rd (W.runV (As := [.int p0]) (rest := []) ⟨hx, hb, hml, hown, hg⟩ (lc_comesTo l D cI cZ cJ a r_3.2.1 p0 r_4 e_4) ⟨callB_of 1 hg (ld_gd k_188) rfl rfl rfl (hg _ k_25) (hg _ k_234) hd_comesTo ⟨Nat.le_of_ble_eq_true rfl, Nat.le_of_ble_eq_true rfl⟩, hg _ k_186, hg _ k_187⟩ (ld_preRV hP hK hN [8, 9] rfl 2 0 rfl rfl) rfl rfl hl.1 rfl (lv_room (Nat.le_of_ble_eq_true rfl)) d_isReached_22 ⟨Nat.zero_le _, Nat.zero_le _⟩) ?_
    have h := Option.some.inj h
    subst h
    exact W.zret (v := r_4) hx hb hr (lnb_comesTo e_4) (fun t ht hW => ⟨⟨_, (), rfl, rfl, by rw [ht]; exact hP, hD⟩, hS.F ht⟩) hS.2.2 d_isReached_25
  · have h := (if_pos c_2).symm.trans h
    refine lv_iconst (v := 0) hx hb d_isReached_11 (by decide) ?_
    have h := Option.some.inj h
    subst h
    exact W.zret (v := 0) hx hb hr rfl (fun t ht hW => ⟨⟨_, (), rfl, rfl, by rw [ht]; exact hP, hD⟩, hS.F ht⟩) hS.2.2 d_isReached_12
def lm_holders (N : Nat) (dk : Int32 × Int32) (G : ld_gT) (rc : Nat → Int32) (q : ld_pT) (u : Nat → Int32) (hh : (Nat → Int32) × (Nat → Int32)) (qq : ld_pT) (p0 : Int32) (p1 : Int32) : Option (Int32 × (Int32 × Int32) × (Nat → Int32) × ld_pT × (Nat → Int32) × ((Nat → Int32) × (Nat → Int32)) × ld_pT) := ld_lt (lf_isPoint G p0) (fun r_1 => if r_1 = 0 then some (0, dk, rc, q, u, hh, qq) else ld_lt (lf_isLoan G p1) (fun r_3 => if r_3 = 0 then some (0, dk, rc, q, u, hh, qq) else Option.bind (lm_findWays N dk G rc q u) (fun r_5 => ld_lt (lf_comesTo r_5.2.1 p1) (fun r_6 => if r_6 = 0 then some (0, r_5.1, r_5.2.1, r_5.2.2.1, r_5.2.2.2, hh, qq) else Option.bind (lm_follow N G hh qq p1) (fun r_8 => ld_lt (lf_hbehind r_8.1 p0) (fun r_9 => some (r_9, r_5.1, r_5.2.1, r_5.2.2.1, r_5.2.2.2, r_8.1, r_8.2)))))))
set_option maxHeartbeats 4000000 in
set_option maxRecDepth 100000 in
theorem lc_holders (l : Launch) (D : va_G) (cI cZ cJ : ClassId) (a : Nat → Nat) (dk : Int32 × Int32) (G : ld_gT) (rc : Nat → Int32) (q : ld_pT) (u : Nat → Int32) (hh : (Nat → Int32) × (Nat → Int32)) (qq : ld_pT) (p0 : Int32) (p1 : Int32) (sz : Nat) (N : Nat) (R : Int32 × (Int32 × Int32) × (Nat → Int32) × ld_pT × (Nat → Int32) × ((Nat → Int32) × (Nat → Int32)) × ld_pT) (h : lm_holders N dk G rc q u hh qq p0 p1 = some R) : Met l y_holders (Cond.code y_holders prog_1_method_5_code 3 (some .int) :: bgT) ({ frames := 5, cells := 0, slots := 0, locals := 112 }) (ld_PM D cI cZ cJ (ld_dW a dk ++ ld_gW a cI G ++ ld_rW a cI rc ++ ld_pW (a 10) (a 11) (a 12) cI cZ q ++ ld_uW a cI u ++ ld_hW a cI hh ++ ld_pW (a 18) (a 19) (a 20) cI cZ qq) sz [.ref (a 0), .int p0, .int p1]) (ld_QI D (ld_dW a R.2.1 ++ ld_gW a cI G ++ ld_rW a cI R.2.2.1 ++ ld_pW (a 10) (a 11) (a 12) cI cZ R.2.2.2.1 ++ ld_uW a cI R.2.2.2.2.1 ++ ld_hW a cI R.2.2.2.2.2.1 ++ ld_pW (a 18) (a 19) (a 20) cI cZ R.2.2.2.2.2.2) (va_A (ld_dW a dk ++ ld_gW a cI G ++ ld_rW a cI rc ++ ld_pW (a 10) (a 11) (a 12) cI cZ q ++ ld_uW a cI u ++ ld_hW a cI hh ++ ld_pW (a 18) (a 19) (a 20) cI cZ qq) sz) R.1) 0 0 ((va_A (ld_dW a dk ++ ld_gW a cI G ++ ld_rW a cI rc ++ ld_pW (a 10) (a 11) (a 12) cI cZ q ++ ld_uW a cI u ++ ld_hW a cI hh ++ ld_pW (a 18) (a 19) (a 20) cI cZ qq) sz)) := by
  refine Met.ofW (cc := prog_1_method_5_code) (maxL := 3) (ret := (some .int)) (by decide) rfl ?_
  intro p e s m args below meth c s₁ B hml hv
  obtain ⟨rfl, hsz, hP, hK, hD0, hN⟩ := hv
  have hx := B.exec
  have hb := B.bytes
  have hr := B.returns
  have hg : ∀ w ∈ bgT, w.before _ s = true := fun w h => atoms_spec (ws := (Cond.code y_holders prog_1_method_5_code 3 (some .int) :: bgT)) B.pre w (List.mem_cons_of_mem _ h)
  have hown : s.vm.findClass "LoanDesk" = some m.cls := findClass_of_methodNamed B.named
  have hlocks := B.notSynchronized
  subst hsz
  have hD := hD0.self (sz := s.heap.size)
  generalize hAe : va_A (ld_dW a dk ++ ld_gW a cI G ++ ld_rW a cI rc ++ ld_pW (a 10) (a 11) (a 12) cI cZ q ++ ld_uW a cI u ++ ld_hW a cI hh ++ ld_pW (a 18) (a 19) (a 20) cI cZ qq) s.heap.size = A at hD ⊢
  have hA : ∀ q : Nat, s.heap.size ≤ q → A q := fun q h => by rw [← hAe]; exact Or.inr h
  have hS : va_S A s.heap s.heap [] := va_S.rf
  have hl := lv_entry ([.ref (a 0), .int p0, .int p1]) (n := 3) (Nat.le_of_ble_eq_true rfl)
  rw [lg_entry_eq]
  generalize (lg_sl ([.ref (a 0), .int p0, .int p1]) ++ List.replicate (3 - (lg_sl ([.ref (a 0), .int p0, .int p1])).length) Slot.unset).toArray = ls at hl ⊢
  have hl : lv_has ls 3 [(0, .ref (a 0)), (1, .int p0), (2, .int p1)] := hl
  refine lv_aload_n hx hb d_holders_0 rfl (lv_at hl 0 rfl) ?_
  refine va_get (D := D) (ci := 6) (v := .ref (a 1)) (C := "LoanDesk") (T := T_Desk) (N := 7) hx hb hg u_Desk hown hK hP 0 rfl rfl 0 (by decide) (hg _ k_109) (fun _ h9 => h9) rfl d_holders_1 ?_
  refine lv_iload_n hx hb d_holders_4 rfl (lv_at hl 1 rfl) ?_
  obtain ⟨r_1, e_1, h⟩ := ld_nm h
  refine ld_rd (W.runV (As := [.int p0]) (rest := []) ⟨hx, hb, hml, hown, hg⟩ (lc_isPoint l D cI cZ cJ a G p0 r_1 e_1) ⟨callB_of 1 hg (ld_gd k_155) rfl rfl rfl (hg _ k_24) (hg _ k_152) hd_isPoint ⟨Nat.le_of_ble_eq_true rfl, Nat.le_of_ble_eq_true rfl⟩, hg _ k_153, hg _ k_154⟩ (ld_preRV hP hK hN [1, 2, 3, 4, 5, 6, 7] rfl 0 0 rfl rfl) rfl rfl hl.1 rfl (lv_room (Nat.le_of_ble_eq_true rfl)) d_holders_5 ⟨Nat.zero_le _, Nat.zero_le _⟩) ?_
  refine lv_if_eq (tgt := 22) hx hb d_holders_8 (by decide) (fun c_2 => ?_) (fun c_2 => ?_)
  · have h := (if_pos c_2).symm.trans h
    refine lv_iconst (v := 0) hx hb d_holders_22 (by decide) ?_
    have h := Option.some.inj h
    subst h
    exact W.iret (v := 0) hx hb hr (fun t ht hW => ⟨⟨_, (), rfl, rfl, by rw [ht]; exact hP, hD⟩, hS.F ht⟩) hS.2.2 d_holders_23
  · have h := (if_neg c_2).symm.trans h
    refine lv_aload_n hx hb d_holders_11 rfl (lv_at hl 0 rfl) ?_
    refine va_get (D := D) (ci := 6) (v := .ref (a 1)) (C := "LoanDesk") (T := T_Desk) (N := 7) hx hb hg u_Desk hown hK hP 0 rfl rfl 0 (by decide) (hg _ k_109) (fun _ h9 => h9) rfl d_holders_12 ?_
    refine lv_iload_n hx hb d_holders_15 rfl (lv_at hl 2 rfl) ?_
    obtain ⟨r_3, e_3, h⟩ := ld_nm h
    refine ld_rd (W.runV (As := [.int p1]) (rest := []) ⟨hx, hb, hml, hown, hg⟩ (lc_isLoan l D cI cZ cJ a G p1 r_3 e_3) ⟨callB_of 1 hg (ld_gd k_242) rfl rfl rfl (hg _ k_24) (hg _ k_239) hd_isLoan ⟨Nat.le_of_ble_eq_true rfl, Nat.le_of_ble_eq_true rfl⟩, hg _ k_240, hg _ k_241⟩ (ld_preRV hP hK hN [1, 2, 3, 4, 5, 6, 7] rfl 0 0 rfl rfl) rfl rfl hl.1 rfl (lv_room (Nat.le_of_ble_eq_true rfl)) d_holders_16 ⟨Nat.zero_le _, Nat.zero_le _⟩) ?_
    refine lv_if_ne (tgt := 24) hx hb d_holders_19 (by decide) (fun c_4 => ?_) (fun c_4 => ?_)
    · have h := (if_neg c_4).symm.trans h
      refine lv_aload_n hx hb d_holders_24 rfl (lv_at hl 0 rfl) ?_
      obtain ⟨r_5, e_5, h⟩ := ld_ob h
      refine ld_mv (wr := ([15, 16, 17, 18, 19, 20] : List Nat).filterMap (fun i => (ld_dW a dk ++ ld_gW a cI G ++ ld_rW a cI rc ++ ld_pW (a 10) (a 11) (a 12) cI cZ q ++ ld_uW a cI u ++ ld_hW a cI hh ++ ld_pW (a 18) (a 19) (a 20) cI cZ qq)[i]?)) (ws2 := ld_dW a r_5.1 ++ ld_gW a cI G ++ ld_rW a cI r_5.2.1 ++ ld_pW (a 10) (a 11) (a 12) cI cZ r_5.2.2.1 ++ ld_uW a cI r_5.2.2.2 ++ ld_hW a cI hh ++ ld_pW (a 18) (a 19) (a 20) cI cZ qq) (va_runV (As := []) (rest := []) ⟨hx, hb, hml, hown, hg⟩ (lc_findWays l D cI cZ cJ a dk G rc q u _ N r_5 e_5) ⟨callB_of 0 hg (ld_gd k_173) rfl rfl rfl (hg _ k_23) (hg _ k_171) hd_findWays ⟨Nat.le_of_ble_eq_true rfl, Nat.le_of_ble_eq_true rfl⟩, hg _ k_172, hg _ k_1⟩ (ld_preMV hP hK hN hD [0, 1, 2, 3, 4, 5, 6, 7, 8, 9, 10, 11, 12, 13, 14] (by decide) rfl 6 0 rfl rfl) rfl rfl hl.1 rfl (lv_room (Nat.le_of_ble_eq_true rfl)) d_holders_25 ⟨Nat.zero_le _, Nat.zero_le _⟩) hP hD hS hA [0, 1, 2, 3, 4, 5, 6, 7, 8, 9, 10, 11, 12, 13, 14] [15, 16, 17, 18, 19, 20] [6, 7, 8, 9, 10, 11, 12, 13, 14, 15, 16, 17, 18, 19, 20, 0, 1, 2, 3, 4, 5] rfl rfl (by decide) (by decide) (by decide) rfl (fun H locs hP hD hS => ?_)
      refine lv_aload_n hx hb d_holders_28 rfl (lv_at hl 0 rfl) ?_
      refine va_get (D := D) (ci := 6) (v := .ref (a 8)) (C := "LoanDesk") (T := T_Desk) (N := 7) hx hb hg u_Desk hown hK hP 0 rfl rfl 1 (by decide) (hg _ k_110) (fun _ h9 => h9) rfl d_holders_29 ?_
      refine lv_iload_n hx hb d_holders_32 rfl (lv_at hl 2 rfl) ?_
      obtain ⟨r_6, e_6, h⟩ := ld_nm h
      refine ld_rd (W.runV (As := [.int p1]) (rest := []) ⟨hx, hb, hml, hown, hg⟩ (lc_comesTo l D cI cZ cJ a r_5.2.1 p1 r_6 e_6) ⟨callB_of 1 hg (ld_gd k_188) rfl rfl rfl (hg _ k_25) (hg _ k_234) hd_comesTo ⟨Nat.le_of_ble_eq_true rfl, Nat.le_of_ble_eq_true rfl⟩, hg _ k_186, hg _ k_187⟩ (ld_preRV hP hK hN [8, 9] rfl 2 0 rfl rfl) rfl rfl hl.1 rfl (lv_room (Nat.le_of_ble_eq_true rfl)) d_holders_33 ⟨Nat.zero_le _, Nat.zero_le _⟩) ?_
      refine lv_if_ne (tgt := 41) hx hb d_holders_36 (by decide) (fun c_7 => ?_) (fun c_7 => ?_)
      · have h := (if_neg c_7).symm.trans h
        refine lv_aload_n hx hb d_holders_41 rfl (lv_at hl 0 rfl) ?_
        refine va_get (D := D) (ci := 6) (v := .ref (a 15)) (C := "LoanDesk") (T := T_Desk) (N := 7) hx hb hg u_Desk hown hK hP 0 rfl rfl 3 (by decide) (hg _ k_112) (fun _ h9 => h9) rfl d_holders_42 ?_
        refine lv_aload_n hx hb d_holders_45 rfl (lv_at hl 0 rfl) ?_
        refine va_get (D := D) (ci := 6) (v := .ref (a 1)) (C := "LoanDesk") (T := T_Desk) (N := 7) hx hb hg u_Desk hown hK hP 0 rfl rfl 0 (by decide) (hg _ k_109) (fun _ h9 => h9) rfl d_holders_46 ?_
        refine lv_iload_n hx hb d_holders_49 rfl (lv_at hl 2 rfl) ?_
        obtain ⟨r_8, e_8, h⟩ := ld_ob h
        refine ld_mv (wr := ([0, 8, 9, 10, 11, 12, 13, 14] : List Nat).filterMap (fun i => (ld_dW a r_5.1 ++ ld_gW a cI G ++ ld_rW a cI r_5.2.1 ++ ld_pW (a 10) (a 11) (a 12) cI cZ r_5.2.2.1 ++ ld_uW a cI r_5.2.2.2 ++ ld_hW a cI hh ++ ld_pW (a 18) (a 19) (a 20) cI cZ qq)[i]?)) (ws2 := ld_dW a r_5.1 ++ ld_gW a cI G ++ ld_rW a cI r_5.2.1 ++ ld_pW (a 10) (a 11) (a 12) cI cZ r_5.2.2.1 ++ ld_uW a cI r_5.2.2.2 ++ ld_hW a cI r_8.1 ++ ld_pW (a 18) (a 19) (a 20) cI cZ r_8.2) (va_runV (As := [.ref (a 1), .int p1]) (rest := []) ⟨hx, hb, hml, hown, hg⟩ (lc_follow l D cI cZ cJ a G hh qq p1 _ N r_8 e_8) ⟨callB_of 2 hg (ld_gd k_246) rfl rfl rfl (hg _ k_28) (hg _ k_243) hd_follow ⟨Nat.le_of_ble_eq_true rfl, Nat.le_of_ble_eq_true rfl⟩, hg _ k_244, hg _ k_245⟩ (ld_preMV hP hK hN hD [1, 2, 3, 4, 5, 6, 7, 15, 16, 17, 18, 19, 20] (by decide) rfl 4 7 rfl rfl) rfl rfl hl.1 rfl (lv_room (Nat.le_of_ble_eq_true rfl)) d_holders_50 ⟨Nat.zero_le _, Nat.zero_le _⟩) hP hD hS hA [1, 2, 3, 4, 5, 6, 7, 15, 16, 17, 18, 19, 20] [0, 8, 9, 10, 11, 12, 13, 14] [0, 8, 9, 10, 11, 12, 13, 14, 1, 2, 3, 4, 5, 6, 7, 15, 16, 17, 18, 19, 20] rfl rfl (by decide) (by decide) (by decide) rfl (fun H locs hP hD hS => ?_)
        refine lv_aload_n hx hb d_holders_53 rfl (lv_at hl 0 rfl) ?_
        refine va_get (D := D) (ci := 6) (v := .ref (a 15)) (C := "LoanDesk") (T := T_Desk) (N := 7) hx hb hg u_Desk hown hK hP 0 rfl rfl 3 (by decide) (hg _ k_112) (fun _ h9 => h9) rfl d_holders_54 ?_
        refine lv_iload_n hx hb d_holders_57 rfl (lv_at hl 1 rfl) ?_
        obtain ⟨r_9, e_9, h⟩ := ld_nm h
        refine ld_rd (W.runV (As := [.int p0]) (rest := []) ⟨hx, hb, hml, hown, hg⟩ (lc_hbehind l D cI cZ cJ a r_8.1 p0 r_9 e_9) ⟨callB_of 1 hg (ld_gd k_270) rfl rfl rfl (hg _ k_28) (hg _ k_267) hd_hbehind ⟨Nat.le_of_ble_eq_true rfl, Nat.le_of_ble_eq_true rfl⟩, hg _ k_268, hg _ k_269⟩ (ld_preRV hP hK hN [15, 16, 17] rfl 4 0 rfl rfl) rfl rfl hl.1 rfl (lv_room (Nat.le_of_ble_eq_true rfl)) d_holders_58 ⟨Nat.zero_le _, Nat.zero_le _⟩) ?_
        have h := Option.some.inj h
        subst h
        exact W.iret (v := r_9) hx hb hr (fun t ht hW => ⟨⟨_, (), rfl, rfl, by rw [ht]; exact hP, hD⟩, hS.F ht⟩) hS.2.2 d_holders_61
      · have h := (if_pos c_7).symm.trans h
        refine lv_iconst (v := 0) hx hb d_holders_39 (by decide) ?_
        have h := Option.some.inj h
        subst h
        exact W.iret (v := 0) hx hb hr (fun t ht hW => ⟨⟨_, (), rfl, rfl, by rw [ht]; exact hP, hD⟩, hS.F ht⟩) hS.2.2 d_holders_40
    · have h := (if_pos c_4).symm.trans h
      refine lv_iconst (v := 0) hx hb d_holders_22 (by decide) ?_
      have h := Option.some.inj h
      subst h
      exact W.iret (v := 0) hx hb hr (fun t ht hW => ⟨⟨_, (), rfl, rfl, by rw [ht]; exact hP, hD⟩, hS.F ht⟩) hS.2.2 d_holders_23
def lm_used (N : Nat) (dk : Int32 × Int32) (G : ld_gT) (rc : Nat → Int32) (q : ld_pT) (u : Nat → Int32) (p0 : Int32) : Option (Int32 × (Int32 × Int32) × (Nat → Int32) × ld_pT × (Nat → Int32)) := ld_lt (lf_isPoint G p0) (fun r_1 => if r_1 = 0 then some (0, dk, rc, q, u) else Option.bind (lm_findWays N dk G rc q u) (fun r_3 => ld_lt (lf_ubehind r_3.2.2.2 p0) (fun r_4 => some (r_4, r_3.1, r_3.2.1, r_3.2.2.1, r_3.2.2.2))))
set_option maxHeartbeats 4000000 in
set_option maxRecDepth 100000 in
theorem lc_used (l : Launch) (D : va_G) (cI cZ cJ : ClassId) (a : Nat → Nat) (dk : Int32 × Int32) (G : ld_gT) (rc : Nat → Int32) (q : ld_pT) (u : Nat → Int32) (p0 : Int32) (sz : Nat) (N : Nat) (R : Int32 × (Int32 × Int32) × (Nat → Int32) × ld_pT × (Nat → Int32)) (h : lm_used N dk G rc q u p0 = some R) : Met l y_used (Cond.code y_used prog_1_method_6_code 2 (some .int) :: bgT) ({ frames := 5, cells := 0, slots := 0, locals := 112 }) (ld_PM D cI cZ cJ (ld_dW a dk ++ ld_gW a cI G ++ ld_rW a cI rc ++ ld_pW (a 10) (a 11) (a 12) cI cZ q ++ ld_uW a cI u) sz [.ref (a 0), .int p0]) (ld_QI D (ld_dW a R.2.1 ++ ld_gW a cI G ++ ld_rW a cI R.2.2.1 ++ ld_pW (a 10) (a 11) (a 12) cI cZ R.2.2.2.1 ++ ld_uW a cI R.2.2.2.2) (va_A (ld_dW a dk ++ ld_gW a cI G ++ ld_rW a cI rc ++ ld_pW (a 10) (a 11) (a 12) cI cZ q ++ ld_uW a cI u) sz) R.1) 0 0 ((va_A (ld_dW a dk ++ ld_gW a cI G ++ ld_rW a cI rc ++ ld_pW (a 10) (a 11) (a 12) cI cZ q ++ ld_uW a cI u) sz)) := by
  refine Met.ofW (cc := prog_1_method_6_code) (maxL := 2) (ret := (some .int)) (by decide) rfl ?_
  intro p e s m args below meth c s₁ B hml hv
  obtain ⟨rfl, hsz, hP, hK, hD0, hN⟩ := hv
  have hx := B.exec
  have hb := B.bytes
  have hr := B.returns
  have hg : ∀ w ∈ bgT, w.before _ s = true := fun w h => atoms_spec (ws := (Cond.code y_used prog_1_method_6_code 2 (some .int) :: bgT)) B.pre w (List.mem_cons_of_mem _ h)
  have hown : s.vm.findClass "LoanDesk" = some m.cls := findClass_of_methodNamed B.named
  have hlocks := B.notSynchronized
  subst hsz
  have hD := hD0.self (sz := s.heap.size)
  generalize hAe : va_A (ld_dW a dk ++ ld_gW a cI G ++ ld_rW a cI rc ++ ld_pW (a 10) (a 11) (a 12) cI cZ q ++ ld_uW a cI u) s.heap.size = A at hD ⊢
  have hA : ∀ q : Nat, s.heap.size ≤ q → A q := fun q h => by rw [← hAe]; exact Or.inr h
  have hS : va_S A s.heap s.heap [] := va_S.rf
  have hl := lv_entry ([.ref (a 0), .int p0]) (n := 2) (Nat.le_of_ble_eq_true rfl)
  rw [lg_entry_eq]
  generalize (lg_sl ([.ref (a 0), .int p0]) ++ List.replicate (2 - (lg_sl ([.ref (a 0), .int p0])).length) Slot.unset).toArray = ls at hl ⊢
  have hl : lv_has ls 2 [(0, .ref (a 0)), (1, .int p0)] := hl
  refine lv_aload_n hx hb d_used_0 rfl (lv_at hl 0 rfl) ?_
  refine va_get (D := D) (ci := 6) (v := .ref (a 1)) (C := "LoanDesk") (T := T_Desk) (N := 7) hx hb hg u_Desk hown hK hP 0 rfl rfl 0 (by decide) (hg _ k_109) (fun _ h9 => h9) rfl d_used_1 ?_
  refine lv_iload_n hx hb d_used_4 rfl (lv_at hl 1 rfl) ?_
  obtain ⟨r_1, e_1, h⟩ := ld_nm h
  refine ld_rd (W.runV (As := [.int p0]) (rest := []) ⟨hx, hb, hml, hown, hg⟩ (lc_isPoint l D cI cZ cJ a G p0 r_1 e_1) ⟨callB_of 1 hg (ld_gd k_155) rfl rfl rfl (hg _ k_24) (hg _ k_152) hd_isPoint ⟨Nat.le_of_ble_eq_true rfl, Nat.le_of_ble_eq_true rfl⟩, hg _ k_153, hg _ k_154⟩ (ld_preRV hP hK hN [1, 2, 3, 4, 5, 6, 7] rfl 0 0 rfl rfl) rfl rfl hl.1 rfl (lv_room (Nat.le_of_ble_eq_true rfl)) d_used_5 ⟨Nat.zero_le _, Nat.zero_le _⟩) ?_
  refine lv_if_ne (tgt := 13) hx hb d_used_8 (by decide) (fun c_2 => ?_) (fun c_2 => ?_)
  · have h := (if_neg c_2).symm.trans h
    refine lv_aload_n hx hb d_used_13 rfl (lv_at hl 0 rfl) ?_
    obtain ⟨r_3, e_3, h⟩ := ld_ob h
    refine ld_mv (wr := ([] : List Nat).filterMap (fun i => (ld_dW a dk ++ ld_gW a cI G ++ ld_rW a cI rc ++ ld_pW (a 10) (a 11) (a 12) cI cZ q ++ ld_uW a cI u)[i]?)) (ws2 := ld_dW a r_3.1 ++ ld_gW a cI G ++ ld_rW a cI r_3.2.1 ++ ld_pW (a 10) (a 11) (a 12) cI cZ r_3.2.2.1 ++ ld_uW a cI r_3.2.2.2) (va_runV (As := []) (rest := []) ⟨hx, hb, hml, hown, hg⟩ (lc_findWays l D cI cZ cJ a dk G rc q u _ N r_3 e_3) ⟨callB_of 0 hg (ld_gd k_173) rfl rfl rfl (hg _ k_23) (hg _ k_171) hd_findWays ⟨Nat.le_of_ble_eq_true rfl, Nat.le_of_ble_eq_true rfl⟩, hg _ k_172, hg _ k_1⟩ (ld_preMV hP hK hN hD [0, 1, 2, 3, 4, 5, 6, 7, 8, 9, 10, 11, 12, 13, 14] (by decide) rfl 6 0 rfl rfl) rfl rfl hl.1 rfl (lv_room (Nat.le_of_ble_eq_true rfl)) d_used_14 ⟨Nat.zero_le _, Nat.zero_le _⟩) hP hD hS hA [0, 1, 2, 3, 4, 5, 6, 7, 8, 9, 10, 11, 12, 13, 14] [] [0, 1, 2, 3, 4, 5, 6, 7, 8, 9, 10, 11, 12, 13, 14] rfl rfl (by decide) (by decide) (by decide) rfl (fun H locs hP hD hS => ?_)
    refine lv_aload_n hx hb d_used_17 rfl (lv_at hl 0 rfl) ?_
    refine va_get (D := D) (ci := 6) (v := .ref (a 13)) (C := "LoanDesk") (T := T_Desk) (N := 7) hx hb hg u_Desk hown hK hP 0 rfl rfl 2 (by decide) (hg _ k_111) (fun _ h9 => h9) rfl d_used_18 ?_
    refine lv_iload_n hx hb d_used_21 rfl (lv_at hl 1 rfl) ?_
    obtain ⟨r_4, e_4, h⟩ := ld_nm h
    refine ld_rd (W.runV (As := [.int p0]) (rest := []) ⟨hx, hb, hml, hown, hg⟩ (lc_ubehind l D cI cZ cJ a r_3.2.2.2 p0 r_4 e_4) ⟨callB_of 1 hg (ld_gd k_229) rfl rfl rfl (hg _ k_27) (hg _ k_275) hd_ubehind ⟨Nat.le_of_ble_eq_true rfl, Nat.le_of_ble_eq_true rfl⟩, hg _ k_227, hg _ k_228⟩ (ld_preRV hP hK hN [13, 14] rfl 3 0 rfl rfl) rfl rfl hl.1 rfl (lv_room (Nat.le_of_ble_eq_true rfl)) d_used_22 ⟨Nat.zero_le _, Nat.zero_le _⟩) ?_
    have h := Option.some.inj h
    subst h
    exact W.iret (v := r_4) hx hb hr (fun t ht hW => ⟨⟨_, (), rfl, rfl, by rw [ht]; exact hP, hD⟩, hS.F ht⟩) hS.2.2 d_used_25
  · have h := (if_pos c_2).symm.trans h
    refine lv_iconst (v := 0) hx hb d_used_11 (by decide) ?_
    have h := Option.some.inj h
    subst h
    exact W.iret (v := 0) hx hb hr (fun t ht hW => ⟨⟨_, (), rfl, rfl, by rw [ht]; exact hP, hD⟩, hS.F ht⟩) hS.2.2 d_used_12
def lm_isAlive (N : Nat) (dk : Int32 × Int32) (G : ld_gT) (rc : Nat → Int32) (q : ld_pT) (u : Nat → Int32) (hh : (Nat → Int32) × (Nat → Int32)) (qq : ld_pT) (p0 : Int32) (p1 : Int32) : Option (Int32 × (Int32 × Int32) × (Nat → Int32) × ld_pT × (Nat → Int32) × ((Nat → Int32) × (Nat → Int32)) × ld_pT) := Option.bind (lm_holders N dk G rc q u hh qq p0 p1) (fun r_1 => Option.bind (lm_used N r_1.2.1 G r_1.2.2.1 r_1.2.2.2.1 r_1.2.2.2.2.1 p0) (fun r_2 => if (r_1.1 &&& r_2.1) = 0 then some (0, r_2.2.1, r_2.2.2.1, r_2.2.2.2.1, r_2.2.2.2.2, r_1.2.2.2.2.2.1, r_1.2.2.2.2.2.2) else some (1, r_2.2.1, r_2.2.2.1, r_2.2.2.2.1, r_2.2.2.2.2, r_1.2.2.2.2.2.1, r_1.2.2.2.2.2.2)))
set_option maxHeartbeats 4000000 in
set_option maxRecDepth 100000 in
theorem lc_isAlive (l : Launch) (D : va_G) (cI cZ cJ : ClassId) (a : Nat → Nat) (dk : Int32 × Int32) (G : ld_gT) (rc : Nat → Int32) (q : ld_pT) (u : Nat → Int32) (hh : (Nat → Int32) × (Nat → Int32)) (qq : ld_pT) (p0 : Int32) (p1 : Int32) (sz : Nat) (N : Nat) (R : Int32 × (Int32 × Int32) × (Nat → Int32) × ld_pT × (Nat → Int32) × ((Nat → Int32) × (Nat → Int32)) × ld_pT) (h : lm_isAlive N dk G rc q u hh qq p0 p1 = some R) : Met l y_isAlive (Cond.code y_isAlive prog_1_method_7_code 3 (some .boolean) :: bgT) ({ frames := 6, cells := 0, slots := 0, locals := 134 }) (ld_PM D cI cZ cJ (ld_dW a dk ++ ld_gW a cI G ++ ld_rW a cI rc ++ ld_pW (a 10) (a 11) (a 12) cI cZ q ++ ld_uW a cI u ++ ld_hW a cI hh ++ ld_pW (a 18) (a 19) (a 20) cI cZ qq) sz [.ref (a 0), .int p0, .int p1]) (ld_QI D (ld_dW a R.2.1 ++ ld_gW a cI G ++ ld_rW a cI R.2.2.1 ++ ld_pW (a 10) (a 11) (a 12) cI cZ R.2.2.2.1 ++ ld_uW a cI R.2.2.2.2.1 ++ ld_hW a cI R.2.2.2.2.2.1 ++ ld_pW (a 18) (a 19) (a 20) cI cZ R.2.2.2.2.2.2) (va_A (ld_dW a dk ++ ld_gW a cI G ++ ld_rW a cI rc ++ ld_pW (a 10) (a 11) (a 12) cI cZ q ++ ld_uW a cI u ++ ld_hW a cI hh ++ ld_pW (a 18) (a 19) (a 20) cI cZ qq) sz) R.1) 0 0 ((va_A (ld_dW a dk ++ ld_gW a cI G ++ ld_rW a cI rc ++ ld_pW (a 10) (a 11) (a 12) cI cZ q ++ ld_uW a cI u ++ ld_hW a cI hh ++ ld_pW (a 18) (a 19) (a 20) cI cZ qq) sz)) := by
  refine Met.ofW (cc := prog_1_method_7_code) (maxL := 3) (ret := (some .boolean)) (by decide) rfl ?_
  intro p e s m args below meth c s₁ B hml hv
  obtain ⟨rfl, hsz, hP, hK, hD0, hN⟩ := hv
  have hx := B.exec
  have hb := B.bytes
  have hr := B.returns
  have hg : ∀ w ∈ bgT, w.before _ s = true := fun w h => atoms_spec (ws := (Cond.code y_isAlive prog_1_method_7_code 3 (some .boolean) :: bgT)) B.pre w (List.mem_cons_of_mem _ h)
  have hown : s.vm.findClass "LoanDesk" = some m.cls := findClass_of_methodNamed B.named
  have hlocks := B.notSynchronized
  subst hsz
  have hD := hD0.self (sz := s.heap.size)
  generalize hAe : va_A (ld_dW a dk ++ ld_gW a cI G ++ ld_rW a cI rc ++ ld_pW (a 10) (a 11) (a 12) cI cZ q ++ ld_uW a cI u ++ ld_hW a cI hh ++ ld_pW (a 18) (a 19) (a 20) cI cZ qq) s.heap.size = A at hD ⊢
  have hA : ∀ q : Nat, s.heap.size ≤ q → A q := fun q h => by rw [← hAe]; exact Or.inr h
  have hS : va_S A s.heap s.heap [] := va_S.rf
  have hl := lv_entry ([.ref (a 0), .int p0, .int p1]) (n := 3) (Nat.le_of_ble_eq_true rfl)
  rw [lg_entry_eq]
  generalize (lg_sl ([.ref (a 0), .int p0, .int p1]) ++ List.replicate (3 - (lg_sl ([.ref (a 0), .int p0, .int p1])).length) Slot.unset).toArray = ls at hl ⊢
  have hl : lv_has ls 3 [(0, .ref (a 0)), (1, .int p0), (2, .int p1)] := hl
  refine lv_aload_n hx hb d_isAlive_0 rfl (lv_at hl 0 rfl) ?_
  refine lv_iload_n hx hb d_isAlive_1 rfl (lv_at hl 1 rfl) ?_
  refine lv_iload_n hx hb d_isAlive_2 rfl (lv_at hl 2 rfl) ?_
  obtain ⟨r_1, e_1, h⟩ := ld_ob h
  refine ld_mi (wr := ([] : List Nat).filterMap (fun i => (ld_dW a dk ++ ld_gW a cI G ++ ld_rW a cI rc ++ ld_pW (a 10) (a 11) (a 12) cI cZ q ++ ld_uW a cI u ++ ld_hW a cI hh ++ ld_pW (a 18) (a 19) (a 20) cI cZ qq)[i]?)) (ws2 := ld_dW a r_1.2.1 ++ ld_gW a cI G ++ ld_rW a cI r_1.2.2.1 ++ ld_pW (a 10) (a 11) (a 12) cI cZ r_1.2.2.2.1 ++ ld_uW a cI r_1.2.2.2.2.1 ++ ld_hW a cI r_1.2.2.2.2.2.1 ++ ld_pW (a 18) (a 19) (a 20) cI cZ r_1.2.2.2.2.2.2) (va_runV (As := [.int p0, .int p1]) (rest := []) ⟨hx, hb, hml, hown, hg⟩ (lc_holders l D cI cZ cJ a dk G rc q u hh qq p0 p1 _ N r_1 e_1) ⟨callB_of 2 hg (ld_gd k_238) rfl rfl rfl (hg _ k_23) (hg _ k_280) hd_holders ⟨Nat.le_of_ble_eq_true rfl, Nat.le_of_ble_eq_true rfl⟩, hg _ k_236, hg _ k_237⟩ (ld_preMV hP hK hN hD [0, 1, 2, 3, 4, 5, 6, 7, 8, 9, 10, 11, 12, 13, 14, 15, 16, 17, 18, 19, 20] (by decide) rfl 6 0 rfl rfl) rfl rfl hl.1 rfl (lv_room (Nat.le_of_ble_eq_true rfl)) d_isAlive_3 ⟨Nat.zero_le _, Nat.zero_le _⟩) hP hD hS hA [0, 1, 2, 3, 4, 5, 6, 7, 8, 9, 10, 11, 12, 13, 14, 15, 16, 17, 18, 19, 20] [] [0, 1, 2, 3, 4, 5, 6, 7, 8, 9, 10, 11, 12, 13, 14, 15, 16, 17, 18, 19, 20] rfl rfl (by decide) (by decide) (by decide) rfl (fun H locs hP hD hS => ?_)
  refine lv_aload_n hx hb d_isAlive_6 rfl (lv_at hl 0 rfl) ?_
  refine lv_iload_n hx hb d_isAlive_7 rfl (lv_at hl 1 rfl) ?_
  obtain ⟨r_2, e_2, h⟩ := ld_ob h
  refine ld_mi (wr := ([15, 16, 17, 18, 19, 20] : List Nat).filterMap (fun i => (ld_dW a r_1.2.1 ++ ld_gW a cI G ++ ld_rW a cI r_1.2.2.1 ++ ld_pW (a 10) (a 11) (a 12) cI cZ r_1.2.2.2.1 ++ ld_uW a cI r_1.2.2.2.2.1 ++ ld_hW a cI r_1.2.2.2.2.2.1 ++ ld_pW (a 18) (a 19) (a 20) cI cZ r_1.2.2.2.2.2.2)[i]?)) (ws2 := ld_dW a r_2.2.1 ++ ld_gW a cI G ++ ld_rW a cI r_2.2.2.1 ++ ld_pW (a 10) (a 11) (a 12) cI cZ r_2.2.2.2.1 ++ ld_uW a cI r_2.2.2.2.2 ++ ld_hW a cI r_1.2.2.2.2.2.1 ++ ld_pW (a 18) (a 19) (a 20) cI cZ r_1.2.2.2.2.2.2) (va_runV (As := [.int p0]) (rest := [.int r_1.1]) ⟨hx, hb, hml, hown, hg⟩ (lc_used l D cI cZ cJ a r_1.2.1 G r_1.2.2.1 r_1.2.2.2.1 r_1.2.2.2.2.1 p0 _ N r_2 e_2) ⟨callB_of 1 hg (ld_gd k_274) rfl rfl rfl (hg _ k_23) (hg _ k_281) hd_used ⟨Nat.le_of_ble_eq_true rfl, Nat.le_of_ble_eq_true rfl⟩, hg _ k_272, hg _ k_273⟩ (ld_preMV hP hK hN hD [0, 1, 2, 3, 4, 5, 6, 7, 8, 9, 10, 11, 12, 13, 14] (by decide) rfl 6 0 rfl rfl) rfl rfl hl.1 rfl (lv_room (Nat.le_of_ble_eq_true rfl)) d_isAlive_8 ⟨Nat.zero_le _, Nat.zero_le _⟩) hP hD hS hA [0, 1, 2, 3, 4, 5, 6, 7, 8, 9, 10, 11, 12, 13, 14] [15, 16, 17, 18, 19, 20] [6, 7, 8, 9, 10, 11, 12, 13, 14, 15, 16, 17, 18, 19, 20, 0, 1, 2, 3, 4, 5] rfl rfl (by decide) (by decide) (by decide) rfl (fun H locs hP hD hS => ?_)
  refine lv_iand hx hb d_isAlive_11 ?_
  refine lv_if_eq (tgt := 19) hx hb d_isAlive_12 (by decide) (fun c_3 => ?_) (fun c_3 => ?_)
  · have h := (if_pos c_3).symm.trans h
    refine lv_iconst (v := 0) hx hb d_isAlive_19 (by decide) ?_
    have h := Option.some.inj h
    subst h
    exact W.zret (v := 0) hx hb hr rfl (fun t ht hW => ⟨⟨_, (), rfl, rfl, by rw [ht]; exact hP, hD⟩, hS.F ht⟩) hS.2.2 d_isAlive_20
  · have h := (if_neg c_3).symm.trans h
    refine lv_iconst (v := 1) hx hb d_isAlive_15 (by decide) ?_
    refine lv_goto (tgt := 20) hx hb d_isAlive_16 (by decide) ?_
    have h := Option.some.inj h
    subst h
    exact W.zret (v := 1) hx hb hr rfl (fun t ht hW => ⟨⟨_, (), rfl, rfl, by rw [ht]; exact hP, hD⟩, hS.F ht⟩) hS.2.2 d_isAlive_20
def lm_met (N : Nat) (dk : Int32 × Int32) (G : ld_gT) (rc : Nat → Int32) (q : ld_pT) (u : Nat → Int32) (hh : (Nat → Int32) × (Nat → Int32)) (qq : ld_pT) (mw : Nat → Int64) (p0 : Int32) (p1 : Int32) : Option (Int32 × (Int32 × Int32) × (Nat → Int32) × ld_pT × (Nat → Int32) × ((Nat → Int32) × (Nat → Int32)) × ld_pT × (Nat → Int64)) := ld_lt (lf_isPoint G p0) (fun r_1 => if r_1 = 0 then some ((-1), dk, rc, q, u, hh, qq, mw) else Option.bind (lm_findMeet N dk G rc q u hh qq mw) (fun r_3 => Option.bind (lm_least N r_3.2.2.2.2.2.2 p0 p1) (fun r_4 => some (r_4, r_3.1, r_3.2.1, r_3.2.2.1, r_3.2.2.2.1, r_3.2.2.2.2.1, r_3.2.2.2.2.2.1, r_3.2.2.2.2.2.2))))
set_option maxHeartbeats 4000000 in
set_option maxRecDepth 100000 in
theorem lc_met (l : Launch) (D : va_G) (cI cZ cJ : ClassId) (a : Nat → Nat) (dk : Int32 × Int32) (G : ld_gT) (rc : Nat → Int32) (q : ld_pT) (u : Nat → Int32) (hh : (Nat → Int32) × (Nat → Int32)) (qq : ld_pT) (mw : Nat → Int64) (p0 : Int32) (p1 : Int32) (sz : Nat) (N : Nat) (R : Int32 × (Int32 × Int32) × (Nat → Int32) × ld_pT × (Nat → Int32) × ((Nat → Int32) × (Nat → Int32)) × ld_pT × (Nat → Int64)) (h : lm_met N dk G rc q u hh qq mw p0 p1 = some R) : Met l y_met (Cond.code y_met prog_1_method_8_code 3 (some .int) :: bgT) ({ frames := 6, cells := 0, slots := 0, locals := 133 }) (ld_PM D cI cZ cJ (ld_dW a dk ++ ld_gW a cI G ++ ld_rW a cI rc ++ ld_pW (a 10) (a 11) (a 12) cI cZ q ++ ld_uW a cI u ++ ld_hW a cI hh ++ ld_pW (a 18) (a 19) (a 20) cI cZ qq ++ ld_mW a cJ mw) sz [.ref (a 0), .int p0, .int p1]) (ld_QI D (ld_dW a R.2.1 ++ ld_gW a cI G ++ ld_rW a cI R.2.2.1 ++ ld_pW (a 10) (a 11) (a 12) cI cZ R.2.2.2.1 ++ ld_uW a cI R.2.2.2.2.1 ++ ld_hW a cI R.2.2.2.2.2.1 ++ ld_pW (a 18) (a 19) (a 20) cI cZ R.2.2.2.2.2.2.1 ++ ld_mW a cJ R.2.2.2.2.2.2.2) (va_A (ld_dW a dk ++ ld_gW a cI G ++ ld_rW a cI rc ++ ld_pW (a 10) (a 11) (a 12) cI cZ q ++ ld_uW a cI u ++ ld_hW a cI hh ++ ld_pW (a 18) (a 19) (a 20) cI cZ qq ++ ld_mW a cJ mw) sz) R.1) 0 0 ((va_A (ld_dW a dk ++ ld_gW a cI G ++ ld_rW a cI rc ++ ld_pW (a 10) (a 11) (a 12) cI cZ q ++ ld_uW a cI u ++ ld_hW a cI hh ++ ld_pW (a 18) (a 19) (a 20) cI cZ qq ++ ld_mW a cJ mw) sz)) := by
  refine Met.ofW (cc := prog_1_method_8_code) (maxL := 3) (ret := (some .int)) (by decide) rfl ?_
  intro p e s m args below meth c s₁ B hml hv
  obtain ⟨rfl, hsz, hP, hK, hD0, hN⟩ := hv
  have hx := B.exec
  have hb := B.bytes
  have hr := B.returns
  have hg : ∀ w ∈ bgT, w.before _ s = true := fun w h => atoms_spec (ws := (Cond.code y_met prog_1_method_8_code 3 (some .int) :: bgT)) B.pre w (List.mem_cons_of_mem _ h)
  have hown : s.vm.findClass "LoanDesk" = some m.cls := findClass_of_methodNamed B.named
  have hlocks := B.notSynchronized
  subst hsz
  have hD := hD0.self (sz := s.heap.size)
  generalize hAe : va_A (ld_dW a dk ++ ld_gW a cI G ++ ld_rW a cI rc ++ ld_pW (a 10) (a 11) (a 12) cI cZ q ++ ld_uW a cI u ++ ld_hW a cI hh ++ ld_pW (a 18) (a 19) (a 20) cI cZ qq ++ ld_mW a cJ mw) s.heap.size = A at hD ⊢
  have hA : ∀ q : Nat, s.heap.size ≤ q → A q := fun q h => by rw [← hAe]; exact Or.inr h
  have hS : va_S A s.heap s.heap [] := va_S.rf
  have hl := lv_entry ([.ref (a 0), .int p0, .int p1]) (n := 3) (Nat.le_of_ble_eq_true rfl)
  rw [lg_entry_eq]
  generalize (lg_sl ([.ref (a 0), .int p0, .int p1]) ++ List.replicate (3 - (lg_sl ([.ref (a 0), .int p0, .int p1])).length) Slot.unset).toArray = ls at hl ⊢
  have hl : lv_has ls 3 [(0, .ref (a 0)), (1, .int p0), (2, .int p1)] := hl
  refine lv_aload_n hx hb d_met_0 rfl (lv_at hl 0 rfl) ?_
  refine va_get (D := D) (ci := 6) (v := .ref (a 1)) (C := "LoanDesk") (T := T_Desk) (N := 7) hx hb hg u_Desk hown hK hP 0 rfl rfl 0 (by decide) (hg _ k_109) (fun _ h9 => h9) rfl d_met_1 ?_
  refine lv_iload_n hx hb d_met_4 rfl (lv_at hl 1 rfl) ?_
  obtain ⟨r_1, e_1, h⟩ := ld_nm h
  refine ld_rd (W.runV (As := [.int p0]) (rest := []) ⟨hx, hb, hml, hown, hg⟩ (lc_isPoint l D cI cZ cJ a G p0 r_1 e_1) ⟨callB_of 1 hg (ld_gd k_155) rfl rfl rfl (hg _ k_24) (hg _ k_152) hd_isPoint ⟨Nat.le_of_ble_eq_true rfl, Nat.le_of_ble_eq_true rfl⟩, hg _ k_153, hg _ k_154⟩ (ld_preRV hP hK hN [1, 2, 3, 4, 5, 6, 7] rfl 0 0 rfl rfl) rfl rfl hl.1 rfl (lv_room (Nat.le_of_ble_eq_true rfl)) d_met_5 ⟨Nat.zero_le _, Nat.zero_le _⟩) ?_
  refine lv_if_ne (tgt := 13) hx hb d_met_8 (by decide) (fun c_2 => ?_) (fun c_2 => ?_)
  · have h := (if_neg c_2).symm.trans h
    refine lv_aload_n hx hb d_met_13 rfl (lv_at hl 0 rfl) ?_
    obtain ⟨r_3, e_3, h⟩ := ld_ob h
    refine ld_mv (wr := ([] : List Nat).filterMap (fun i => (ld_dW a dk ++ ld_gW a cI G ++ ld_rW a cI rc ++ ld_pW (a 10) (a 11) (a 12) cI cZ q ++ ld_uW a cI u ++ ld_hW a cI hh ++ ld_pW (a 18) (a 19) (a 20) cI cZ qq ++ ld_mW a cJ mw)[i]?)) (ws2 := ld_dW a r_3.1 ++ ld_gW a cI G ++ ld_rW a cI r_3.2.1 ++ ld_pW (a 10) (a 11) (a 12) cI cZ r_3.2.2.1 ++ ld_uW a cI r_3.2.2.2.1 ++ ld_hW a cI r_3.2.2.2.2.1 ++ ld_pW (a 18) (a 19) (a 20) cI cZ r_3.2.2.2.2.2.1 ++ ld_mW a cJ r_3.2.2.2.2.2.2) (va_runV (As := []) (rest := []) ⟨hx, hb, hml, hown, hg⟩ (lc_findMeet l D cI cZ cJ a dk G rc q u hh qq mw _ N r_3 e_3) ⟨callB_of 0 hg (ld_gd k_288) rfl rfl rfl (hg _ k_23) (hg _ k_286) hd_findMeet ⟨Nat.le_of_ble_eq_true rfl, Nat.le_of_ble_eq_true rfl⟩, hg _ k_287, hg _ k_6⟩ (ld_preMV hP hK hN hD [0, 1, 2, 3, 4, 5, 6, 7, 8, 9, 10, 11, 12, 13, 14, 15, 16, 17, 18, 19, 20, 21, 22] (by decide) rfl 6 0 rfl rfl) rfl rfl hl.1 rfl (lv_room (Nat.le_of_ble_eq_true rfl)) d_met_14 ⟨Nat.zero_le _, Nat.zero_le _⟩) hP hD hS hA [0, 1, 2, 3, 4, 5, 6, 7, 8, 9, 10, 11, 12, 13, 14, 15, 16, 17, 18, 19, 20, 21, 22] [] [0, 1, 2, 3, 4, 5, 6, 7, 8, 9, 10, 11, 12, 13, 14, 15, 16, 17, 18, 19, 20, 21, 22] rfl rfl (by decide) (by decide) (by decide) rfl (fun H locs hP hD hS => ?_)
    refine lv_aload_n hx hb d_met_17 rfl (lv_at hl 0 rfl) ?_
    refine va_get (D := D) (ci := 6) (v := .ref (a 21)) (C := "LoanDesk") (T := T_Desk) (N := 7) hx hb hg u_Desk hown hK hP 0 rfl rfl 4 (by decide) (hg _ k_113) (fun _ h9 => h9) rfl d_met_18 ?_
    refine lv_iload_n hx hb d_met_21 rfl (lv_at hl 1 rfl) ?_
    refine lv_iload_n hx hb d_met_22 rfl (lv_at hl 2 rfl) ?_
    obtain ⟨r_4, e_4, h⟩ := ld_ob h
    refine ld_rd (W.runV (As := [.int p0, .int p1]) (rest := []) ⟨hx, hb, hml, hown, hg⟩ (lc_least l D cI cZ cJ a r_3.2.2.2.2.2.2 p0 p1 N r_4 e_4) ⟨callB_of 2 hg (ld_gd k_329) rfl rfl rfl (hg _ k_29) (hg _ k_326) hd_least ⟨Nat.le_of_ble_eq_true rfl, Nat.le_of_ble_eq_true rfl⟩, hg _ k_327, hg _ k_328⟩ (ld_preRV hP hK hN [21, 22] rfl 5 0 rfl rfl) rfl rfl hl.1 rfl (lv_room (Nat.le_of_ble_eq_true rfl)) d_met_23 ⟨Nat.zero_le _, Nat.zero_le _⟩) ?_
    have h := Option.some.inj h
    subst h
    exact W.iret (v := r_4) hx hb hr (fun t ht hW => ⟨⟨_, (), rfl, rfl, by rw [ht]; exact hP, hD⟩, hS.F ht⟩) hS.2.2 d_met_26
  · have h := (if_pos c_2).symm.trans h
    refine lv_iconst (v := (-1)) hx hb d_met_11 (by decide) ?_
    have h := Option.some.inj h
    subst h
    exact W.iret (v := (-1)) hx hb hr (fun t ht hW => ⟨⟨_, (), rfl, rfl, by rw [ht]; exact hP, hD⟩, hS.F ht⟩) hS.2.2 d_met_12
def lm_count (N : Nat) (dk : Int32 × Int32) (G : ld_gT) (rc : Nat → Int32) (q : ld_pT) (u : Nat → Int32) (hh : (Nat → Int32) × (Nat → Int32)) (qq : ld_pT) (mw : Nat → Int64) (p0 : Int32) : Option (Int32 × (Int32 × Int32) × (Nat → Int32) × ld_pT × (Nat → Int32) × ((Nat → Int32) × (Nat → Int32)) × ld_pT × (Nat → Int64)) := if p0 = 0 then (ld_lt (lf_gsize G) (fun r_2 => some (r_2, dk, rc, q, u, hh, qq, mw))) else (if p0 = 1 then (Option.bind (lm_findWays N dk G rc q u) (fun r_4 => Option.bind (lm_rcount N r_4.2.1) (fun r_5 => some (r_5, r_4.1, r_4.2.1, r_4.2.2.1, r_4.2.2.2, hh, qq, mw)))) else (if p0 = 2 then (Option.bind (lm_findMeet N dk G rc q u hh qq mw) (fun r_7 => Option.bind (lm_mcount N r_7.2.2.2.2.2.2) (fun r_8 => some (r_8, r_7.1, r_7.2.1, r_7.2.2.1, r_7.2.2.2.1, r_7.2.2.2.2.1, r_7.2.2.2.2.2.1, r_7.2.2.2.2.2.2)))) else (if p0 = 3 then (Option.bind (lm_findMeet N dk G rc q u hh qq mw) (fun r_10 => Option.bind (lm_mfirst N r_10.2.2.2.2.2.2) (fun r_11 => some (r_11, r_10.1, r_10.2.1, r_10.2.2.1, r_10.2.2.2.1, r_10.2.2.2.2.1, r_10.2.2.2.2.2.1, r_10.2.2.2.2.2.2)))) else (if p0 = 4 then Option.bind (lm_countLoans N G) (fun r_13 => some (r_13, dk, rc, q, u, hh, qq, mw)) else some ((-1), dk, rc, q, u, hh, qq, mw)))))
set_option maxHeartbeats 4000000 in
set_option maxRecDepth 100000 in
theorem lc_count (l : Launch) (D : va_G) (cI cZ cJ : ClassId) (a : Nat → Nat) (dk : Int32 × Int32) (G : ld_gT) (rc : Nat → Int32) (q : ld_pT) (u : Nat → Int32) (hh : (Nat → Int32) × (Nat → Int32)) (qq : ld_pT) (mw : Nat → Int64) (p0 : Int32) (sz : Nat) (N : Nat) (R : Int32 × (Int32 × Int32) × (Nat → Int32) × ld_pT × (Nat → Int32) × ((Nat → Int32) × (Nat → Int32)) × ld_pT × (Nat → Int64)) (h : lm_count N dk G rc q u hh qq mw p0 = some R) : Met l y_count (Cond.code y_count prog_1_method_9_code 2 (some .int) :: bgT) ({ frames := 6, cells := 0, slots := 0, locals := 133 }) (ld_PM D cI cZ cJ (ld_dW a dk ++ ld_gW a cI G ++ ld_rW a cI rc ++ ld_pW (a 10) (a 11) (a 12) cI cZ q ++ ld_uW a cI u ++ ld_hW a cI hh ++ ld_pW (a 18) (a 19) (a 20) cI cZ qq ++ ld_mW a cJ mw) sz [.ref (a 0), .int p0]) (ld_QI D (ld_dW a R.2.1 ++ ld_gW a cI G ++ ld_rW a cI R.2.2.1 ++ ld_pW (a 10) (a 11) (a 12) cI cZ R.2.2.2.1 ++ ld_uW a cI R.2.2.2.2.1 ++ ld_hW a cI R.2.2.2.2.2.1 ++ ld_pW (a 18) (a 19) (a 20) cI cZ R.2.2.2.2.2.2.1 ++ ld_mW a cJ R.2.2.2.2.2.2.2) (va_A (ld_dW a dk ++ ld_gW a cI G ++ ld_rW a cI rc ++ ld_pW (a 10) (a 11) (a 12) cI cZ q ++ ld_uW a cI u ++ ld_hW a cI hh ++ ld_pW (a 18) (a 19) (a 20) cI cZ qq ++ ld_mW a cJ mw) sz) R.1) 0 0 ((va_A (ld_dW a dk ++ ld_gW a cI G ++ ld_rW a cI rc ++ ld_pW (a 10) (a 11) (a 12) cI cZ q ++ ld_uW a cI u ++ ld_hW a cI hh ++ ld_pW (a 18) (a 19) (a 20) cI cZ qq ++ ld_mW a cJ mw) sz)) := by
  refine Met.ofW (cc := prog_1_method_9_code) (maxL := 2) (ret := (some .int)) (by decide) rfl ?_
  intro p e s m args below meth c s₁ B hml hv
  obtain ⟨rfl, hsz, hP, hK, hD0, hN⟩ := hv
  have hx := B.exec
  have hb := B.bytes
  have hr := B.returns
  have hg : ∀ w ∈ bgT, w.before _ s = true := fun w h => atoms_spec (ws := (Cond.code y_count prog_1_method_9_code 2 (some .int) :: bgT)) B.pre w (List.mem_cons_of_mem _ h)
  have hown : s.vm.findClass "LoanDesk" = some m.cls := findClass_of_methodNamed B.named
  have hlocks := B.notSynchronized
  subst hsz
  have hD := hD0.self (sz := s.heap.size)
  generalize hAe : va_A (ld_dW a dk ++ ld_gW a cI G ++ ld_rW a cI rc ++ ld_pW (a 10) (a 11) (a 12) cI cZ q ++ ld_uW a cI u ++ ld_hW a cI hh ++ ld_pW (a 18) (a 19) (a 20) cI cZ qq ++ ld_mW a cJ mw) s.heap.size = A at hD ⊢
  have hA : ∀ q : Nat, s.heap.size ≤ q → A q := fun q h => by rw [← hAe]; exact Or.inr h
  have hS : va_S A s.heap s.heap [] := va_S.rf
  have hl := lv_entry ([.ref (a 0), .int p0]) (n := 2) (Nat.le_of_ble_eq_true rfl)
  rw [lg_entry_eq]
  generalize (lg_sl ([.ref (a 0), .int p0]) ++ List.replicate (2 - (lg_sl ([.ref (a 0), .int p0])).length) Slot.unset).toArray = ls at hl ⊢
  have hl : lv_has ls 2 [(0, .ref (a 0)), (1, .int p0)] := hl
  refine lv_iload_n hx hb d_count_0 rfl (lv_at hl 1 rfl) ?_
  by_cases c_1 : p0 = 0
  · have h := (if_pos c_1).symm.trans h
    refine lv_tableIn (tgt := 36) hx hb d_count_1 (by rw [c_1]; decide) (by rw [c_1]; decide) (by rw [c_1]; rfl) (by decide) ?_
    refine lv_aload_n hx hb d_count_36 rfl (lv_at hl 0 rfl) ?_
    refine va_get (D := D) (ci := 6) (v := .ref (a 1)) (C := "LoanDesk") (T := T_Desk) (N := 7) hx hb hg u_Desk hown hK hP 0 rfl rfl 0 (by decide) (hg _ k_109) (fun _ h9 => h9) rfl d_count_37 ?_
    obtain ⟨r_2, e_2, h⟩ := ld_nm h
    refine ld_rd (W.runV (As := []) (rest := []) ⟨hx, hb, hml, hown, hg⟩ (lc_gsize l D cI cZ cJ a G r_2 e_2) ⟨callB_of 0 hg (ld_gd k_220) rfl rfl rfl (hg _ k_24) (hg _ k_296) hd_gsize ⟨Nat.le_of_ble_eq_true rfl, Nat.le_of_ble_eq_true rfl⟩, hg _ k_218, hg _ k_219⟩ (ld_preRV hP hK hN [1, 2, 3, 4, 5, 6, 7] rfl 0 0 rfl rfl) rfl rfl hl.1 rfl (lv_room (Nat.le_of_ble_eq_true rfl)) d_count_40 ⟨Nat.zero_le _, Nat.zero_le _⟩) ?_
    have h := Option.some.inj h
    subst h
    exact W.iret (v := r_2) hx hb hr (fun t ht hW => ⟨⟨_, (), rfl, rfl, by rw [ht]; exact hP, hD⟩, hS.F ht⟩) hS.2.2 d_count_43
  have h := (if_neg c_1).symm.trans h
  by_cases c_3 : p0 = 1
  · have h := (if_pos c_3).symm.trans h
    refine lv_tableIn (tgt := 44) hx hb d_count_1 (by rw [c_3]; decide) (by rw [c_3]; decide) (by rw [c_3]; rfl) (by decide) ?_
    refine lv_aload_n hx hb d_count_44 rfl (lv_at hl 0 rfl) ?_
    obtain ⟨r_4, e_4, h⟩ := ld_ob h
    refine ld_mv (wr := ([15, 16, 17, 18, 19, 20, 21, 22] : List Nat).filterMap (fun i => (ld_dW a dk ++ ld_gW a cI G ++ ld_rW a cI rc ++ ld_pW (a 10) (a 11) (a 12) cI cZ q ++ ld_uW a cI u ++ ld_hW a cI hh ++ ld_pW (a 18) (a 19) (a 20) cI cZ qq ++ ld_mW a cJ mw)[i]?)) (ws2 := ld_dW a r_4.1 ++ ld_gW a cI G ++ ld_rW a cI r_4.2.1 ++ ld_pW (a 10) (a 11) (a 12) cI cZ r_4.2.2.1 ++ ld_uW a cI r_4.2.2.2 ++ ld_hW a cI hh ++ ld_pW (a 18) (a 19) (a 20) cI cZ qq ++ ld_mW a cJ mw) (va_runV (As := []) (rest := []) ⟨hx, hb, hml, hown, hg⟩ (lc_findWays l D cI cZ cJ a dk G rc q u _ N r_4 e_4) ⟨callB_of 0 hg (ld_gd k_173) rfl rfl rfl (hg _ k_23) (hg _ k_171) hd_findWays ⟨Nat.le_of_ble_eq_true rfl, Nat.le_of_ble_eq_true rfl⟩, hg _ k_172, hg _ k_1⟩ (ld_preMV hP hK hN hD [0, 1, 2, 3, 4, 5, 6, 7, 8, 9, 10, 11, 12, 13, 14] (by decide) rfl 6 0 rfl rfl) rfl rfl hl.1 rfl (lv_room (Nat.le_of_ble_eq_true rfl)) d_count_45 ⟨Nat.zero_le _, Nat.zero_le _⟩) hP hD hS hA [0, 1, 2, 3, 4, 5, 6, 7, 8, 9, 10, 11, 12, 13, 14] [15, 16, 17, 18, 19, 20, 21, 22] [8, 9, 10, 11, 12, 13, 14, 15, 16, 17, 18, 19, 20, 21, 22, 0, 1, 2, 3, 4, 5, 6, 7] rfl rfl (by decide) (by decide) (by decide) rfl (fun H locs hP hD hS => ?_)
    refine lv_aload_n hx hb d_count_48 rfl (lv_at hl 0 rfl) ?_
    refine va_get (D := D) (ci := 6) (v := .ref (a 8)) (C := "LoanDesk") (T := T_Desk) (N := 7) hx hb hg u_Desk hown hK hP 0 rfl rfl 1 (by decide) (hg _ k_110) (fun _ h9 => h9) rfl d_count_49 ?_
    obtain ⟨r_5, e_5, h⟩ := ld_ob h
    refine ld_rd (W.runV (As := []) (rest := []) ⟨hx, hb, hml, hown, hg⟩ (lc_rcount l D cI cZ cJ a r_4.2.1 N r_5 e_5) ⟨callB_of 0 hg (ld_gd k_340) rfl rfl rfl (hg _ k_25) (hg _ k_337) hd_rcount ⟨Nat.le_of_ble_eq_true rfl, Nat.le_of_ble_eq_true rfl⟩, hg _ k_338, hg _ k_339⟩ (ld_preRV hP hK hN [8, 9] rfl 2 0 rfl rfl) rfl rfl hl.1 rfl (lv_room (Nat.le_of_ble_eq_true rfl)) d_count_52 ⟨Nat.zero_le _, Nat.zero_le _⟩) ?_
    have h := Option.some.inj h
    subst h
    exact W.iret (v := r_5) hx hb hr (fun t ht hW => ⟨⟨_, (), rfl, rfl, by rw [ht]; exact hP, hD⟩, hS.F ht⟩) hS.2.2 d_count_55
  have h := (if_neg c_3).symm.trans h
  by_cases c_6 : p0 = 2
  · have h := (if_pos c_6).symm.trans h
    refine lv_tableIn (tgt := 56) hx hb d_count_1 (by rw [c_6]; decide) (by rw [c_6]; decide) (by rw [c_6]; rfl) (by decide) ?_
    refine lv_aload_n hx hb d_count_56 rfl (lv_at hl 0 rfl) ?_
    obtain ⟨r_7, e_7, h⟩ := ld_ob h
    refine ld_mv (wr := ([] : List Nat).filterMap (fun i => (ld_dW a dk ++ ld_gW a cI G ++ ld_rW a cI rc ++ ld_pW (a 10) (a 11) (a 12) cI cZ q ++ ld_uW a cI u ++ ld_hW a cI hh ++ ld_pW (a 18) (a 19) (a 20) cI cZ qq ++ ld_mW a cJ mw)[i]?)) (ws2 := ld_dW a r_7.1 ++ ld_gW a cI G ++ ld_rW a cI r_7.2.1 ++ ld_pW (a 10) (a 11) (a 12) cI cZ r_7.2.2.1 ++ ld_uW a cI r_7.2.2.2.1 ++ ld_hW a cI r_7.2.2.2.2.1 ++ ld_pW (a 18) (a 19) (a 20) cI cZ r_7.2.2.2.2.2.1 ++ ld_mW a cJ r_7.2.2.2.2.2.2) (va_runV (As := []) (rest := []) ⟨hx, hb, hml, hown, hg⟩ (lc_findMeet l D cI cZ cJ a dk G rc q u hh qq mw _ N r_7 e_7) ⟨callB_of 0 hg (ld_gd k_288) rfl rfl rfl (hg _ k_23) (hg _ k_286) hd_findMeet ⟨Nat.le_of_ble_eq_true rfl, Nat.le_of_ble_eq_true rfl⟩, hg _ k_287, hg _ k_6⟩ (ld_preMV hP hK hN hD [0, 1, 2, 3, 4, 5, 6, 7, 8, 9, 10, 11, 12, 13, 14, 15, 16, 17, 18, 19, 20, 21, 22] (by decide) rfl 6 0 rfl rfl) rfl rfl hl.1 rfl (lv_room (Nat.le_of_ble_eq_true rfl)) d_count_57 ⟨Nat.zero_le _, Nat.zero_le _⟩) hP hD hS hA [0, 1, 2, 3, 4, 5, 6, 7, 8, 9, 10, 11, 12, 13, 14, 15, 16, 17, 18, 19, 20, 21, 22] [] [0, 1, 2, 3, 4, 5, 6, 7, 8, 9, 10, 11, 12, 13, 14, 15, 16, 17, 18, 19, 20, 21, 22] rfl rfl (by decide) (by decide) (by decide) rfl (fun H locs hP hD hS => ?_)
    refine lv_aload_n hx hb d_count_60 rfl (lv_at hl 0 rfl) ?_
    refine va_get (D := D) (ci := 6) (v := .ref (a 21)) (C := "LoanDesk") (T := T_Desk) (N := 7) hx hb hg u_Desk hown hK hP 0 rfl rfl 4 (by decide) (hg _ k_113) (fun _ h9 => h9) rfl d_count_61 ?_
    obtain ⟨r_8, e_8, h⟩ := ld_ob h
    refine ld_rd (W.runV (As := []) (rest := []) ⟨hx, hb, hml, hown, hg⟩ (lc_mcount l D cI cZ cJ a r_7.2.2.2.2.2.2 N r_8 e_8) ⟨callB_of 0 hg (ld_gd k_344) rfl rfl rfl (hg _ k_29) (hg _ k_341) hd_mcount ⟨Nat.le_of_ble_eq_true rfl, Nat.le_of_ble_eq_true rfl⟩, hg _ k_342, hg _ k_343⟩ (ld_preRV hP hK hN [21, 22] rfl 5 0 rfl rfl) rfl rfl hl.1 rfl (lv_room (Nat.le_of_ble_eq_true rfl)) d_count_64 ⟨Nat.zero_le _, Nat.zero_le _⟩) ?_
    have h := Option.some.inj h
    subst h
    exact W.iret (v := r_8) hx hb hr (fun t ht hW => ⟨⟨_, (), rfl, rfl, by rw [ht]; exact hP, hD⟩, hS.F ht⟩) hS.2.2 d_count_67
  have h := (if_neg c_6).symm.trans h
  by_cases c_9 : p0 = 3
  · have h := (if_pos c_9).symm.trans h
    refine lv_tableIn (tgt := 68) hx hb d_count_1 (by rw [c_9]; decide) (by rw [c_9]; decide) (by rw [c_9]; rfl) (by decide) ?_
    refine lv_aload_n hx hb d_count_68 rfl (lv_at hl 0 rfl) ?_
    obtain ⟨r_10, e_10, h⟩ := ld_ob h
    refine ld_mv (wr := ([] : List Nat).filterMap (fun i => (ld_dW a dk ++ ld_gW a cI G ++ ld_rW a cI rc ++ ld_pW (a 10) (a 11) (a 12) cI cZ q ++ ld_uW a cI u ++ ld_hW a cI hh ++ ld_pW (a 18) (a 19) (a 20) cI cZ qq ++ ld_mW a cJ mw)[i]?)) (ws2 := ld_dW a r_10.1 ++ ld_gW a cI G ++ ld_rW a cI r_10.2.1 ++ ld_pW (a 10) (a 11) (a 12) cI cZ r_10.2.2.1 ++ ld_uW a cI r_10.2.2.2.1 ++ ld_hW a cI r_10.2.2.2.2.1 ++ ld_pW (a 18) (a 19) (a 20) cI cZ r_10.2.2.2.2.2.1 ++ ld_mW a cJ r_10.2.2.2.2.2.2) (va_runV (As := []) (rest := []) ⟨hx, hb, hml, hown, hg⟩ (lc_findMeet l D cI cZ cJ a dk G rc q u hh qq mw _ N r_10 e_10) ⟨callB_of 0 hg (ld_gd k_288) rfl rfl rfl (hg _ k_23) (hg _ k_286) hd_findMeet ⟨Nat.le_of_ble_eq_true rfl, Nat.le_of_ble_eq_true rfl⟩, hg _ k_287, hg _ k_6⟩ (ld_preMV hP hK hN hD [0, 1, 2, 3, 4, 5, 6, 7, 8, 9, 10, 11, 12, 13, 14, 15, 16, 17, 18, 19, 20, 21, 22] (by decide) rfl 6 0 rfl rfl) rfl rfl hl.1 rfl (lv_room (Nat.le_of_ble_eq_true rfl)) d_count_69 ⟨Nat.zero_le _, Nat.zero_le _⟩) hP hD hS hA [0, 1, 2, 3, 4, 5, 6, 7, 8, 9, 10, 11, 12, 13, 14, 15, 16, 17, 18, 19, 20, 21, 22] [] [0, 1, 2, 3, 4, 5, 6, 7, 8, 9, 10, 11, 12, 13, 14, 15, 16, 17, 18, 19, 20, 21, 22] rfl rfl (by decide) (by decide) (by decide) rfl (fun H locs hP hD hS => ?_)
    refine lv_aload_n hx hb d_count_72 rfl (lv_at hl 0 rfl) ?_
    refine va_get (D := D) (ci := 6) (v := .ref (a 21)) (C := "LoanDesk") (T := T_Desk) (N := 7) hx hb hg u_Desk hown hK hP 0 rfl rfl 4 (by decide) (hg _ k_113) (fun _ h9 => h9) rfl d_count_73 ?_
    obtain ⟨r_11, e_11, h⟩ := ld_ob h
    refine ld_rd (W.runV (As := []) (rest := []) ⟨hx, hb, hml, hown, hg⟩ (lc_mfirst l D cI cZ cJ a r_10.2.2.2.2.2.2 N r_11 e_11) ⟨callB_of 0 hg (ld_gd k_351) rfl rfl rfl (hg _ k_29) (hg _ k_348) hd_mfirst ⟨Nat.le_of_ble_eq_true rfl, Nat.le_of_ble_eq_true rfl⟩, hg _ k_349, hg _ k_350⟩ (ld_preRV hP hK hN [21, 22] rfl 5 0 rfl rfl) rfl rfl hl.1 rfl (lv_room (Nat.le_of_ble_eq_true rfl)) d_count_76 ⟨Nat.zero_le _, Nat.zero_le _⟩) ?_
    have h := Option.some.inj h
    subst h
    exact W.iret (v := r_11) hx hb hr (fun t ht hW => ⟨⟨_, (), rfl, rfl, by rw [ht]; exact hP, hD⟩, hS.F ht⟩) hS.2.2 d_count_79
  have h := (if_neg c_9).symm.trans h
  by_cases c_12 : p0 = 4
  · have h := (if_pos c_12).symm.trans h
    refine lv_tableIn (tgt := 80) hx hb d_count_1 (by rw [c_12]; decide) (by rw [c_12]; decide) (by rw [c_12]; rfl) (by decide) ?_
    refine lv_aload_n hx hb d_count_80 rfl (lv_at hl 0 rfl) ?_
    refine va_get (D := D) (ci := 6) (v := .ref (a 1)) (C := "LoanDesk") (T := T_Desk) (N := 7) hx hb hg u_Desk hown hK hP 0 rfl rfl 0 (by decide) (hg _ k_109) (fun _ h9 => h9) rfl d_count_81 ?_
    obtain ⟨r_13, e_13, h⟩ := ld_ob h
    refine ld_rd (W.runV (As := []) (rest := []) ⟨hx, hb, hml, hown, hg⟩ (lc_countLoans l D cI cZ cJ a G N r_13 e_13) ⟨callB_of 0 hg (ld_gd k_355) rfl rfl rfl (hg _ k_24) (hg _ k_352) hd_countLoans ⟨Nat.le_of_ble_eq_true rfl, Nat.le_of_ble_eq_true rfl⟩, hg _ k_353, hg _ k_354⟩ (ld_preRV hP hK hN [1, 2, 3, 4, 5, 6, 7] rfl 0 0 rfl rfl) rfl rfl hl.1 rfl (lv_room (Nat.le_of_ble_eq_true rfl)) d_count_84 ⟨Nat.zero_le _, Nat.zero_le _⟩) ?_
    have h := Option.some.inj h
    subst h
    exact W.iret (v := r_13) hx hb hr (fun t ht hW => ⟨⟨_, (), rfl, rfl, by rw [ht]; exact hP, hD⟩, hS.F ht⟩) hS.2.2 d_count_87
  have h := (if_neg c_12).symm.trans h
  refine lv_tableOut (tgt := 88) hx hb d_count_1 (by have e_c_1 := lv_neT c_1 (a := 0) (by decide); have e_c_3 := lv_neT c_3 (a := 1) (by decide); have e_c_6 := lv_neT c_6 (a := 2) (by decide); have e_c_9 := lv_neT c_9 (a := 3) (by decide); have e_c_12 := lv_neT c_12 (a := 4) (by decide); omega) (by decide) ?_
  refine lv_iconst (v := (-1)) hx hb d_count_88 (by decide) ?_
  have h := Option.some.inj h
  subst h
  exact W.iret (v := (-1)) hx hb hr (fun t ht hW => ⟨⟨_, (), rfl, rfl, by rw [ht]; exact hP, hD⟩, hS.F ht⟩) hS.2.2 d_count_89
def lf_clear (dk : Int32 × Int32) (G : ld_gT) : Int32 × (Int32 × Int32) × ld_gT := ld_lt (lf_gsize G) (fun r_1 => ld_lt (lf_forget dk) (fun r_2 => ld_lt (lf_gempty G) (fun r_3 => (r_1, r_2, r_3))))
set_option maxHeartbeats 4000000 in
set_option maxRecDepth 100000 in
theorem lc_clear (l : Launch) (D : va_G) (cI cZ cJ : ClassId) (a : Nat → Nat) (dk : Int32 × Int32) (G : ld_gT) (sz : Nat) (R : Int32 × (Int32 × Int32) × ld_gT) (h : lf_clear dk G = R) : Met l y_clear (Cond.code y_clear prog_1_method_10_code 2 (some .int) :: bgT) ({ frames := 1, cells := 0, slots := 0, locals := 20 }) (ld_PM D cI cZ cJ (ld_dW a dk ++ ld_gW a cI G) sz [.ref (a 0)]) (ld_QI D (ld_dW a R.2.1 ++ ld_gW a cI R.2.2) (va_A (ld_dW a dk ++ ld_gW a cI G) sz) R.1) 0 0 ((va_A (ld_dW a dk ++ ld_gW a cI G) sz)) := by
  refine Met.ofW (cc := prog_1_method_10_code) (maxL := 2) (ret := (some .int)) (by decide) rfl ?_
  intro p e s m args below meth c s₁ B hml hv
  obtain ⟨rfl, hsz, hP, hK, hD0, hN⟩ := hv
  have hx := B.exec
  have hb := B.bytes
  have hr := B.returns
  have hg : ∀ w ∈ bgT, w.before _ s = true := fun w h => atoms_spec (ws := (Cond.code y_clear prog_1_method_10_code 2 (some .int) :: bgT)) B.pre w (List.mem_cons_of_mem _ h)
  have hown : s.vm.findClass "LoanDesk" = some m.cls := findClass_of_methodNamed B.named
  have hlocks := B.notSynchronized
  subst hsz
  have hD := hD0.self (sz := s.heap.size)
  generalize hAe : va_A (ld_dW a dk ++ ld_gW a cI G) s.heap.size = A at hD ⊢
  have hA : ∀ q : Nat, s.heap.size ≤ q → A q := fun q h => by rw [← hAe]; exact Or.inr h
  have hS : va_S A s.heap s.heap [] := va_S.rf
  have hl := lv_entry ([.ref (a 0)]) (n := 2) (Nat.le_of_ble_eq_true rfl)
  rw [lg_entry_eq]
  generalize (lg_sl ([.ref (a 0)]) ++ List.replicate (2 - (lg_sl ([.ref (a 0)])).length) Slot.unset).toArray = ls at hl ⊢
  have hl : lv_has ls 2 [(0, .ref (a 0))] := hl
  refine lv_aload_n hx hb d_clear_0 rfl (lv_at hl 0 rfl) ?_
  refine va_get (D := D) (ci := 6) (v := .ref (a 1)) (C := "LoanDesk") (T := T_Desk) (N := 7) hx hb hg u_Desk hown hK hP 0 rfl rfl 0 (by decide) (hg _ k_109) (fun _ h9 => h9) rfl d_clear_1 ?_
  obtain ⟨r_1, e_1, h⟩ := ld_nm h
  refine ld_rd (W.runV (As := []) (rest := []) ⟨hx, hb, hml, hown, hg⟩ (lc_gsize l D cI cZ cJ a G r_1 e_1) ⟨callB_of 0 hg (ld_gd k_220) rfl rfl rfl (hg _ k_24) (hg _ k_296) hd_gsize ⟨Nat.le_of_ble_eq_true rfl, Nat.le_of_ble_eq_true rfl⟩, hg _ k_218, hg _ k_219⟩ (ld_preRV hP hK hN [1, 2, 3, 4, 5, 6, 7] rfl 0 0 rfl rfl) rfl rfl hl.1 rfl (lv_room (Nat.le_of_ble_eq_true rfl)) d_clear_4 ⟨Nat.zero_le _, Nat.zero_le _⟩) ?_
  refine lv_istore_n (lv' := [(1, .int r_1), (0, .ref (a 0))]) hx hb d_clear_7 rfl hl (by decide) rfl (fun ls hl => ?_)
  refine lv_aload_n hx hb d_clear_8 rfl (lv_at hl 1 rfl) ?_
  obtain ⟨r_2, e_2, h⟩ := ld_nm h
  refine ld_mv (wr := ([1, 2, 3, 4, 5, 6, 7] : List Nat).filterMap (fun i => (ld_dW a dk ++ ld_gW a cI G)[i]?)) (ws2 := ld_dW a r_2 ++ ld_gW a cI G) (va_runV (As := []) (rest := []) ⟨hx, hb, hml, hown, hg⟩ (lc_forget l D cI cZ cJ a dk _ r_2 e_2) ⟨callB_of 0 hg (ld_gd k_142) rfl rfl rfl (hg _ k_23) (hg _ k_140) hd_forget ⟨Nat.le_of_ble_eq_true rfl, Nat.le_of_ble_eq_true rfl⟩, hg _ k_141, hg _ k_0⟩ (ld_preMV hP hK hN hD [0] (by decide) rfl 6 0 rfl rfl) rfl rfl hl.1 rfl (lv_room (Nat.le_of_ble_eq_true rfl)) d_clear_9 ⟨Nat.zero_le _, Nat.zero_le _⟩) hP hD hS hA [0] [1, 2, 3, 4, 5, 6, 7] [7, 0, 1, 2, 3, 4, 5, 6] rfl rfl (by decide) (by decide) (by decide) rfl (fun H locs hP hD hS => ?_)
  refine lv_aload_n hx hb d_clear_12 rfl (lv_at hl 1 rfl) ?_
  refine va_get (D := D) (ci := 6) (v := .ref (a 1)) (C := "LoanDesk") (T := T_Desk) (N := 7) hx hb hg u_Desk hown hK hP 0 rfl rfl 0 (by decide) (hg _ k_109) (fun _ h9 => h9) rfl d_clear_13 ?_
  obtain ⟨r_3, e_3, h⟩ := ld_nm h
  refine ld_mv (wr := ([0] : List Nat).filterMap (fun i => (ld_dW a r_2 ++ ld_gW a cI G)[i]?)) (ws2 := ld_dW a r_2 ++ ld_gW a cI r_3) (va_runV (As := []) (rest := []) ⟨hx, hb, hml, hown, hg⟩ (lc_gempty l D cI cZ cJ a G _ r_3 e_3) ⟨callB_of 0 hg (ld_gd k_363) rfl rfl rfl (hg _ k_24) (hg _ k_360) hd_gempty ⟨Nat.le_of_ble_eq_true rfl, Nat.le_of_ble_eq_true rfl⟩, hg _ k_361, hg _ k_362⟩ (ld_preMV hP hK hN hD [1, 2, 3, 4, 5, 6, 7] (by decide) rfl 0 0 rfl rfl) rfl rfl hl.1 rfl (lv_room (Nat.le_of_ble_eq_true rfl)) d_clear_16 ⟨Nat.zero_le _, Nat.zero_le _⟩) hP hD hS hA [1, 2, 3, 4, 5, 6, 7] [0] [0, 1, 2, 3, 4, 5, 6, 7] rfl rfl (by decide) (by decide) (by decide) rfl (fun H locs hP hD hS => ?_)
  refine lv_iload_n hx hb d_clear_19 rfl (lv_at hl 0 rfl) ?_
  subst h
  exact W.iret (v := r_1) hx hb hr (fun t ht hW => ⟨⟨_, (), rfl, rfl, by rw [ht]; exact hP, hD⟩, hS.F ht⟩) hS.2.2 d_clear_20
