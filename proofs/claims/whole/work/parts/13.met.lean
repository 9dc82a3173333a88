def lf_pEmpty (P : ld_pT) : Int32 := if 0 < P.2.2 then 0 else 1
set_option maxHeartbeats 4000000 in
set_option maxRecDepth 100000 in
theorem lc_pEmpty (l : Launch) (D : va_G) (cI cZ cJ : ClassId) (a0 a1 a2 : Nat) (P : ld_pT) (R : Int32) (h : lf_pEmpty P = R) : Met l y_pEmpty (Cond.code y_pEmpty prog_5_method_2_code 1 (some .boolean) :: bgT) ({ frames := 0, cells := 0, slots := 0, locals := 0 }) (ld_PR D cI cZ cJ (ld_pW a0 a1 a2 cI cZ P) [.ref a0]) (vp_Si (fun z => z = R)) 0 0 (fun _ => False) := by
  refine Met.ofW (cc := prog_5_method_2_code) (maxL := 1) (ret := (some .boolean)) (by decide) rfl ?_
  intro p e s m args below meth c s₁ B hml hv
  obtain ⟨rfl, hP, hK, hN⟩ := hv
  have hx := B.exec
  have hb := B.bytes
  have hr := B.returns
  have hg : ∀ w ∈ bgT, w.before _ s = true := fun w h => atoms_spec (ws := (Cond.code y_pEmpty prog_5_method_2_code 1 (some .boolean) :: bgT)) B.pre w (List.mem_cons_of_mem _ h)
  have hown : s.vm.findClass "LoanDesk$Pile" = some m.cls := findClass_of_methodNamed B.named
  have hlocks := B.notSynchronized
  have hl := lv_entry ([.ref a0]) (n := 1) (Nat.le_of_ble_eq_true rfl)
  rw [lg_entry_eq]
  generalize (lg_sl ([.ref a0]) ++ List.replicate (1 - (lg_sl ([.ref a0])).length) Slot.unset).toArray = ls at hl ⊢
  have hl : lv_has ls 1 [(0, .ref a0)] := hl
  refine lv_aload_n hx hb d_pEmpty_0 rfl (lv_at hl 0 rfl) ?_
  refine va_get (D := D) (ci := 1) (v := .int P.2.2) (C := "LoanDesk$Pile") (T := T_Pile) (N := 3) hx hb hg u_Pile hown hK hP 0 rfl rfl 2 (by decide) (hg _ k_73) (fun _ h9 => h9) rfl d_pEmpty_1 ?_
  refine lv_if_gt (tgt := 11) hx hb d_pEmpty_4 (by decide) (fun c_1 => ?_) (fun c_1 => ?_)
  · have h := (if_pos c_1).symm.trans h
    refine lv_iconst (v := 0) hx hb d_pEmpty_11 (by decide) ?_
    exact W.zret (v := 0) hx hb hr rfl (fun t ht hW => ⟨_, rfl, h, ht⟩) (fun _ q => by cases q) d_pEmpty_12
  · have h := (if_neg c_1).symm.trans h
    refine lv_iconst (v := 1) hx hb d_pEmpty_7 (by decide) ?_
    refine lv_goto (tgt := 12) hx hb d_pEmpty_8 (by decide) ?_
    exact W.zret (v := 1) hx hb hr rfl (fun t ht hW => ⟨_, rfl, h, ht⟩) (fun _ q => by cases q) d_pEmpty_12
def lf_put (P : ld_pT) (p0 : Int32) : ld_pT := ld_lt (lf_isIndex p0) (fun r_1 => if r_1 = 0 then P else ld_lt (lf_isIndex P.2.2) (fun r_3 => if r_3 = 0 then P else if (P.2.1 p0.toNatClampNeg) = 0 then (upd P.1 P.2.2.toNatClampNeg p0, upd P.2.1 p0.toNatClampNeg (vp_nar .boolean 1), P.2.2 + 1) else P))
set_option maxHeartbeats 4000000 in
set_option maxRecDepth 100000 in
theorem lc_put (l : Launch) (D : va_G) (cI cZ cJ : ClassId) (a0 a1 a2 : Nat) (P : ld_pT) (p0 : Int32) (sz : Nat) (R : ld_pT) (h : lf_put P p0 = R) : Met l y_put (Cond.code y_put prog_5_method_3_code 2 none :: bgT) ({ frames := 1, cells := 0, slots := 0, locals := 20 }) (ld_PM D cI cZ cJ (ld_pW a0 a1 a2 cI cZ P) sz [.ref a0, .int p0]) (ld_QV D (ld_pW a0 a1 a2 cI cZ R) (va_A (ld_pW a0 a1 a2 cI cZ P) sz)) 0 0 ((va_A (ld_pW a0 a1 a2 cI cZ P) sz)) := by
  refine Met.ofW (cc := prog_5_method_3_code) (maxL := 2) (ret := none) (by decide) rfl ?_
  intro p e s m args below meth c s₁ B hml hv
  obtain ⟨rfl, hsz, hP, hK, hD0, hN⟩ := hv
  have hx := B.exec
  have hb := B.bytes
  have hr := B.returns
  have hg : ∀ w ∈ bgT, w.before _ s = true := fun w h => atoms_spec (ws := (Cond.code y_put prog_5_method_3_code 2 none :: bgT)) B.pre w (List.mem_cons_of_mem _ h)
  have hown : s.vm.findClass "LoanDesk$Pile" = some m.cls := findClass_of_methodNamed B.named
  have hlocks := B.notSynchronized
  subst hsz
  have hD := hD0.self (sz := s.heap.size)
  generalize hAe : va_A (ld_pW a0 a1 a2 cI cZ P) s.heap.size = A at hD ⊢
  have hA : ∀ q : Nat, s.heap.size ≤ q → A q := fun q h => by rw [← hAe]; exact Or.inr h
  have hS : va_S A s.heap s.heap [] := va_S.rf
  have hl := lv_entry ([.ref a0, .int p0]) (n := 2) (Nat.le_of_ble_eq_true rfl)
  rw [lg_entry_eq]
  generalize (lg_sl ([.ref a0, .int p0]) ++ List.replicate (2 - (lg_sl ([.ref a0, .int p0])).length) Slot.unset).toArray = ls at hl ⊢
  have hl : lv_has ls 2 [(0, .ref a0), (1, .int p0)] := hl
  refine lv_iload_n hx hb d_put_0 rfl (lv_at hl 1 rfl) ?_
  obtain ⟨r_1, e_1, h⟩ := ld_nm h
  refine ld_rd ((va_runSN (As := [.int p0]) (rest := []) ⟨hx, hb, hml, hown, hg⟩ (lc_isIndex l D cI cZ cJ p0 r_1 e_1) ⟨va_cnB 1 hg (ld_gd k_161) rfl rfl rfl (hN _ (ld_nwm 8 rfl)) (hg _ k_23) hd_isIndex ⟨Nat.le_of_ble_eq_true rfl, Nat.le_of_ble_eq_true rfl⟩, hg _ k_160, trivial⟩ (ld_preR hP hK hN [] rfl) rfl rfl hl.1 rfl (lv_room (Nat.le_of_ble_eq_true rfl)) d_put_1 ⟨Nat.zero_le _, Nat.zero_le _⟩).run) ?_
  refine lv_if_eq (tgt := 26) hx hb d_put_4 (by decide) (fun c_2 => ?_) (fun c_2 => ?_)
  · have h := (if_pos c_2).symm.trans h
    subst h
    exact W.vret hx hb hr (fun t ht hW => ⟨⟨(), rfl, trivial, by rw [ht]; exact hP, hD⟩, hS.F ht⟩) hS.2.2 d_put_26
  · have h := (if_neg c_2).symm.trans h
    refine lv_aload_n hx hb d_put_7 rfl (lv_at hl 0 rfl) ?_
    refine va_get (D := D) (ci := 1) (v := .int P.2.2) (C := "LoanDesk$Pile") (T := T_Pile) (N := 3) hx hb hg u_Pile hown hK hP 0 rfl rfl 2 (by decide) (hg _ k_73) (fun _ h9 => h9) rfl d_put_8 ?_
    obtain ⟨r_3, e_3, h⟩ := ld_nm h
    refine ld_rd ((va_runSN (As := [.int P.2.2]) (rest := []) ⟨hx, hb, hml, hown, hg⟩ (lc_isIndex l D cI cZ cJ P.2.2 r_3 e_3) ⟨va_cnB 1 hg (ld_gd k_161) rfl rfl rfl (hN _ (ld_nwm 8 rfl)) (hg _ k_23) hd_isIndex ⟨Nat.le_of_ble_eq_true rfl, Nat.le_of_ble_eq_true rfl⟩, hg _ k_160, trivial⟩ (ld_preR hP hK hN [] rfl) rfl rfl hl.1 rfl (lv_room (Nat.le_of_ble_eq_true rfl)) d_put_11 ⟨Nat.zero_le _, Nat.zero_le _⟩).run) ?_
    refine lv_if_eq (tgt := 26) hx hb d_put_14 (by decide) (fun c_4 => ?_) (fun c_4 => ?_)
    · have h := (if_pos c_4).symm.trans h
      subst h
      exact W.vret hx hb hr (fun t ht hW => ⟨⟨(), rfl, trivial, by rw [ht]; exact hP, hD⟩, hS.F ht⟩) hS.2.2 d_put_26
    · have h := (if_neg c_4).symm.trans h
      refine lv_aload_n hx hb d_put_17 rfl (lv_at hl 0 rfl) ?_
      refine va_get (D := D) (ci := 1) (v := .ref a2) (C := "LoanDesk$Pile") (T := T_Pile) (N := 3) hx hb hg u_Pile hown hK hP 0 rfl rfl 1 (by decide) (hg _ k_72) (fun _ h9 => h9) rfl d_put_18 ?_
      refine lv_iload_n hx hb d_put_21 rfl (lv_at hl 1 rfl) ?_
      refine va_zald hx hb hK hP 2 1 rfl rfl (i := p0) (ld_ix e_1 c_2) d_put_22 ?_
      refine lv_if_eq (tgt := 27) hx hb d_put_23 (by decide) (fun c_5 => ?_) (fun c_5 => ?_)
      · have h := (if_pos c_5).symm.trans h
        refine lv_aload_n hx hb d_put_27 rfl (lv_at hl 0 rfl) ?_
        refine va_get (D := D) (ci := 1) (v := .ref a2) (C := "LoanDesk$Pile") (T := T_Pile) (N := 3) hx hb hg u_Pile hown hK hP 0 rfl rfl 1 (by decide) (hg _ k_72) (fun _ h9 => h9) rfl d_put_28 ?_
        refine lv_iload_n hx hb d_put_31 rfl (lv_at hl 1 rfl) ?_
        refine lv_iconst (v := 1) hx hb d_put_32 (by decide) ?_
        refine va_zast hx hb hK hP hD hS 2 1 rfl rfl (i := p0) (ld_ix e_1 c_2) d_put_33 (fun H locs hP hD hS => ?_)
        have hP : va_P D vwCl (ld_pW a0 a1 a2 cI cZ (P.1, upd P.2.1 p0.toNatClampNeg (vp_nar .boolean 1), P.2.2)) H := hP
        have hD : va_D A (ld_pW a0 a1 a2 cI cZ (P.1, upd P.2.1 p0.toNatClampNeg (vp_nar .boolean 1), P.2.2)) := hD
        refine lv_aload_n hx hb d_put_34 rfl (lv_at hl 0 rfl) ?_
        refine va_get (D := D) (ci := 1) (v := .ref a1) (C := "LoanDesk$Pile") (T := T_Pile) (N := 3) hx hb hg u_Pile hown hK hP 0 rfl rfl 0 (by decide) (hg _ k_71) (fun _ h9 => h9) rfl d_put_35 ?_
        refine lv_aload_n hx hb d_put_38 rfl (lv_at hl 0 rfl) ?_
        refine va_get (D := D) (ci := 1) (v := .int P.2.2) (C := "LoanDesk$Pile") (T := T_Pile) (N := 3) hx hb hg u_Pile hown hK hP 0 rfl rfl 2 (by decide) (hg _ k_73) (fun _ h9 => h9) rfl d_put_39 ?_
        refine lv_iload_n hx hb d_put_42 rfl (lv_at hl 1 rfl) ?_
        refine va_iast hx hb hK hP hD hS 1 0 rfl rfl (i := P.2.2) (ld_ix e_3 c_4) d_put_43 (fun H locs hP hD hS => ?_)
        have hP : va_P D vwCl (ld_pW a0 a1 a2 cI cZ (upd P.1 P.2.2.toNatClampNeg p0, upd P.2.1 p0.toNatClampNeg (vp_nar .boolean 1), P.2.2)) H := hP
        have hD : va_D A (ld_pW a0 a1 a2 cI cZ (upd P.1 P.2.2.toNatClampNeg p0, upd P.2.1 p0.toNatClampNeg (vp_nar .boolean 1), P.2.2)) := hD
        refine lv_aload_n hx hb d_put_44 rfl (lv_at hl 0 rfl) ?_
        refine lv_dup hx hb d_put_45 rfl ?_
        refine va_get (D := D) (ci := 1) (v := .int P.2.2) (C := "LoanDesk$Pile") (T := T_Pile) (N := 3) hx hb hg u_Pile hown hK hP 0 rfl rfl 2 (by decide) (hg _ k_73) (fun _ h9 => h9) rfl d_put_46 ?_
        refine lv_iconst (v := 1) hx hb d_put_49 (by decide) ?_
        refine lv_iadd hx hb d_put_50 ?_
        refine va_put (D := D) (ci := 1) (v := .int (P.2.2 + 1)) (ty := .int) (C := "LoanDesk$Pile") (T := T_Pile) (N := 3) hx hb hg u_Pile t_Pile tk_Pile n_Pile hown hK hP hD hS 0 rfl rfl 2 (by decide) (hg _ k_73) (fun _ h9 => h9) rfl (by decide +kernel) rfl rfl (Nat.le_of_ble_eq_true rfl) d_put_51 (fun H locs hP hD hS => ?_)
        have hP : va_P D vwCl (ld_pW a0 a1 a2 cI cZ (upd P.1 P.2.2.toNatClampNeg p0, upd P.2.1 p0.toNatClampNeg (vp_nar .boolean 1), P.2.2 + 1)) H := hP
        have hD : va_D A (ld_pW a0 a1 a2 cI cZ (upd P.1 P.2.2.toNatClampNeg p0, upd P.2.1 p0.toNatClampNeg (vp_nar .boolean 1), P.2.2 + 1)) := hD
        subst h
        exact W.vret hx hb hr (fun t ht hW => ⟨⟨(), rfl, trivial, by rw [ht]; exact hP, hD⟩, hS.F ht⟩) hS.2.2 d_put_54
      · have h := (if_neg c_5).symm.trans h
        subst h
        exact W.vret hx hb hr (fun t ht hW => ⟨⟨(), rfl, trivial, by rw [ht]; exact hP, hD⟩, hS.F ht⟩) hS.2.2 d_put_26
def lf_take (P : ld_pT) : Int32 × ld_pT := ld_lt (lf_isIndex (P.2.2 - 1)) (fun r_1 => if r_1 = 0 then ((-1), P) else ld_lt (lf_isIndex (P.1 (P.2.2 - 1).toNatClampNeg)) (fun r_3 => if r_3 = 0 then (P.1 (P.2.2 - 1).toNatClampNeg, (P.1, P.2.1, P.2.2 - 1)) else (P.1 (P.2.2 - 1).toNatClampNeg, (P.1, upd P.2.1 ((P.1 (P.2.2 - 1).toNatClampNeg).toNatClampNeg) (vp_nar .boolean 0), P.2.2 - 1))))
set_option maxHeartbeats 4000000 in
set_option maxRecDepth 100000 in
theorem lc_take (l : Launch) (D : va_G) (cI cZ cJ : ClassId) (a0 a1 a2 : Nat) (P : ld_pT) (sz : Nat) (R : Int32 × ld_pT) (h : lf_take P = R) : Met l y_take (Cond.code y_take prog_5_method_4_code 2 (some .int) :: bgT) ({ frames := 1, cells := 0, slots := 0, locals := 20 }) (ld_PM D cI cZ cJ (ld_pW a0 a1 a2 cI cZ P) sz [.ref a0]) (ld_QI D (ld_pW a0 a1 a2 cI cZ R.2) (va_A (ld_pW a0 a1 a2 cI cZ P) sz) R.1) 0 0 ((va_A (ld_pW a0 a1 a2 cI cZ P) sz)) := by
  refine Met.ofW (cc := prog_5_method_4_code) (maxL := 2) (ret := (some .int)) (by decide) rfl ?_
  intro p e s m args below meth c s₁ B hml hv
  obtain ⟨rfl, hsz, hP, hK, hD0, hN⟩ := hv
  have hx := B.exec
  have hb := B.bytes
  have hr := B.returns
  have hg : ∀ w ∈ bgT, w.before _ s = true := fun w h => atoms_spec (ws := (Cond.code y_take prog_5_method_4_code 2 (some .int) :: bgT)) B.pre w (List.mem_cons_of_mem _ h)
  have hown : s.vm.findClass "LoanDesk$Pile" = some m.cls := findClass_of_methodNamed B.named
  have hlocks := B.notSynchronized
  subst hsz
  have hD := hD0.self (sz := s.heap.size)
  generalize hAe : va_A (ld_pW a0 a1 a2 cI cZ P) s.heap.size = A at hD ⊢
  have hA : ∀ q : Nat, s.heap.size ≤ q → A q := fun q h => by rw [← hAe]; exact Or.inr h
  have hS : va_S A s.heap s.heap [] := va_S.rf
  have hl := lv_entry ([.ref a0]) (n := 2) (Nat.le_of_ble_eq_true rfl)
  rw [lg_entry_eq]
  generalize (lg_sl ([.ref a0]) ++ List.replicate (2 - (lg_sl ([.ref a0])).length) Slot.unset).toArray = ls at hl ⊢
  have hl : lv_has ls 2 [(0, .ref a0)] := hl
  refine lv_aload_n hx hb d_take_0 rfl (lv_at hl 0 rfl) ?_
  refine va_get (D := D) (ci := 1) (v := .int P.2.2) (C := "LoanDesk$Pile") (T := T_Pile) (N := 3) hx hb hg u_Pile hown hK hP 0 rfl rfl 2 (by decide) (hg _ k_73) (fun _ h9 => h9) rfl d_take_1 ?_
  refine lv_iconst (v := 1) hx hb d_take_4 (by decide) ?_
  refine lv_isub hx hb d_take_5 ?_
  obtain ⟨r_1, e_1, h⟩ := ld_nm h
  refine ld_rd ((va_runSN (As := [.int (P.2.2 - 1)]) (rest := []) ⟨hx, hb, hml, hown, hg⟩ (lc_isIndex l D cI cZ cJ (P.2.2 - 1) r_1 e_1) ⟨va_cnB 1 hg (ld_gd k_161) rfl rfl rfl (hN _ (ld_nwm 8 rfl)) (hg _ k_23) hd_isIndex ⟨Nat.le_of_ble_eq_true rfl, Nat.le_of_ble_eq_true rfl⟩, hg _ k_160, trivial⟩ (ld_preR hP hK hN [] rfl) rfl rfl hl.1 rfl (lv_room (Nat.le_of_ble_eq_true rfl)) d_take_6 ⟨Nat.zero_le _, Nat.zero_le _⟩).run) ?_
  refine lv_if_ne (tgt := 14) hx hb d_take_9 (by decide) (fun c_2 => ?_) (fun c_2 => ?_)
  · have h := (if_neg c_2).symm.trans h
    refine lv_aload_n hx hb d_take_14 rfl (lv_at hl 0 rfl) ?_
    refine lv_dup hx hb d_take_15 rfl ?_
    refine va_get (D := D) (ci := 1) (v := .int P.2.2) (C := "LoanDesk$Pile") (T := T_Pile) (N := 3) hx hb hg u_Pile hown hK hP 0 rfl rfl 2 (by decide) (hg _ k_73) (fun _ h9 => h9) rfl d_take_16 ?_
    refine lv_iconst (v := 1) hx hb d_take_19 (by decide) ?_
    refine lv_isub hx hb d_take_20 ?_
    refine va_put (D := D) (ci := 1) (v := .int (P.2.2 - 1)) (ty := .int) (C := "LoanDesk$Pile") (T := T_Pile) (N := 3) hx hb hg u_Pile t_Pile tk_Pile n_Pile hown hK hP hD hS 0 rfl rfl 2 (by decide) (hg _ k_73) (fun _ h9 => h9) rfl (by decide +kernel) rfl rfl (Nat.le_of_ble_eq_true rfl) d_take_21 (fun H locs hP hD hS => ?_)
    have hP : va_P D vwCl (ld_pW a0 a1 a2 cI cZ (P.1, P.2.1, P.2.2 - 1)) H := hP
    have hD : va_D A (ld_pW a0 a1 a2 cI cZ (P.1, P.2.1, P.2.2 - 1)) := hD
    refine lv_aload_n hx hb d_take_24 rfl (lv_at hl 0 rfl) ?_
    refine va_get (D := D) (ci := 1) (v := .ref a1) (C := "LoanDesk$Pile") (T := T_Pile) (N := 3) hx hb hg u_Pile hown hK hP 0 rfl rfl 0 (by decide) (hg _ k_71) (fun _ h9 => h9) rfl d_take_25 ?_
    refine lv_aload_n hx hb d_take_28 rfl (lv_at hl 0 rfl) ?_
    refine va_get (D := D) (ci := 1) (v := .int (P.2.2 - 1)) (C := "LoanDesk$Pile") (T := T_Pile) (N := 3) hx hb hg u_Pile hown hK hP 0 rfl rfl 2 (by decide) (hg _ k_73) (fun _ h9 => h9) rfl d_take_29 ?_
    refine va_iald hx hb hK hP 1 0 rfl rfl (i := P.2.2 - 1) (ld_ix e_1 c_2) d_take_32 ?_
    refine lv_istore_n (lv' := [(1, .int (P.1 (P.2.2 - 1).toNatClampNeg)), (0, .ref a0)]) hx hb d_take_33 rfl hl (by decide) rfl (fun ls hl => ?_)
    refine lv_iload_n hx hb d_take_34 rfl (lv_at hl 0 rfl) ?_
    obtain ⟨r_3, e_3, h⟩ := ld_nm h
    refine ld_rd ((va_runSN (As := [.int (P.1 (P.2.2 - 1).toNatClampNeg)]) (rest := []) ⟨hx, hb, hml, hown, hg⟩ (lc_isIndex l D cI cZ cJ (P.1 (P.2.2 - 1).toNatClampNeg) r_3 e_3) ⟨va_cnB 1 hg (ld_gd k_161) rfl rfl rfl (hN _ (ld_nwm 8 rfl)) (hg _ k_23) hd_isIndex ⟨Nat.le_of_ble_eq_true rfl, Nat.le_of_ble_eq_true rfl⟩, hg _ k_160, trivial⟩ (ld_preR hP hK hN [] rfl) rfl rfl hl.1 rfl (lv_room (Nat.le_of_ble_eq_true rfl)) d_take_35 ⟨Nat.zero_le _, Nat.zero_le _⟩).run) ?_
    refine lv_if_eq (tgt := 48) hx hb d_take_38 (by decide) (fun c_4 => ?_) (fun c_4 => ?_)
    · have h := (if_pos c_4).symm.trans h
      refine lv_iload_n hx hb d_take_48 rfl (lv_at hl 0 rfl) ?_
      subst h
      exact W.iret (v := P.1 (P.2.2 - 1).toNatClampNeg) hx hb hr (fun t ht hW => ⟨⟨_, (), rfl, rfl, by rw [ht]; exact hP, hD⟩, hS.F ht⟩) hS.2.2 d_take_49
    · have h := (if_neg c_4).symm.trans h
      refine lv_aload_n hx hb d_take_41 rfl (lv_at hl 1 rfl) ?_
      refine va_get (D := D) (ci := 1) (v := .ref a2) (C := "LoanDesk$Pile") (T := T_Pile) (N := 3) hx hb hg u_Pile hown hK hP 0 rfl rfl 1 (by decide) (hg _ k_72) (fun _ h9 => h9) rfl d_take_42 ?_
      refine lv_iload_n hx hb d_take_45 rfl (lv_at hl 0 rfl) ?_
      refine lv_iconst (v := 0) hx hb d_take_46 (by decide) ?_
      refine va_zast hx hb hK hP hD hS 2 1 rfl rfl (i := P.1 (P.2.2 - 1).toNatClampNeg) (ld_ix e_3 c_4) d_take_47 (fun H locs hP hD hS => ?_)
      have hP : va_P D vwCl (ld_pW a0 a1 a2 cI cZ (P.1, upd P.2.1 ((P.1 (P.2.2 - 1).toNatClampNeg).toNatClampNeg) (vp_nar .boolean 0), P.2.2 - 1)) H := hP
      have hD : va_D A (ld_pW a0 a1 a2 cI cZ (P.1, upd P.2.1 ((P.1 (P.2.2 - 1).toNatClampNeg).toNatClampNeg) (vp_nar .boolean 0), P.2.2 - 1)) := hD
      refine lv_iload_n hx hb d_take_48 rfl (lv_at hl 0 rfl) ?_
      subst h
      exact W.iret (v := P.1 (P.2.2 - 1).toNatClampNeg) hx hb hr (fun t ht hW => ⟨⟨_, (), rfl, rfl, by rw [ht]; exact hP, hD⟩, hS.F ht⟩) hS.2.2 d_take_49
  · have h := (if_pos c_2).symm.trans h
    refine lv_iconst (v := (-1)) hx hb d_take_12 (by decide) ?_
    subst h
    exact W.iret (v := (-1)) hx hb hr (fun t ht hW => ⟨⟨_, (), rfl, rfl, by rw [ht]; exact hP, hD⟩, hS.F ht⟩) hS.2.2 d_take_13
