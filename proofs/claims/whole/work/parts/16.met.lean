def lf_hbehind (hh : (Nat → Int32) × (Nat → Int32)) (p0 : Int32) : Int32 := ld_lt (lf_isIndex p0) (fun r_1 => if r_1 = 0 then 0 else hh.2 p0.toNatClampNeg)
set_option maxHeartbeats 4000000 in
set_option maxRecDepth 100000 in
theorem lc_hbehind (l : Launch) (D : va_G) (cI cZ cJ : ClassId) (a : Nat → Nat) (hh : (Nat → Int32) × (Nat → Int32)) (p0 : Int32) (R : Int32) (h : lf_hbehind hh p0 = R) : Met l y_hbehind (Cond.code y_hbehind prog_3_method_2_code 2 (some .int) :: bgT) ({ frames := 1, cells := 0, slots := 0, locals := 20 }) (ld_PR D cI cZ cJ (ld_hW a cI hh) [.ref (a 15), .int p0]) (vp_Si (fun z => z = R)) 0 0 (fun _ => False) := by
  refine Met.ofW (cc := prog_3_method_2_code) (maxL := 2) (ret := (some .int)) (by decide) rfl ?_
  intro p e s m args below meth c s₁ B hml hv
  obtain ⟨rfl, hP, hK, hN⟩ := hv
  have hx := B.exec
  have hb := B.bytes
  have hr := B.returns
  have hg : ∀ w ∈ bgT, w.before _ s = true := fun w h => atoms_spec (ws := (Cond.code y_hbehind prog_3_method_2_code 2 (some .int) :: bgT)) B.pre w (List.mem_cons_of_mem _ h)
  have hown : s.vm.findClass "LoanDesk$Holding" = some m.cls := findClass_of_methodNamed B.named
  have hlocks := B.notSynchronized
  have hl := lv_entry ([.ref (a 15), .int p0]) (n := 2) (Nat.le_of_ble_eq_true rfl)
  rw [lg_entry_eq]
  generalize (lg_sl ([.ref (a 15), .int p0]) ++ List.replicate (2 - (lg_sl ([.ref (a 15), .int p0])).length) Slot.unset).toArray = ls at hl ⊢
  have hl : lv_has ls 2 [(0, .ref (a 15)), (1, .int p0)] := hl
  refine lv_iload_n hx hb d_hbehind_0 rfl (lv_at hl 1 rfl) ?_
  obtain ⟨r_1, e_1, h⟩ := ld_nm h
  refine ld_rd ((va_runSN (As := [.int p0]) (rest := []) ⟨hx, hb, hml, hown, hg⟩ (lc_isIndex l D cI cZ cJ p0 r_1 e_1) ⟨va_cnB 1 hg (ld_gd k_161) rfl rfl rfl (hN _ (ld_nwm 10 rfl)) (hg _ k_23) hd_isIndex ⟨Nat.le_of_ble_eq_true rfl, Nat.le_of_ble_eq_true rfl⟩, hg _ k_160, trivial⟩ (ld_preR hP hK hN [] rfl) rfl rfl hl.1 rfl (lv_room (Nat.le_of_ble_eq_true rfl)) d_hbehind_1 ⟨Nat.zero_le _, Nat.zero_le _⟩).run) ?_
  refine lv_if_eq (tgt := 16) hx hb d_hbehind_4 (by decide) (fun c_2 => ?_) (fun c_2 => ?_)
  · have h := (if_pos c_2).symm.trans h
    refine lv_iconst (v := 0) hx hb d_hbehind_16 (by decide) ?_
    exact W.iret (v := 0) hx hb hr (fun t ht hW => ⟨_, rfl, h, ht⟩) (fun _ q => by cases q) d_hbehind_17
  · have h := (if_neg c_2).symm.trans h
    refine lv_aload_n hx hb d_hbehind_7 rfl (lv_at hl 0 rfl) ?_
    refine va_get (D := D) (ci := 4) (v := .ref (a 17)) (C := "LoanDesk$Holding") (T := T_Holding) (N := 3) hx hb hg u_Holding hown hK hP 0 rfl rfl 1 (by decide) (hg _ k_96) (fun _ h9 => h9) rfl d_hbehind_8 ?_
    refine lv_iload_n hx hb d_hbehind_11 rfl (lv_at hl 1 rfl) ?_
    refine va_iald hx hb hK hP 2 0 rfl rfl (i := p0) (ld_ix e_1 c_2) d_hbehind_12 ?_
    refine lv_goto (tgt := 17) hx hb d_hbehind_13 (by decide) ?_
    exact W.iret (v := hh.2 p0.toNatClampNeg) hx hb hr (fun t ht hW => ⟨_, rfl, h, ht⟩) (fun _ q => by cases q) d_hbehind_17
def lf_handOn (G : ld_gT) (hh : (Nat → Int32) × (Nat → Int32)) (qq : ld_pT) (p0 : Int32) (p1 : Int32) : ((Nat → Int32) × (Nat → Int32)) × ld_pT := ld_lt (lf_isPoint G p0) (fun r_1 => if r_1 = 0 then (hh, qq) else if ((hh.1 p0.toNatClampNeg) ||| p1) = (hh.1 p0.toNatClampNeg) then (hh, qq) else ld_lt (lf_put qq p0) (fun r_4 => ((upd hh.1 p0.toNatClampNeg ((hh.1 p0.toNatClampNeg) ||| p1), hh.2), r_4)))
set_option maxHeartbeats 4000000 in
set_option maxRecDepth 100000 in
theorem lc_handOn (l : Launch) (D : va_G) (cI cZ cJ : ClassId) (a : Nat → Nat) (G : ld_gT) (hh : (Nat → Int32) × (Nat → Int32)) (qq : ld_pT) (p0 : Int32) (p1 : Int32) (sz : Nat) (R : ((Nat → Int32) × (Nat → Int32)) × ld_pT) (h : lf_handOn G hh qq p0 p1 = R) : Met l y_handOn (Cond.code y_handOn prog_3_method_5_code 5 none :: bgT) ({ frames := 2, cells := 0, slots := 0, locals := 41 }) (ld_PM D cI cZ cJ (ld_gW a cI G ++ ld_hW a cI hh ++ ld_pW (a 18) (a 19) (a 20) cI cZ qq) sz [.ref (a 15), .ref (a 1), .int p0, .int p1]) (ld_QV D (ld_gW a cI G ++ ld_hW a cI R.1 ++ ld_pW (a 18) (a 19) (a 20) cI cZ R.2) (va_A (ld_gW a cI G ++ ld_hW a cI hh ++ ld_pW (a 18) (a 19) (a 20) cI cZ qq) sz)) 0 0 ((va_A (ld_gW a cI G ++ ld_hW a cI hh ++ ld_pW (a 18) (a 19) (a 20) cI cZ qq) sz)) := by
  refine Met.ofW (cc := prog_3_method_5_code) (maxL := 5) (ret := none) (by decide) rfl ?_
  intro p e s m args below meth c s₁ B hml hv
  obtain ⟨rfl, hsz, hP, hK, hD0, hN⟩ := hv
  have hx := B.exec
  have hb := B.bytes
  have hr := B.returns
  have hg : ∀ w ∈ bgT, w.before _ s = true := fun w h => atoms_spec (ws := (Cond.code y_handOn prog_3_method_5_code 5 none :: bgT)) B.pre w (List.mem_cons_of_mem _ h)
  have hown : s.vm.findClass "LoanDesk$Holding" = some m.cls := findClass_of_methodNamed B.named
  have hlocks := B.notSynchronized
  subst hsz
  have hD := hD0.self (sz := s.heap.size)
  generalize hAe : va_A (ld_gW a cI G ++ ld_hW a cI hh ++ ld_pW (a 18) (a 19) (a 20) cI cZ qq) s.heap.size = A at hD ⊢
  have hA : ∀ q : Nat, s.heap.size ≤ q → A q := fun q h => by rw [← hAe]; exact Or.inr h
  have hS : va_S A s.heap s.heap [] := va_S.rf
  have hl := lv_entry ([.ref (a 15), .ref (a 1), .int p0, .int p1]) (n := 5) (Nat.le_of_ble_eq_true rfl)
  rw [lg_entry_eq]
  generalize (lg_sl ([.ref (a 15), .ref (a 1), .int p0, .int p1]) ++ List.replicate (5 - (lg_sl ([.ref (a 15), .ref (a 1), .int p0, .int p1])).length) Slot.unset).toArray = ls at hl ⊢
  have hl : lv_has ls 5 [(0, .ref (a 15)), (1, .ref (a 1)), (2, .int p0), (3, .int p1)] := hl
  refine lv_aload_n hx hb d_handOn_0 rfl (lv_at hl 1 rfl) ?_
  refine lv_iload_n hx hb d_handOn_1 rfl (lv_at hl 2 rfl) ?_
  obtain ⟨r_1, e_1, h⟩ := ld_nm h
  refine ld_rd (W.runV (As := [.int p0]) (rest := []) ⟨hx, hb, hml, hown, hg⟩ (lc_isPoint l D cI cZ cJ a G p0 r_1 e_1) ⟨callB_of 1 hg (ld_gd k_155) rfl rfl rfl (hg _ k_24) (hg _ k_265) hd_isPoint ⟨Nat.le_of_ble_eq_true rfl, Nat.le_of_ble_eq_true rfl⟩, hg _ k_153, hg _ k_154⟩ (ld_preRV hP hK hN [0, 1, 2, 3, 4, 5, 6] rfl 0 0 rfl rfl) rfl rfl hl.1 rfl (lv_room (Nat.le_of_ble_eq_true rfl)) d_handOn_2 ⟨Nat.zero_le _, Nat.zero_le _⟩) ?_
  refine lv_if_ne (tgt := 9) hx hb d_handOn_5 (by decide) (fun c_2 => ?_) (fun c_2 => ?_)
  · have h := (if_neg c_2).symm.trans h
    refine lv_aload_n hx hb d_handOn_9 rfl (lv_at hl 0 rfl) ?_
    refine va_get (D := D) (ci := 4) (v := .ref (a 16)) (C := "LoanDesk$Holding") (T := T_Holding) (N := 3) hx hb hg u_Holding hown hK hP 7 rfl rfl 0 (by decide) (hg _ k_95) (fun _ h9 => h9) rfl d_handOn_10 ?_
    refine lv_iload_n hx hb d_handOn_13 rfl (lv_at hl 2 rfl) ?_
    refine va_iald hx hb hK hP 8 0 rfl rfl (i := p0) (ld_pt e_1 c_2) d_handOn_14 ?_
    refine lv_iload_n hx hb d_handOn_15 rfl (lv_at hl 3 rfl) ?_
    refine lv_ior hx hb d_handOn_16 ?_
    refine lv_istore (lv' := [(4, .int ((hh.1 p0.toNatClampNeg) ||| p1)), (0, .ref (a 15)), (1, .ref (a 1)), (2, .int p0), (3, .int p1)]) hx hb d_handOn_17 hl (by decide) rfl (fun ls hl => ?_)
    refine lv_iload hx hb d_handOn_19 (lv_at hl 0 rfl) ?_
    refine lv_aload_n hx hb d_handOn_21 rfl (lv_at hl 1 rfl) ?_
    refine va_get (D := D) (ci := 4) (v := .ref (a 16)) (C := "LoanDesk$Holding") (T := T_Holding) (N := 3) hx hb hg u_Holding hown hK hP 7 rfl rfl 0 (by decide) (hg _ k_95) (fun _ h9 => h9) rfl d_handOn_22 ?_
    refine lv_iload_n hx hb d_handOn_25 rfl (lv_at hl 3 rfl) ?_
    refine va_iald hx hb hK hP 8 0 rfl rfl (i := p0) (ld_pt e_1 c_2) d_handOn_26 ?_
    refine lv_icmp_eq (tgt := 46) hx hb d_handOn_27 (by decide) (fun c_3 => ?_) (fun c_3 => ?_)
    · have h := (if_pos c_3).symm.trans h
      subst h
      exact W.vret hx hb hr (fun t ht hW => ⟨⟨(), rfl, trivial, by rw [ht]; exact hP, hD⟩, hS.F ht⟩) hS.2.2 d_handOn_46
    · have h := (if_neg c_3).symm.trans h
      refine lv_aload_n hx hb d_handOn_30 rfl (lv_at hl 1 rfl) ?_
      refine va_get (D := D) (ci := 4) (v := .ref (a 16)) (C := "LoanDesk$Holding") (T := T_Holding) (N := 3) hx hb hg u_Holding hown hK hP 7 rfl rfl 0 (by decide) (hg _ k_95) (fun _ h9 => h9) rfl d_handOn_31 ?_
      refine lv_iload_n hx hb d_handOn_34 rfl (lv_at hl 3 rfl) ?_
      refine lv_iload hx hb d_handOn_35 (lv_at hl 0 rfl) ?_
      refine va_iast hx hb hK hP hD hS 8 0 rfl rfl (i := p0) (ld_pt e_1 c_2) d_handOn_37 (fun H locs hP hD hS => ?_)
      have hP : va_P D vwCl (ld_gW a cI G ++ ld_hW a cI (upd hh.1 p0.toNatClampNeg ((hh.1 p0.toNatClampNeg) ||| p1), hh.2) ++ ld_pW (a 18) (a 19) (a 20) cI cZ qq) H := hP
      have hD : va_D A (ld_gW a cI G ++ ld_hW a cI (upd hh.1 p0.toNatClampNeg ((hh.1 p0.toNatClampNeg) ||| p1), hh.2) ++ ld_pW (a 18) (a 19) (a 20) cI cZ qq) := hD
      refine lv_aload_n hx hb d_handOn_38 rfl (lv_at hl 1 rfl) ?_
      refine va_get (D := D) (ci := 4) (v := .ref (a 18)) (C := "LoanDesk$Holding") (T := T_Holding) (N := 3) hx hb hg u_Holding hown hK hP 7 rfl rfl 2 (by decide) (hg _ k_97) (fun _ h9 => h9) rfl d_handOn_39 ?_
      refine lv_iload_n hx hb d_handOn_42 rfl (lv_at hl 3 rfl) ?_
      obtain ⟨r_4, e_4, h⟩ := ld_nm h
      refine ld_mv (wr := ([0, 1, 2, 3, 4, 5, 6, 7, 8, 9] : List Nat).filterMap (fun i => (ld_gW a cI G ++ ld_hW a cI (upd hh.1 p0.toNatClampNeg ((hh.1 p0.toNatClampNeg) ||| p1), hh.2) ++ ld_pW (a 18) (a 19) (a 20) cI cZ qq)[i]?)) (ws2 := ld_gW a cI G ++ ld_hW a cI (upd hh.1 p0.toNatClampNeg ((hh.1 p0.toNatClampNeg) ||| p1), hh.2) ++ ld_pW (a 18) (a 19) (a 20) cI cZ r_4) (va_runV (As := [.int p0]) (rest := []) ⟨hx, hb, hml, hown, hg⟩ (lc_put l D cI cZ cJ (a 18) (a 19) (a 20) qq p0 _ r_4 e_4) ⟨callB_of 1 hg (ld_gd k_192) rfl rfl rfl (hg _ k_26) (hg _ k_248) hd_put ⟨Nat.le_of_ble_eq_true rfl, Nat.le_of_ble_eq_true rfl⟩, hg _ k_190, hg _ k_191⟩ (ld_preMV hP hK hN hD [10, 11, 12] (by decide) rfl 1 0 rfl rfl) rfl rfl hl.1 rfl (lv_room (Nat.le_of_ble_eq_true rfl)) d_handOn_43 ⟨Nat.zero_le _, Nat.zero_le _⟩) hP hD hS hA [10, 11, 12] [0, 1, 2, 3, 4, 5, 6, 7, 8, 9] [0, 1, 2, 3, 4, 5, 6, 7, 8, 9, 10, 11, 12] rfl rfl (by decide) (by decide) (by decide) rfl (fun H locs hP hD hS => ?_)
      subst h
      exact W.vret hx hb hr (fun t ht hW => ⟨⟨(), rfl, trivial, by rw [ht]; exact hP, hD⟩, hS.F ht⟩) hS.2.2 d_handOn_46
  · have h := (if_pos c_2).symm.trans h
    subst h
    exact W.vret hx hb hr (fun t ht hW => ⟨⟨(), rfl, trivial, by rw [ht]; exact hP, hD⟩, hS.F ht⟩) hS.2.2 d_handOn_8
def lf_pass (G : ld_gT) (hh : (Nat → Int32) × (Nat → Int32)) (qq : ld_pT) (p0 : Int32) (p1 : Int32) : ((Nat → Int32) × (Nat → Int32)) × ld_pT := ld_lt (lf_isIndex p1) (fun r_1 => if r_1 = 0 then (hh, qq) else ld_lt (lf_heldBehind G p1 p0 (hh.1 p1.toNatClampNeg)) (fun r_3 => ld_lt (lf_firstNext G p1) (fun r_4 => ld_lt (lf_handOn G (hh.1, upd hh.2 p1.toNatClampNeg r_3) qq r_4 r_3) (fun r_5 => ld_lt (lf_secondNext G p1) (fun r_6 => ld_lt (lf_handOn G r_5.1 r_5.2 r_6 r_3) (fun r_7 => (r_7.1, r_7.2)))))))
set_option maxHeartbeats 4000000 in
set_option maxRecDepth 100000 in
theorem lc_pass (l : Launch) (D : va_G) (cI cZ cJ : ClassId) (a : Nat → Nat) (G : ld_gT) (hh : (Nat → Int32) × (Nat → Int32)) (qq : ld_pT) (p0 : Int32) (p1 : Int32) (sz : Nat) (R : ((Nat → Int32) × (Nat → Int32)) × ld_pT) (h : lf_pass G hh qq p0 p1 = R) : Met l y_pass (Cond.code y_pass prog_3_method_4_code 5 none :: bgT) ({ frames := 3, cells := 0, slots := 0, locals := 65 }) (ld_PM D cI cZ cJ (ld_gW a cI G ++ ld_hW a cI hh ++ ld_pW (a 18) (a 19) (a 20) cI cZ qq) sz [.ref (a 15), .ref (a 1), .int p0, .int p1]) (ld_QV D (ld_gW a cI G ++ ld_hW a cI R.1 ++ ld_pW (a 18) (a 19) (a 20) cI cZ R.2) (va_A (ld_gW a cI G ++ ld_hW a cI hh ++ ld_pW (a 18) (a 19) (a 20) cI cZ qq) sz)) 0 0 ((va_A (ld_gW a cI G ++ ld_hW a cI hh ++ ld_pW (a 18) (a 19) (a 20) cI cZ qq) sz)) := by
  refine Met.ofW (cc := prog_3_method_4_code) (maxL := 5) (ret := none) (by decide) rfl ?_
  intro p e s m args below meth c s₁ B hml hv
  obtain ⟨rfl, hsz, hP, hK, hD0, hN⟩ := hv
  have hx := B.exec
  have hb := B.bytes
  have hr := B.returns
  have hg : ∀ w ∈ bgT, w.before _ s = true := fun w h => atoms_spec (ws := (Cond.code y_pass prog_3_method_4_code 5 none :: bgT)) B.pre w (List.mem_cons_of_mem _ h)
  have hown : s.vm.findClass "LoanDesk$Holding" = some m.cls := findClass_of_methodNamed B.named
  have hlocks := B.notSynchronized
  subst hsz
  have hD := hD0.self (sz := s.heap.size)
  generalize hAe : va_A (ld_gW a cI G ++ ld_hW a cI hh ++ ld_pW (a 18) (a 19) (a 20) cI cZ qq) s.heap.size = A at hD ⊢
  have hA : ∀ q : Nat, s.heap.size ≤ q → A q := fun q h => by rw [← hAe]; exact Or.inr h
  have hS : va_S A s.heap s.heap [] := va_S.rf
  have hl := lv_entry ([.ref (a 15), .ref (a 1), .int p0, .int p1]) (n := 5) (Nat.le_of_ble_eq_true rfl)
  rw [lg_entry_eq]
  generalize (lg_sl ([.ref (a 15), .ref (a 1), .int p0, .int p1]) ++ List.replicate (5 - (lg_sl ([.ref (a 15), .ref (a 1), .int p0, .int p1])).length) Slot.unset).toArray = ls at hl ⊢
  have hl : lv_has ls 5 [(0, .ref (a 15)), (1, .ref (a 1)), (2, .int p0), (3, .int p1)] := hl
  refine lv_iload_n hx hb d_pass_0 rfl (lv_at hl 3 rfl) ?_
  obtain ⟨r_1, e_1, h⟩ := ld_nm h
  refine ld_rd ((va_runSN (As := [.int p1]) (rest := []) ⟨hx, hb, hml, hown, hg⟩ (lc_isIndex l D cI cZ cJ p1 r_1 e_1) ⟨va_cnB 1 hg (ld_gd k_161) rfl rfl rfl (hN _ (ld_nwm 10 rfl)) (hg _ k_23) hd_isIndex ⟨Nat.le_of_ble_eq_true rfl, Nat.le_of_ble_eq_true rfl⟩, hg _ k_160, trivial⟩ (ld_preR hP hK hN [] rfl) rfl rfl hl.1 rfl (lv_room (Nat.le_of_ble_eq_true rfl)) d_pass_1 ⟨Nat.zero_le _, Nat.zero_le _⟩).run) ?_
  refine lv_if_ne (tgt := 8) hx hb d_pass_4 (by decide) (fun c_2 => ?_) (fun c_2 => ?_)
  · have h := (if_neg c_2).symm.trans h
    refine lv_aload_n hx hb d_pass_8 rfl (lv_at hl 1 rfl) ?_
    refine lv_iload_n hx hb d_pass_9 rfl (lv_at hl 3 rfl) ?_
    refine lv_iload_n hx hb d_pass_10 rfl (lv_at hl 2 rfl) ?_
    refine lv_aload_n hx hb d_pass_11 rfl (lv_at hl 0 rfl) ?_
    refine va_get (D := D) (ci := 4) (v := .ref (a 16)) (C := "LoanDesk$Holding") (T := T_Holding) (N := 3) hx hb hg u_Holding hown hK hP 7 rfl rfl 0 (by decide) (hg _ k_95) (fun _ h9 => h9) rfl d_pass_12 ?_
    refine lv_iload_n hx hb d_pass_15 rfl (lv_at hl 3 rfl) ?_
    refine va_iald hx hb hK hP 8 0 rfl rfl (i := p1) (ld_ix e_1 c_2) d_pass_16 ?_
    obtain ⟨r_3, e_3, h⟩ := ld_nm h
    refine ld_rd (W.runV (As := [.int p1, .int p0, .int (hh.1 p1.toNatClampNeg)]) (rest := []) ⟨hx, hb, hml, hown, hg⟩ (lc_heldBehind l D cI cZ cJ a G p1 p0 (hh.1 p1.toNatClampNeg) r_3 e_3) ⟨callB_of 3 hg (ld_gd k_257) rfl rfl rfl (hg _ k_24) (hg _ k_254) hd_heldBehind ⟨Nat.le_of_ble_eq_true rfl, Nat.le_of_ble_eq_true rfl⟩, hg _ k_255, hg _ k_256⟩ (ld_preRV hP hK hN [0, 1, 2, 3, 4, 5, 6] rfl 0 0 rfl rfl) rfl rfl hl.1 rfl (lv_room (Nat.le_of_ble_eq_true rfl)) d_pass_17 ⟨Nat.zero_le _, Nat.zero_le _⟩) ?_
    refine lv_istore (lv' := [(4, .int r_3), (0, .ref (a 15)), (1, .ref (a 1)), (2, .int p0), (3, .int p1)]) hx hb d_pass_20 hl (by decide) rfl (fun ls hl => ?_)
    refine lv_aload_n hx hb d_pass_22 rfl (lv_at hl 1 rfl) ?_
    refine va_get (D := D) (ci := 4) (v := .ref (a 17)) (C := "LoanDesk$Holding") (T := T_Holding) (N := 3) hx hb hg u_Holding hown hK hP 7 rfl rfl 1 (by decide) (hg _ k_96) (fun _ h9 => h9) rfl d_pass_23 ?_
    refine lv_iload_n hx hb d_pass_26 rfl (lv_at hl 4 rfl) ?_
    refine lv_iload hx hb d_pass_27 (lv_at hl 0 rfl) ?_
    refine va_iast hx hb hK hP hD hS 9 0 rfl rfl (i := p1) (ld_ix e_1 c_2) d_pass_29 (fun H locs hP hD hS => ?_)
    have hP : va_P D vwCl (ld_gW a cI G ++ ld_hW a cI (hh.1, upd hh.2 p1.toNatClampNeg r_3) ++ ld_pW (a 18) (a 19) (a 20) cI cZ qq) H := hP
    have hD : va_D A (ld_gW a cI G ++ ld_hW a cI (hh.1, upd hh.2 p1.toNatClampNeg r_3) ++ ld_pW (a 18) (a 19) (a 20) cI cZ qq) := hD
    refine lv_aload_n hx hb d_pass_30 rfl (lv_at hl 1 rfl) ?_
    refine lv_aload_n hx hb d_pass_31 rfl (lv_at hl 2 rfl) ?_
    refine lv_aload_n hx hb d_pass_32 rfl (lv_at hl 2 rfl) ?_
    refine lv_iload_n hx hb d_pass_33 rfl (lv_at hl 4 rfl) ?_
    obtain ⟨r_4, e_4, h⟩ := ld_nm h
    refine ld_rd (W.runV (As := [.int p1]) (rest := [.ref (a 1), .ref (a 15)]) ⟨hx, hb, hml, hown, hg⟩ (lc_firstNext l D cI cZ cJ a G p1 r_4 e_4) ⟨callB_of 1 hg (ld_gd k_204) rfl rfl rfl (hg _ k_24) (hg _ k_261) hd_firstNext ⟨Nat.le_of_ble_eq_true rfl, Nat.le_of_ble_eq_true rfl⟩, hg _ k_202, hg _ k_203⟩ (ld_preRV hP hK hN [0, 1, 2, 3, 4, 5, 6] rfl 0 0 rfl rfl) rfl rfl hl.1 rfl (lv_room (Nat.le_of_ble_eq_true rfl)) d_pass_34 ⟨Nat.zero_le _, Nat.zero_le _⟩) ?_
    refine lv_iload hx hb d_pass_37 (lv_at hl 0 rfl) ?_
    obtain ⟨r_5, e_5, h⟩ := ld_nm h
    refine ld_mv (wr := ([] : List Nat).filterMap (fun i => (ld_gW a cI G ++ ld_hW a cI (hh.1, upd hh.2 p1.toNatClampNeg r_3) ++ ld_pW (a 18) (a 19) (a 20) cI cZ qq)[i]?)) (ws2 := ld_gW a cI G ++ ld_hW a cI r_5.1 ++ ld_pW (a 18) (a 19) (a 20) cI cZ r_5.2) (va_runV (As := [.ref (a 1), .int r_4, .int r_3]) (rest := []) ⟨hx, hb, hml, hown, hg⟩ (lc_handOn l D cI cZ cJ a G (hh.1, upd hh.2 p1.toNatClampNeg r_3) qq r_4 r_3 _ r_5 e_5) ⟨callB_of 3 hg (ld_gd k_264) rfl rfl rfl (hg _ k_28) (hg _ k_262) hd_handOn ⟨Nat.le_of_ble_eq_true rfl, Nat.le_of_ble_eq_true rfl⟩, hg _ k_263, hg _ k_5⟩ (ld_preMV hP hK hN hD [0, 1, 2, 3, 4, 5, 6, 7, 8, 9, 10, 11, 12] (by decide) rfl 4 7 rfl rfl) rfl rfl hl.1 rfl (lv_room (Nat.le_of_ble_eq_true rfl)) d_pass_39 ⟨Nat.zero_le _, Nat.zero_le _⟩) hP hD hS hA [0, 1, 2, 3, 4, 5, 6, 7, 8, 9, 10, 11, 12] [] [0, 1, 2, 3, 4, 5, 6, 7, 8, 9, 10, 11, 12] rfl rfl (by decide) (by decide) (by decide) rfl (fun H locs hP hD hS => ?_)
    refine lv_aload_n hx hb d_pass_42 rfl (lv_at hl 1 rfl) ?_
    refine lv_aload_n hx hb d_pass_43 rfl (lv_at hl 2 rfl) ?_
    refine lv_aload_n hx hb d_pass_44 rfl (lv_at hl 2 rfl) ?_
    refine lv_iload_n hx hb d_pass_45 rfl (lv_at hl 4 rfl) ?_
    obtain ⟨r_6, e_6, h⟩ := ld_nm h
    refine ld_rd (W.runV (As := [.int p1]) (rest := [.ref (a 1), .ref (a 15)]) ⟨hx, hb, hml, hown, hg⟩ (lc_secondNext l D cI cZ cJ a G p1 r_6 e_6) ⟨callB_of 1 hg (ld_gd k_208) rfl rfl rfl (hg _ k_24) (hg _ k_266) hd_secondNext ⟨Nat.le_of_ble_eq_true rfl, Nat.le_of_ble_eq_true rfl⟩, hg _ k_206, hg _ k_207⟩ (ld_preRV hP hK hN [0, 1, 2, 3, 4, 5, 6] rfl 0 0 rfl rfl) rfl rfl hl.1 rfl (lv_room (Nat.le_of_ble_eq_true rfl)) d_pass_46 ⟨Nat.zero_le _, Nat.zero_le _⟩) ?_
    refine lv_iload hx hb d_pass_49 (lv_at hl 0 rfl) ?_
    obtain ⟨r_7, e_7, h⟩ := ld_nm h
    refine ld_mv (wr := ([] : List Nat).filterMap (fun i => (ld_gW a cI G ++ ld_hW a cI r_5.1 ++ ld_pW (a 18) (a 19) (a 20) cI cZ r_5.2)[i]?)) (ws2 := ld_gW a cI G ++ ld_hW a cI r_7.1 ++ ld_pW (a 18) (a 19) (a 20) cI cZ r_7.2) (va_runV (As := [.ref (a 1), .int r_6, .int r_3]) (rest := []) ⟨hx, hb, hml, hown, hg⟩ (lc_handOn l D cI cZ cJ a G r_5.1 r_5.2 r_6 r_3 _ r_7 e_7) ⟨callB_of 3 hg (ld_gd k_264) rfl rfl rfl (hg _ k_28) (hg _ k_262) hd_handOn ⟨Nat.le_of_ble_eq_true rfl, Nat.le_of_ble_eq_true rfl⟩, hg _ k_263, hg _ k_5⟩ (ld_preMV hP hK hN hD [0, 1, 2, 3, 4, 5, 6, 7, 8, 9, 10, 11, 12] (by decide) rfl 4 7 rfl rfl) rfl rfl hl.1 rfl (lv_room (Nat.le_of_ble_eq_true rfl)) d_pass_51 ⟨Nat.zero_le _, Nat.zero_le _⟩) hP hD hS hA [0, 1, 2, 3, 4, 5, 6, 7, 8, 9, 10, 11, 12] [] [0, 1, 2, 3, 4, 5, 6, 7, 8, 9, 10, 11, 12] rfl rfl (by decide) (by decide) (by decide) rfl (fun H locs hP hD hS => ?_)
    subst h
    exact W.vret hx hb hr (fun t ht hW => ⟨⟨(), rfl, trivial, by rw [ht]; exact hP, hD⟩, hS.F ht⟩) hS.2.2 d_pass_54
  · have h := (if_pos c_2).symm.trans h
    subst h
    exact W.vret hx hb hr (fun t ht hW => ⟨⟨(), rfl, trivial, by rw [ht]; exact hP, hD⟩, hS.F ht⟩) hS.2.2 d_pass_7
def ls_follow_1 (G : ld_gT) (p0 : Int32) (v1 : Int32 × ((Nat → Int32) × (Nat → Int32)) × ld_pT) : Option ((Int32 × ((Nat → Int32) × (Nat → Int32)) × ld_pT) ⊕ (Int32 × ((Nat → Int32) × (Nat → Int32)) × ld_pT)) := if 1920 < v1.1 then some (.inr (v1.1, v1.2.1, v1.2.2)) else ld_lt (lf_pEmpty v1.2.2) (fun r_3 => if r_3 = 0 then ld_lt (lf_take v1.2.2) (fun r_5 => ld_lt (lf_pass G v1.2.1 r_5.2 p0 r_5.1) (fun r_6 => some (.inl (v1.1 + 1, r_6.1, r_6.2)))) else some (.inr (v1.1, v1.2.1, v1.2.2)))
def lm_follow (N : Nat) (G : ld_gT) (hh : (Nat → Int32) × (Nat → Int32)) (qq : ld_pT) (p0 : Int32) : Option (((Nat → Int32) × (Nat → Int32)) × ld_pT) := ld_lt (lf_put qq p0) (fun r_1 => Option.bind (ld_it (ls_follow_1 G p0) N (0, (ld_fl 120 0 hh.1, ld_fl 120 0 hh.2), r_1)) (fun Y1 => some (Y1.2.1, Y1.2.2)))
set_option maxHeartbeats 4000000 in
set_option maxRecDepth 100000 in
theorem lc_follow (l : Launch) (D : va_G) (cI cZ cJ : ClassId) (a : Nat → Nat) (G : ld_gT) (hh : (Nat → Int32) × (Nat → Int32)) (qq : ld_pT) (p0 : Int32) (sz : Nat) (N : Nat) (R : ((Nat → Int32) × (Nat → Int32)) × ld_pT) (h : lm_follow N G hh qq p0 = some R) : Met l y_follow (Cond.code y_follow prog_3_method_3_code 4 none :: bgT) ({ frames := 4, cells := 0, slots := 0, locals := 89 }) (ld_PM D cI cZ cJ (ld_gW a cI G ++ ld_hW a cI hh ++ ld_pW (a 18) (a 19) (a 20) cI cZ qq) sz [.ref (a 15), .ref (a 1), .int p0]) (ld_QV D (ld_gW a cI G ++ ld_hW a cI R.1 ++ ld_pW (a 18) (a 19) (a 20) cI cZ R.2) (va_A (ld_gW a cI G ++ ld_hW a cI hh ++ ld_pW (a 18) (a 19) (a 20) cI cZ qq) sz)) 0 0 ((va_A (ld_gW a cI G ++ ld_hW a cI hh ++ ld_pW (a 18) (a 19) (a 20) cI cZ qq) sz)) := by
  refine Met.ofW (cc := prog_3_method_3_code) (maxL := 4) (ret := none) (by decide) rfl ?_
  intro p e s m args below meth c s₁ B hml hv
  obtain ⟨rfl, hsz, hP, hK, hD0, hN⟩ := hv
  have hx := B.exec
  have hb := B.bytes
  have hr := B.returns
  have hg : ∀ w ∈ bgT, w.before _ s = true := fun w h => atoms_spec (ws := (Cond.code y_follow prog_3_method_3_code 4 none :: bgT)) B.pre w (List.mem_cons_of_mem _ h)
  have hown : s.vm.findClass "LoanDesk$Holding" = some m.cls := findClass_of_methodNamed B.named
  have hlocks := B.notSynchronized
  subst hsz
  have hD := hD0.self (sz := s.heap.size)
  generalize hAe : va_A (ld_gW a cI G ++ ld_hW a cI hh ++ ld_pW (a 18) (a 19) (a 20) cI cZ qq) s.heap.size = A at hD ⊢
  have hA : ∀ q : Nat, s.heap.size ≤ q → A q := fun q h => by rw [← hAe]; exact Or.inr h
  have hS : va_S A s.heap s.heap [] := va_S.rf
  have hl := lv_entry ([.ref (a 15), .ref (a 1), .int p0]) (n := 4) (Nat.le_of_ble_eq_true rfl)
  rw [lg_entry_eq]
  generalize (lg_sl ([.ref (a 15), .ref (a 1), .int p0]) ++ List.replicate (4 - (lg_sl ([.ref (a 15), .ref (a 1), .int p0])).length) Slot.unset).toArray = ls at hl ⊢
  have hl : lv_has ls 4 [(0, .ref (a 15)), (1, .ref (a 1)), (2, .int p0)] := hl
  refine lv_aload_n hx hb d_follow_0 rfl (lv_at hl 0 rfl) ?_
  refine va_get (D := D) (ci := 4) (v := .ref (a 16)) (C := "LoanDesk$Holding") (T := T_Holding) (N := 3) hx hb hg u_Holding hown hK hP 7 rfl rfl 0 (by decide) (hg _ k_95) (fun _ h9 => h9) rfl d_follow_1 ?_
  refine lv_iconst (v := 0) hx hb d_follow_4 (by decide) ?_
  refine ld_mv (wr := ([0, 1, 2, 3, 4, 5, 6, 7, 9, 10, 11, 12] : List Nat).filterMap (fun i => (ld_gW a cI G ++ ld_hW a cI hh ++ ld_pW (a 18) (a 19) (a 20) cI cZ qq)[i]?)) (ws2 := ld_gW a cI G ++ ld_hW a cI (ld_fl 120 0 hh.1, hh.2) ++ ld_pW (a 18) (a 19) (a 20) cI cZ qq) (va_runS (As := [.ref (a 16), .int 0]) (rest := []) ⟨hx, hb, hml, hown, hg⟩ (lc_fillI l D cI cZ cJ (a 16) 120 (by decide) hh.1 0 _) ⟨callB_of 2 hg (ld_gd k_180) rfl rfl rfl (hg _ k_31) (hg _ k_247) hd_fillI ⟨Nat.le_of_ble_eq_true rfl, Nat.le_of_ble_eq_true rfl⟩, hg _ k_179⟩ (ld_preM hP hK hN hD [8] (by decide) rfl) rfl rfl hl.1 rfl (lv_room (Nat.le_of_ble_eq_true rfl)) d_follow_5 ⟨Nat.zero_le _, Nat.zero_le _⟩) hP hD hS hA [8] [0, 1, 2, 3, 4, 5, 6, 7, 9, 10, 11, 12] [0, 1, 2, 3, 4, 5, 6, 7, 12, 8, 9, 10, 11] rfl rfl (by decide) (by decide) (by decide) rfl (fun H locs hP hD hS => ?_)
  refine lv_aload_n hx hb d_follow_8 rfl (lv_at hl 0 rfl) ?_
  refine va_get (D := D) (ci := 4) (v := .ref (a 17)) (C := "LoanDesk$Holding") (T := T_Holding) (N := 3) hx hb hg u_Holding hown hK hP 7 rfl rfl 1 (by decide) (hg _ k_96) (fun _ h9 => h9) rfl d_follow_9 ?_
  refine lv_iconst (v := 0) hx hb d_follow_12 (by decide) ?_
  refine ld_mv (wr := ([0, 1, 2, 3, 4, 5, 6, 7, 8, 10, 11, 12] : List Nat).filterMap (fun i => (ld_gW a cI G ++ ld_hW a cI (ld_fl 120 0 hh.1, hh.2) ++ ld_pW (a 18) (a 19) (a 20) cI cZ qq)[i]?)) (ws2 := ld_gW a cI G ++ ld_hW a cI (ld_fl 120 0 hh.1, ld_fl 120 0 hh.2) ++ ld_pW (a 18) (a 19) (a 20) cI cZ qq) (va_runS (As := [.ref (a 17), .int 0]) (rest := []) ⟨hx, hb, hml, hown, hg⟩ (lc_fillI l D cI cZ cJ (a 17) 120 (by decide) hh.2 0 _) ⟨callB_of 2 hg (ld_gd k_180) rfl rfl rfl (hg _ k_31) (hg _ k_247) hd_fillI ⟨Nat.le_of_ble_eq_true rfl, Nat.le_of_ble_eq_true rfl⟩, hg _ k_179⟩ (ld_preM hP hK hN hD [9] (by decide) rfl) rfl rfl hl.1 rfl (lv_room (Nat.le_of_ble_eq_true rfl)) d_follow_13 ⟨Nat.zero_le _, Nat.zero_le _⟩) hP hD hS hA [9] [0, 1, 2, 3, 4, 5, 6, 7, 8, 10, 11, 12] [0, 1, 2, 3, 4, 5, 6, 7, 8, 12, 9, 10, 11] rfl rfl (by decide) (by decide) (by decide) rfl (fun H locs hP hD hS => ?_)
  refine lv_aload_n hx hb d_follow_16 rfl (lv_at hl 0 rfl) ?_
  refine va_get (D := D) (ci := 4) (v := .ref (a 18)) (C := "LoanDesk$Holding") (T := T_Holding) (N := 3) hx hb hg u_Holding hown hK hP 7 rfl rfl 2 (by decide) (hg _ k_97) (fun _ h9 => h9) rfl d_follow_17 ?_
  refine lv_iload_n hx hb d_follow_20 rfl (lv_at hl 2 rfl) ?_
  obtain ⟨r_1, e_1, h⟩ := ld_nm h
  refine ld_mv (wr := ([0, 1, 2, 3, 4, 5, 6, 7, 8, 9] : List Nat).filterMap (fun i => (ld_gW a cI G ++ ld_hW a cI (ld_fl 120 0 hh.1, ld_fl 120 0 hh.2) ++ ld_pW (a 18) (a 19) (a 20) cI cZ qq)[i]?)) (ws2 := ld_gW a cI G ++ ld_hW a cI (ld_fl 120 0 hh.1, ld_fl 120 0 hh.2) ++ ld_pW (a 18) (a 19) (a 20) cI cZ r_1) (va_runV (As := [.int p0]) (rest := []) ⟨hx, hb, hml, hown, hg⟩ (lc_put l D cI cZ cJ (a 18) (a 19) (a 20) qq p0 _ r_1 e_1) ⟨callB_of 1 hg (ld_gd k_192) rfl rfl rfl (hg _ k_26) (hg _ k_248) hd_put ⟨Nat.le_of_ble_eq_true rfl, Nat.le_of_ble_eq_true rfl⟩, hg _ k_190, hg _ k_191⟩ (ld_preMV hP hK hN hD [10, 11, 12] (by decide) rfl 1 0 rfl rfl) rfl rfl hl.1 rfl (lv_room (Nat.le_of_ble_eq_true rfl)) d_follow_21 ⟨Nat.zero_le _, Nat.zero_le _⟩) hP hD hS hA [10, 11, 12] [0, 1, 2, 3, 4, 5, 6, 7, 8, 9] [0, 1, 2, 3, 4, 5, 6, 7, 8, 9, 10, 11, 12] rfl rfl (by decide) (by decide) (by decide) rfl (fun H locs hP hD hS => ?_)
  refine lv_iconst (v := 0) hx hb d_follow_24 (by decide) ?_
  refine lv_istore_n (lv' := [(3, .int 0), (0, .ref (a 15)), (1, .ref (a 1)), (2, .int p0)]) hx hb d_follow_25 rfl hl (by decide) rfl (fun ls hl => ?_)
  obtain ⟨Y1, eY1, h⟩ := ld_ob h
  have kont1 : ∀ (H : Heap) (locs : List Loc) (ls : Array Slot), va_P D vwCl (ld_gW a cI G ++ ld_hW a cI Y1.2.1 ++ ld_pW (a 18) (a 19) (a 20) cI cZ Y1.2.2) H → va_D A (ld_gW a cI G ++ ld_hW a cI Y1.2.1 ++ ld_pW (a 18) (a 19) (a 20) cI cZ Y1.2.2) → va_S A s.heap H locs → lv_has ls 4 [] → W p l e (headSpec (Cond.code y_follow prog_3_method_3_code 4 none :: bgT) ({ frames := 4, cells := 0, slots := 0, locals := 89 })).room s m ([.ref (a 15), .ref (a 1), .int p0] : List Value).toArray below meth c H locs 0 0 (MQ below (ld_QV D (ld_gW a cI G ++ ld_hW a cI R.1 ++ ld_pW (a 18) (a 19) (a 20) cI cZ R.2) A) ([.ref (a 15), .ref (a 1), .int p0] : List Value).toArray s 0 0 (A)) (F0 m 62 ls []) := by
    intro H locs ls hP hD hS hl
    have h := Option.some.inj h
    subst h
    exact W.vret hx hb hr (fun t ht hW => ⟨⟨(), rfl, trivial, by rw [ht]; exact hP, hD⟩, hS.F ht⟩) hS.2.2 d_follow_62
  have key1 : ∀ (n : Nat) (v1 : Int32 × ((Nat → Int32) × (Nat → Int32)) × ld_pT) (H : Heap) (locs : List Loc) (ls : Array Slot), ld_it (ls_follow_1 G p0) n v1 = some Y1 → va_P D vwCl (ld_gW a cI G ++ ld_hW a cI v1.2.1 ++ ld_pW (a 18) (a 19) (a 20) cI cZ v1.2.2) H → va_D A (ld_gW a cI G ++ ld_hW a cI v1.2.1 ++ ld_pW (a 18) (a 19) (a 20) cI cZ v1.2.2) → va_S A s.heap H locs → lv_has ls 4 [(0, .ref (a 15)), (1, .ref (a 1)), (2, .int p0), (3, .int v1.1)] → W p l e (headSpec (Cond.code y_follow prog_3_method_3_code 4 none :: bgT) ({ frames := 4, cells := 0, slots := 0, locals := 89 })).room s m ([.ref (a 15), .ref (a 1), .int p0] : List Value).toArray below meth c H locs 0 0 (MQ below (ld_QV D (ld_gW a cI G ++ ld_hW a cI R.1 ++ ld_pW (a 18) (a 19) (a 20) cI cZ R.2) A) ([.ref (a 15), .ref (a 1), .int p0] : List Value).toArray s 0 0 (A)) (F0 m 26 ls []) := by
    intro n
    induction n with
    | zero => intro v1 H locs ls g1 hP hD hS hl; cases g1
    | succ n ih1 =>
      intro v1 H locs ls g1 hP hD hS hl
      obtain ⟨z1, hy1, g1⟩ := ld_its g1
      refine lv_iload_n hx hb d_follow_26 rfl (lv_at hl 3 rfl) ?_
      refine lv_sipush (v := 1920) hx hb d_follow_27 (by decide) ?_
      refine lv_icmp_gt (tgt := 62) hx hb d_follow_30 (by decide) (fun c_2 => ?_) (fun c_2 => ?_)
      · have hy1 := (if_pos c_2).symm.trans hy1
        obtain rfl := Option.some.inj hy1
        obtain rfl := Option.some.inj g1
        exact kont1 _ _ _ hP hD hS (lv_sub hl [] rfl)
      · have hy1 := (if_neg c_2).symm.trans hy1
        refine lv_aload_n hx hb d_follow_33 rfl (lv_at hl 0 rfl) ?_
        refine va_get (D := D) (ci := 4) (v := .ref (a 18)) (C := "LoanDesk$Holding") (T := T_Holding) (N := 3) hx hb hg u_Holding hown hK hP 7 rfl rfl 2 (by decide) (hg _ k_97) (fun _ h9 => h9) rfl d_follow_34 ?_
        obtain ⟨r_3, e_3, hy1⟩ := ld_nm hy1
        refine ld_rd (W.runV (As := []) (rest := []) ⟨hx, hb, hml, hown, hg⟩ (lc_pEmpty l D cI cZ cJ (a 18) (a 19) (a 20) v1.2.2 r_3 e_3) ⟨callB_of 0 hg (ld_gd k_196) rfl rfl rfl (hg _ k_26) (hg _ k_249) hd_pEmpty ⟨Nat.le_of_ble_eq_true rfl, Nat.le_of_ble_eq_true rfl⟩, hg _ k_194, hg _ k_195⟩ (ld_preRV hP hK hN [10, 11, 12] rfl 1 0 rfl rfl) rfl rfl hl.1 rfl (lv_room (Nat.le_of_ble_eq_true rfl)) d_follow_37 ⟨Nat.zero_le _, Nat.zero_le _⟩) ?_
        refine lv_if_ne (tgt := 62) hx hb d_follow_40 (by decide) (fun c_4 => ?_) (fun c_4 => ?_)
        · have hy1 := (if_neg c_4).symm.trans hy1
          obtain rfl := Option.some.inj hy1
          obtain rfl := Option.some.inj g1
          exact kont1 _ _ _ hP hD hS (lv_sub hl [] rfl)
        · have hy1 := (if_pos c_4).symm.trans hy1
          refine lv_aload_n hx hb d_follow_43 rfl (lv_at hl 0 rfl) ?_
          refine lv_aload_n hx hb d_follow_44 rfl (lv_at hl 1 rfl) ?_
          refine lv_iload_n hx hb d_follow_45 rfl (lv_at hl 2 rfl) ?_
          refine lv_aload_n hx hb d_follow_46 rfl (lv_at hl 0 rfl) ?_
          refine va_get (D := D) (ci := 4) (v := .ref (a 18)) (C := "LoanDesk$Holding") (T := T_Holding) (N := 3) hx hb hg u_Holding hown hK hP 7 rfl rfl 2 (by decide) (hg _ k_97) (fun _ h9 => h9) rfl d_follow_47 ?_
          obtain ⟨r_5, e_5, hy1⟩ := ld_nm hy1
          refine ld_mi (wr := ([0, 1, 2, 3, 4, 5, 6, 7, 8, 9] : List Nat).filterMap (fun i => (ld_gW a cI G ++ ld_hW a cI v1.2.1 ++ ld_pW (a 18) (a 19) (a 20) cI cZ v1.2.2)[i]?)) (ws2 := ld_gW a cI G ++ ld_hW a cI v1.2.1 ++ ld_pW (a 18) (a 19) (a 20) cI cZ r_5.2) (va_runV (As := []) (rest := [.int p0, .ref (a 1), .ref (a 15)]) ⟨hx, hb, hml, hown, hg⟩ (lc_take l D cI cZ cJ (a 18) (a 19) (a 20) v1.2.2 _ r_5 e_5) ⟨callB_of 0 hg (ld_gd k_200) rfl rfl rfl (hg _ k_26) (hg _ k_250) hd_take ⟨Nat.le_of_ble_eq_true rfl, Nat.le_of_ble_eq_true rfl⟩, hg _ k_198, hg _ k_199⟩ (ld_preMV hP hK hN hD [10, 11, 12] (by decide) rfl 1 0 rfl rfl) rfl rfl hl.1 rfl (lv_room (Nat.le_of_ble_eq_true rfl)) d_follow_50 ⟨Nat.zero_le _, Nat.zero_le _⟩) hP hD hS hA [10, 11, 12] [0, 1, 2, 3, 4, 5, 6, 7, 8, 9] [0, 1, 2, 3, 4, 5, 6, 7, 8, 9, 10, 11, 12] rfl rfl (by decide) (by decide) (by decide) rfl (fun H locs hP hD hS => ?_)
          obtain ⟨r_6, e_6, hy1⟩ := ld_nm hy1
          refine ld_mv (wr := ([] : List Nat).filterMap (fun i => (ld_gW a cI G ++ ld_hW a cI v1.2.1 ++ ld_pW (a 18) (a 19) (a 20) cI cZ r_5.2)[i]?)) (ws2 := ld_gW a cI G ++ ld_hW a cI r_6.1 ++ ld_pW (a 18) (a 19) (a 20) cI cZ r_6.2) (va_runV (As := [.ref (a 1), .int p0, .int r_5.1]) (rest := []) ⟨hx, hb, hml, hown, hg⟩ (lc_pass l D cI cZ cJ a G v1.2.1 r_5.2 p0 r_5.1 _ r_6 e_6) ⟨callB_of 3 hg (ld_gd k_253) rfl rfl rfl (hg _ k_28) (hg _ k_251) hd_pass ⟨Nat.le_of_ble_eq_true rfl, Nat.le_of_ble_eq_true rfl⟩, hg _ k_252, hg _ k_4⟩ (ld_preMV hP hK hN hD [0, 1, 2, 3, 4, 5, 6, 7, 8, 9, 10, 11, 12] (by decide) rfl 4 7 rfl rfl) rfl rfl hl.1 rfl (lv_room (Nat.le_of_ble_eq_true rfl)) d_follow_53 ⟨Nat.zero_le _, Nat.zero_le _⟩) hP hD hS hA [0, 1, 2, 3, 4, 5, 6, 7, 8, 9, 10, 11, 12] [] [0, 1, 2, 3, 4, 5, 6, 7, 8, 9, 10, 11, 12] rfl rfl (by decide) (by decide) (by decide) rfl (fun H locs hP hD hS => ?_)
          refine lv_iinc (v := v1.1 + 1) (lv' := [(3, .int (v1.1 + 1)), (0, .ref (a 15)), (1, .ref (a 1)), (2, .int p0)]) hx hb d_follow_56 hl (k := 3) rfl rfl (by decide) rfl (fun ls hl => ?_)
          refine lv_goto (tgt := 26) hx hb d_follow_59 (by decide) ?_
          obtain rfl := Option.some.inj hy1
          exact ih1 (v1.1 + 1, r_6.1, r_6.2) _ _ _ g1 hP hD hS (lv_sub hl [1, 2, 3, 0] rfl)
  exact key1 N (0, (ld_fl 120 0 hh.1, ld_fl 120 0 hh.2), r_1) _ _ _ eY1 hP hD hS (lv_sub hl [1, 2, 3, 0] rfl)
