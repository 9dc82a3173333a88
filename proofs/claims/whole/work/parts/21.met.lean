def ls_fforget_1 (v1 : Int32 × (Int32 × Int32 × Int32) × ld_sT) : Option ((Int32 × (Int32 × Int32 × Int32) × ld_sT) ⊕ (Int32 × (Int32 × Int32 × Int32) × ld_sT)) := if 1920 ≤ v1.1 then some (.inr (v1.1, v1.2.1, v1.2.2)) else if ld_in v1.1 1920 = true then (some (.inl (v1.1 + 1, v1.2.1, (v1.2.2.1, upd v1.2.2.2 v1.1.toNatClampNeg (vp_nar .boolean 0))))) else none
def lm_fforget (N : Nat) (fo : Int32 × Int32 × Int32) (fs : ld_sT) : Option ((Int32 × Int32 × Int32) × ld_sT) := Option.bind (ld_it (ls_fforget_1) N (0, (fo.1, fo.2.1, 0), fs)) (fun Y1 => some (Y1.2.1, Y1.2.2))
set_option maxHeartbeats 4000000 in
set_option maxRecDepth 100000 in
theorem lc_fforget (l : Launch) (D : va_G) (cI cZ cJ : ClassId) (f : Nat → Nat) (fo : Int32 × Int32 × Int32) (fs : ld_sT) (sz : Nat) (N : Nat) (R : (Int32 × Int32 × Int32) × ld_sT) (h : lm_fforget N fo fs = some R) : Met l y_fforget (Cond.code y_fforget prog_9_method_7_code 2 none :: bgT) ({ frames := 0, cells := 0, slots := 0, locals := 0 }) (ld_PM D cI cZ cJ (ld_oW f fo ++ ld_sW f cI cZ fs) sz [.ref (f 0)]) (ld_QV D (ld_oW f R.1 ++ ld_sW f cI cZ R.2) (va_A (ld_oW f fo ++ ld_sW f cI cZ fs) sz)) 0 0 ((va_A (ld_oW f fo ++ ld_sW f cI cZ fs) sz)) := by
  refine Met.ofW (cc := prog_9_method_7_code) (maxL := 2) (ret := none) (by decide) rfl ?_
  intro p e s m args below meth c s₁ B hml hv
  obtain ⟨rfl, hsz, hP, hK, hD0, hN⟩ := hv
  have hx := B.exec
  have hb := B.bytes
  have hr := B.returns
  have hg : ∀ w ∈ bgT, w.before _ s = true := fun w h => atoms_spec (ws := (Cond.code y_fforget prog_9_method_7_code 2 none :: bgT)) B.pre w (List.mem_cons_of_mem _ h)
  have hown : s.vm.findClass "LoanDeskModel" = some m.cls := findClass_of_methodNamed B.named
  have hlocks := B.notSynchronized
  subst hsz
  have hD := hD0.self (sz := s.heap.size)
  generalize hAe : va_A (ld_oW f fo ++ ld_sW f cI cZ fs) s.heap.size = A at hD ⊢
  have hA : ∀ q : Nat, s.heap.size ≤ q → A q := fun q h => by rw [← hAe]; exact Or.inr h
  have hS : va_S A s.heap s.heap [] := va_S.rf
  have hl := lv_entry ([.ref (f 0)]) (n := 2) (Nat.le_of_ble_eq_true rfl)
  rw [lg_entry_eq]
  generalize (lg_sl ([.ref (f 0)]) ++ List.replicate (2 - (lg_sl ([.ref (f 0)])).length) Slot.unset).toArray = ls at hl ⊢
  have hl : lv_has ls 2 [(0, .ref (f 0))] := hl
  refine lv_aload_n hx hb d_fforget_0 rfl (lv_at hl 0 rfl) ?_
  refine lv_iconst (v := 0) hx hb d_fforget_1 (by decide) ?_
  refine va_put (D := D) (ci := 7) (v := .int 0) (ty := .int) (C := "LoanDeskModel") (T := T_Ref) (N := 14) hx hb hg u_Ref t_Ref tk_Ref n_Ref hown hK hP hD hS 0 rfl rfl 13 (by decide) (hg _ k_383) (fun _ h9 => h9) rfl (by decide +kernel) rfl rfl (Nat.le_of_ble_eq_true rfl) d_fforget_2 (fun H locs hP hD hS => ?_)
  have hP : va_P D vwCl (ld_oW f (fo.1, fo.2.1, 0) ++ ld_sW f cI cZ fs) H := hP
  have hD : va_D A (ld_oW f (fo.1, fo.2.1, 0) ++ ld_sW f cI cZ fs) := hD
  refine lv_iconst (v := 0) hx hb d_fforget_5 (by decide) ?_
  refine lv_istore_n (lv' := [(1, .int 0), (0, .ref (f 0))]) hx hb d_fforget_6 rfl hl (by decide) rfl (fun ls hl => ?_)
  obtain ⟨Y1, eY1, h⟩ := ld_ob h
  have kont1 : ∀ (H : Heap) (locs : List Loc) (ls : Array Slot), va_P D vwCl (ld_oW f Y1.2.1 ++ ld_sW f cI cZ Y1.2.2) H → va_D A (ld_oW f Y1.2.1 ++ ld_sW f cI cZ Y1.2.2) → va_S A s.heap H locs → lv_has ls 2 [] → W p l e (headSpec (Cond.code y_fforget prog_9_method_7_code 2 none :: bgT) ({ frames := 0, cells := 0, slots := 0, locals := 0 })).room s m ([.ref (f 0)] : List Value).toArray below meth c H locs 0 0 (MQ below (ld_QV D (ld_oW f R.1 ++ ld_sW f cI cZ R.2) A) ([.ref (f 0)] : List Value).toArray s 0 0 (A)) (F0 m 27 ls []) := by
    intro H locs ls hP hD hS hl
    have h := Option.some.inj h
    subst h
    exact W.vret hx hb hr (fun t ht hW => ⟨⟨(), rfl, trivial, by rw [ht]; exact hP, hD⟩, hS.F ht⟩) hS.2.2 d_fforget_27
  have key1 : ∀ (n : Nat) (v1 : Int32 × (Int32 × Int32 × Int32) × ld_sT) (H : Heap) (locs : List Loc) (ls : Array Slot), ld_it (ls_fforget_1) n v1 = some Y1 → va_P D vwCl (ld_oW f v1.2.1 ++ ld_sW f cI cZ v1.2.2) H → va_D A (ld_oW f v1.2.1 ++ ld_sW f cI cZ v1.2.2) → va_S A s.heap H locs → lv_has ls 2 [(0, .ref (f 0)), (1, .int v1.1)] → W p l e (headSpec (Cond.code y_fforget prog_9_method_7_code 2 none :: bgT) ({ frames := 0, cells := 0, slots := 0, locals := 0 })).room s m ([.ref (f 0)] : List Value).toArray below meth c H locs 0 0 (MQ below (ld_QV D (ld_oW f R.1 ++ ld_sW f cI cZ R.2) A) ([.ref (f 0)] : List Value).toArray s 0 0 (A)) (F0 m 7 ls []) := by
    intro n
    induction n with
    | zero => intro v1 H locs ls g1 hP hD hS hl; cases g1
    | succ n ih1 =>
      intro v1 H locs ls g1 hP hD hS hl
      obtain ⟨z1, hy1, g1⟩ := ld_its g1
      refine lv_iload_n hx hb d_fforget_7 rfl (lv_at hl 1 rfl) ?_
      refine lv_sipush (v := 1920) hx hb d_fforget_8 (by decide) ?_
      refine lv_icmp_ge (tgt := 27) hx hb d_fforget_11 (by decide) (fun c_1 => ?_) (fun c_1 => ?_)
      · have hy1 := (if_pos c_1).symm.trans hy1
        obtain rfl := Option.some.inj hy1
        obtain rfl := Option.some.inj g1
        exact kont1 _ _ _ hP hD hS (lv_sub hl [] rfl)
      · have hy1 := (if_neg c_1).symm.trans hy1
        refine lv_aload_n hx hb d_fforget_14 rfl (lv_at hl 0 rfl) ?_
        refine va_get (D := D) (ci := 7) (v := .ref (f 11)) (C := "LoanDeskModel") (T := T_Ref) (N := 14) hx hb hg u_Ref hown hK hP 0 rfl rfl 12 (by decide) (hg _ k_382) (fun _ h9 => h9) rfl d_fforget_15 ?_
        refine lv_iload_n hx hb d_fforget_18 rfl (lv_at hl 1 rfl) ?_
        refine lv_iconst (v := 0) hx hb d_fforget_19 (by decide) ?_
        obtain ⟨i_2, hy1⟩ := ld_grd hy1
        refine va_zast hx hb hK hP hD hS 2 1 rfl rfl (i := v1.1) i_2 d_fforget_20 (fun H locs hP hD hS => ?_)
        have hP : va_P D vwCl (ld_oW f v1.2.1 ++ ld_sW f cI cZ (v1.2.2.1, upd v1.2.2.2 v1.1.toNatClampNeg (vp_nar .boolean 0))) H := hP
        have hD : va_D A (ld_oW f v1.2.1 ++ ld_sW f cI cZ (v1.2.2.1, upd v1.2.2.2 v1.1.toNatClampNeg (vp_nar .boolean 0))) := hD
        refine lv_iinc (v := v1.1 + 1) (lv' := [(1, .int (v1.1 + 1)), (0, .ref (f 0))]) hx hb d_fforget_21 hl (k := 1) rfl rfl (by decide) rfl (fun ls hl => ?_)
        refine lv_goto (tgt := 7) hx hb d_fforget_24 (by decide) ?_
        obtain rfl := Option.some.inj hy1
        exact ih1 (v1.1 + 1, v1.2.1, (v1.2.2.1, upd v1.2.2.2 v1.1.toNatClampNeg (vp_nar .boolean 0))) _ _ _ g1 hP hD hS (lv_sub hl [1, 0] rfl)
  exact key1 N (0, (fo.1, fo.2.1, 0), fs) _ _ _ eY1 hP hD hS (lv_sub hl [1, 0] rfl)
def lm_fmeet (N : Nat) (fo : Int32 × Int32 × Int32) (fs : ld_sT) (p0 : Int32) (p1 : Int32) : Option ((Int32 × Int32 × Int32) × ld_sT) := ld_lt (lf_fIsPoint fo p0) (fun r_1 => if r_1 = 0 then some (fo, fs) else if ld_in ((16 * p0) + p1) 1920 = true then (if (fs.2 ((16 * p0) + p1).toNatClampNeg) = 0 then if ld_in fo.2.2 1920 = true then (some ((fo.1, fo.2.1, fo.2.2 + 1), (upd fs.1 fo.2.2.toNatClampNeg ((16 * p0) + p1), upd fs.2 (((16 * p0) + p1).toNatClampNeg) (vp_nar .boolean 1)))) else none else some (fo, fs)) else none)
set_option maxHeartbeats 4000000 in
set_option maxRecDepth 100000 in
theorem lc_fmeet (l : Launch) (D : va_G) (cI cZ cJ : ClassId) (f : Nat → Nat) (fo : Int32 × Int32 × Int32) (fs : ld_sT) (p0 : Int32) (p1 : Int32) (sz : Nat) (N : Nat) (R : (Int32 × Int32 × Int32) × ld_sT) (h : lm_fmeet N fo fs p0 p1 = some R) : Met l y_fmeet (Cond.code y_fmeet prog_9_method_8_code 3 none :: bgT) ({ frames := 1, cells := 0, slots := 0, locals := 21 }) (ld_PM D cI cZ cJ (ld_oW f fo ++ ld_sW f cI cZ fs) sz [.ref (f 0), .int p0, .int p1]) (ld_QV D (ld_oW f R.1 ++ ld_sW f cI cZ R.2) (va_A (ld_oW f fo ++ ld_sW f cI cZ fs) sz)) 0 0 ((va_A (ld_oW f fo ++ ld_sW f cI cZ fs) sz)) := by
  refine Met.ofW (cc := prog_9_method_8_code) (maxL := 3) (ret := none) (by decide) rfl ?_
  intro p e s m args below meth c s₁ B hml hv
  obtain ⟨rfl, hsz, hP, hK, hD0, hN⟩ := hv
  have hx := B.exec
  have hb := B.bytes
  have hr := B.returns
  have hg : ∀ w ∈ bgT, w.before _ s = true := fun w h => atoms_spec (ws := (Cond.code y_fmeet prog_9_method_8_code 3 none :: bgT)) B.pre w (List.mem_cons_of_mem _ h)
  have hown : s.vm.findClass "LoanDeskModel" = some m.cls := findClass_of_methodNamed B.named
  have hlocks := B.notSynchronized
  subst hsz
  have hD := hD0.self (sz := s.heap.size)
  generalize hAe : va_A (ld_oW f fo ++ ld_sW f cI cZ fs) s.heap.size = A at hD ⊢
  have hA : ∀ q : Nat, s.heap.size ≤ q → A q := fun q h => by rw [← hAe]; exact Or.inr h
  have hS : va_S A s.heap s.heap [] := va_S.rf
  have hl := lv_entry ([.ref (f 0), .int p0, .int p1]) (n := 3) (Nat.le_of_ble_eq_true rfl)
  rw [lg_entry_eq]
  generalize (lg_sl ([.ref (f 0), .int p0, .int p1]) ++ List.replicate (3 - (lg_sl ([.ref (f 0), .int p0, .int p1])).length) Slot.unset).toArray = ls at hl ⊢
  have hl : lv_has ls 3 [(0, .ref (f 0)), (1, .int p0), (2, .int p1)] := hl
  refine lv_aload_n hx hb d_fmeet_0 rfl (lv_at hl 0 rfl) ?_
  refine lv_iload_n hx hb d_fmeet_1 rfl (lv_at hl 1 rfl) ?_
  obtain ⟨r_1, e_1, h⟩ := ld_nm h
  refine ld_rd (W.runV (As := [.int p0]) (rest := []) ⟨hx, hb, hml, hown, hg⟩ (lc_fIsPoint l D cI cZ cJ f fo p0 r_1 e_1) ⟨callB_of 1 hg (ld_gd k_427) rfl rfl rfl (hg _ k_30) (hg _ k_425) hd_fIsPoint ⟨Nat.le_of_ble_eq_true rfl, Nat.le_of_ble_eq_true rfl⟩, hg _ k_426, hg _ k_15⟩ (ld_preRV hP hK hN [0] rfl 7 0 rfl rfl) rfl rfl hl.1 rfl (lv_room (Nat.le_of_ble_eq_true rfl)) d_fmeet_2 ⟨Nat.zero_le _, Nat.zero_le _⟩) ?_
  refine lv_if_eq (tgt := 22) hx hb d_fmeet_5 (by decide) (fun c_2 => ?_) (fun c_2 => ?_)
  · have h := (if_pos c_2).symm.trans h
    have h := Option.some.inj h
    subst h
    exact W.vret hx hb hr (fun t ht hW => ⟨⟨(), rfl, trivial, by rw [ht]; exact hP, hD⟩, hS.F ht⟩) hS.2.2 d_fmeet_22
  · have h := (if_neg c_2).symm.trans h
    refine lv_aload_n hx hb d_fmeet_8 rfl (lv_at hl 0 rfl) ?_
    refine va_get (D := D) (ci := 7) (v := .ref (f 11)) (C := "LoanDeskModel") (T := T_Ref) (N := 14) hx hb hg u_Ref hown hK hP 0 rfl rfl 12 (by decide) (hg _ k_382) (fun _ h9 => h9) rfl d_fmeet_9 ?_
    refine lv_bipush (v := 16) hx hb d_fmeet_12 (by decide) ?_
    refine lv_iload_n hx hb d_fmeet_14 rfl (lv_at hl 1 rfl) ?_
    refine lv_imul hx hb d_fmeet_15 ?_
    refine lv_iload_n hx hb d_fmeet_16 rfl (lv_at hl 2 rfl) ?_
    refine lv_iadd hx hb d_fmeet_17 ?_
    obtain ⟨i_3, h⟩ := ld_grd h
    refine va_zald hx hb hK hP 2 1 rfl rfl (i := (16 * p0) + p1) i_3 d_fmeet_18 ?_
    refine lv_if_eq (tgt := 23) hx hb d_fmeet_19 (by decide) (fun c_4 => ?_) (fun c_4 => ?_)
    · have h := (if_pos c_4).symm.trans h
      refine lv_aload_n hx hb d_fmeet_23 rfl (lv_at hl 0 rfl) ?_
      refine va_get (D := D) (ci := 7) (v := .ref (f 11)) (C := "LoanDeskModel") (T := T_Ref) (N := 14) hx hb hg u_Ref hown hK hP 0 rfl rfl 12 (by decide) (hg _ k_382) (fun _ h9 => h9) rfl d_fmeet_24 ?_
      refine lv_bipush (v := 16) hx hb d_fmeet_27 (by decide) ?_
      refine lv_iload_n hx hb d_fmeet_29 rfl (lv_at hl 1 rfl) ?_
      refine lv_imul hx hb d_fmeet_30 ?_
      refine lv_iload_n hx hb d_fmeet_31 rfl (lv_at hl 2 rfl) ?_
      refine lv_iadd hx hb d_fmeet_32 ?_
      refine lv_iconst (v := 1) hx hb d_fmeet_33 (by decide) ?_
      refine va_zast hx hb hK hP hD hS 2 1 rfl rfl (i := (16 * p0) + p1) i_3 d_fmeet_34 (fun H locs hP hD hS => ?_)
      have hP : va_P D vwCl (ld_oW f fo ++ ld_sW f cI cZ (fs.1, upd fs.2 (((16 * p0) + p1).toNatClampNeg) (vp_nar .boolean 1))) H := hP
      have hD : va_D A (ld_oW f fo ++ ld_sW f cI cZ (fs.1, upd fs.2 (((16 * p0) + p1).toNatClampNeg) (vp_nar .boolean 1))) := hD
      refine lv_aload_n hx hb d_fmeet_35 rfl (lv_at hl 0 rfl) ?_
      refine va_get (D := D) (ci := 7) (v := .ref (f 10)) (C := "LoanDeskModel") (T := T_Ref) (N := 14) hx hb hg u_Ref hown hK hP 0 rfl rfl 11 (by decide) (hg _ k_381) (fun _ h9 => h9) rfl d_fmeet_36 ?_
      refine lv_aload_n hx hb d_fmeet_39 rfl (lv_at hl 0 rfl) ?_
      refine va_get (D := D) (ci := 7) (v := .int fo.2.2) (C := "LoanDeskModel") (T := T_Ref) (N := 14) hx hb hg u_Ref hown hK hP 0 rfl rfl 13 (by decide) (hg _ k_383) (fun _ h9 => h9) rfl d_fmeet_40 ?_
      refine lv_bipush (v := 16) hx hb d_fmeet_43 (by decide) ?_
      refine lv_iload_n hx hb d_fmeet_45 rfl (lv_at hl 1 rfl) ?_
      refine lv_imul hx hb d_fmeet_46 ?_
      refine lv_iload_n hx hb d_fmeet_47 rfl (lv_at hl 2 rfl) ?_
      refine lv_iadd hx hb d_fmeet_48 ?_
      obtain ⟨i_5, h⟩ := ld_grd h
      refine va_iast hx hb hK hP hD hS 1 0 rfl rfl (i := fo.2.2) i_5 d_fmeet_49 (fun H locs hP hD hS => ?_)
      have hP : va_P D vwCl (ld_oW f fo ++ ld_sW f cI cZ (upd fs.1 fo.2.2.toNatClampNeg ((16 * p0) + p1), upd fs.2 (((16 * p0) + p1).toNatClampNeg) (vp_nar .boolean 1))) H := hP
      have hD : va_D A (ld_oW f fo ++ ld_sW f cI cZ (upd fs.1 fo.2.2.toNatClampNeg ((16 * p0) + p1), upd fs.2 (((16 * p0) + p1).toNatClampNeg) (vp_nar .boolean 1))) := hD
      refine lv_aload_n hx hb d_fmeet_50 rfl (lv_at hl 0 rfl) ?_
      refine lv_dup hx hb d_fmeet_51 rfl ?_
      refine va_get (D := D) (ci := 7) (v := .int fo.2.2) (C := "LoanDeskModel") (T := T_Ref) (N := 14) hx hb hg u_Ref hown hK hP 0 rfl rfl 13 (by decide) (hg _ k_383) (fun _ h9 => h9) rfl d_fmeet_52 ?_
      refine lv_iconst (v := 1) hx hb d_fmeet_55 (by decide) ?_
      refine lv_iadd hx hb d_fmeet_56 ?_
      refine va_put (D := D) (ci := 7) (v := .int (fo.2.2 + 1)) (ty := .int) (C := "LoanDeskModel") (T := T_Ref) (N := 14) hx hb hg u_Ref t_Ref tk_Ref n_Ref hown hK hP hD hS 0 rfl rfl 13 (by decide) (hg _ k_383) (fun _ h9 => h9) rfl (by decide +kernel) rfl rfl (Nat.le_of_ble_eq_true rfl) d_fmeet_57 (fun H locs hP hD hS => ?_)
      have hP : va_P D vwCl (ld_oW f (fo.1, fo.2.1, fo.2.2 + 1) ++ ld_sW f cI cZ (upd fs.1 fo.2.2.toNatClampNeg ((16 * p0) + p1), upd fs.2 (((16 * p0) + p1).toNatClampNeg) (vp_nar .boolean 1))) H := hP
      have hD : va_D A (ld_oW f (fo.1, fo.2.1, fo.2.2 + 1) ++ ld_sW f cI cZ (upd fs.1 fo.2.2.toNatClampNeg ((16 * p0) + p1), upd fs.2 (((16 * p0) + p1).toNatClampNeg) (vp_nar .boolean 1))) := hD
      have h := Option.some.inj h
      subst h
      exact W.vret hx hb hr (fun t ht hW => ⟨⟨(), rfl, trivial, by rw [ht]; exact hP, hD⟩, hS.F ht⟩) hS.2.2 d_fmeet_60
    · have h := (if_neg c_4).symm.trans h
      have h := Option.some.inj h
      subst h
      exact W.vret hx hb hr (fun t ht hW => ⟨⟨(), rfl, trivial, by rw [ht]; exact hP, hD⟩, hS.F ht⟩) hS.2.2 d_fmeet_22
def lm_fchanges (N : Nat) (fo : Int32 × Int32 × Int32) (fb : ld_bT) (p0 : Int32) (p1 : Int32) : Option (Int32) := if ld_in p0 120 = true then (if (fb.1 p0.toNatClampNeg) < 1 then some 0 else if 3 < (fb.1 p0.toNatClampNeg) then some 0 else if (fb.2.1 p0.toNatClampNeg) = p1 then some 1 else some 0) else none
set_option maxHeartbeats 4000000 in
set_option maxRecDepth 100000 in
theorem lc_fchanges (l : Launch) (D : va_G) (cI cZ cJ : ClassId) (f : Nat → Nat) (fo : Int32 × Int32 × Int32) (fb : ld_bT) (p0 : Int32) (p1 : Int32) (N : Nat) (R : Int32) (h : lm_fchanges N fo fb p0 p1 = some R) : Met l y_fchanges (Cond.code y_fchanges prog_9_method_9_code 3 (some .boolean) :: bgT) ({ frames := 0, cells := 0, slots := 0, locals := 0 }) (ld_PR D cI cZ cJ (ld_oW f fo ++ ld_bW f cI fb) [.ref (f 0), .int p0, .int p1]) (vp_Si (fun z => z = R)) 0 0 (fun _ => False) := by
  refine Met.ofW (cc := prog_9_method_9_code) (maxL := 3) (ret := (some .boolean)) (by decide) rfl ?_
  intro p e s m args below meth c s₁ B hml hv
  obtain ⟨rfl, hP, hK, hN⟩ := hv
  have hx := B.exec
  have hb := B.bytes
  have hr := B.returns
  have hg : ∀ w ∈ bgT, w.before _ s = true := fun w h => atoms_spec (ws := (Cond.code y_fchanges prog_9_method_9_code 3 (some .boolean) :: bgT)) B.pre w (List.mem_cons_of_mem _ h)
  have hown : s.vm.findClass "LoanDeskModel" = some m.cls := findClass_of_methodNamed B.named
  have hlocks := B.notSynchronized
  have hl := lv_entry ([.ref (f 0), .int p0, .int p1]) (n := 3) (Nat.le_of_ble_eq_true rfl)
  rw [lg_entry_eq]
  generalize (lg_sl ([.ref (f 0), .int p0, .int p1]) ++ List.replicate (3 - (lg_sl ([.ref (f 0), .int p0, .int p1])).length) Slot.unset).toArray = ls at hl ⊢
  have hl : lv_has ls 3 [(0, .ref (f 0)), (1, .int p0), (2, .int p1)] := hl
  refine lv_aload_n hx hb d_fchanges_0 rfl (lv_at hl 0 rfl) ?_
  refine va_get (D := D) (ci := 7) (v := .ref (f 1)) (C := "LoanDeskModel") (T := T_Ref) (N := 14) hx hb hg u_Ref hown hK hP 0 rfl rfl 1 (by decide) (hg _ k_371) (fun _ h9 => h9) rfl d_fchanges_1 ?_
  refine lv_iload_n hx hb d_fchanges_4 rfl (lv_at hl 1 rfl) ?_
  obtain ⟨i_1, h⟩ := ld_grd h
  refine va_iald hx hb hK hP 1 0 rfl rfl (i := p0) i_1 d_fchanges_5 ?_
  refine lv_iconst (v := 1) hx hb d_fchanges_6 (by decide) ?_
  refine lv_icmp_lt (tgt := 34) hx hb d_fchanges_7 (by decide) (fun c_2 => ?_) (fun c_2 => ?_)
  · have h := (if_pos c_2).symm.trans h
    refine lv_iconst (v := 0) hx hb d_fchanges_34 (by decide) ?_
    have h := Option.some.inj h
    exact W.zret (v := 0) hx hb hr rfl (fun t ht hW => ⟨_, rfl, h, ht⟩) (fun _ q => by cases q) d_fchanges_35
  · have h := (if_neg c_2).symm.trans h
    refine lv_aload_n hx hb d_fchanges_10 rfl (lv_at hl 0 rfl) ?_
    refine va_get (D := D) (ci := 7) (v := .ref (f 1)) (C := "LoanDeskModel") (T := T_Ref) (N := 14) hx hb hg u_Ref hown hK hP 0 rfl rfl 1 (by decide) (hg _ k_371) (fun _ h9 => h9) rfl d_fchanges_11 ?_
    refine lv_iload_n hx hb d_fchanges_14 rfl (lv_at hl 1 rfl) ?_
    refine va_iald hx hb hK hP 1 0 rfl rfl (i := p0) i_1 d_fchanges_15 ?_
    refine lv_iconst (v := 3) hx hb d_fchanges_16 (by decide) ?_
    refine lv_icmp_gt (tgt := 34) hx hb d_fchanges_17 (by decide) (fun c_3 => ?_) (fun c_3 => ?_)
    · have h := (if_pos c_3).symm.trans h
      refine lv_iconst (v := 0) hx hb d_fchanges_34 (by decide) ?_
      have h := Option.some.inj h
      exact W.zret (v := 0) hx hb hr rfl (fun t ht hW => ⟨_, rfl, h, ht⟩) (fun _ q => by cases q) d_fchanges_35
    · have h := (if_neg c_3).symm.trans h
      refine lv_aload_n hx hb d_fchanges_20 rfl (lv_at hl 0 rfl) ?_
      refine va_get (D := D) (ci := 7) (v := .ref (f 2)) (C := "LoanDeskModel") (T := T_Ref) (N := 14) hx hb hg u_Ref hown hK hP 0 rfl rfl 2 (by decide) (hg _ k_372) (fun _ h9 => h9) rfl d_fchanges_21 ?_
      refine lv_iload_n hx hb d_fchanges_24 rfl (lv_at hl 1 rfl) ?_
      refine va_iald hx hb hK hP 2 0 rfl rfl (i := p0) i_1 d_fchanges_25 ?_
      refine lv_iload_n hx hb d_fchanges_26 rfl (lv_at hl 2 rfl) ?_
      refine lv_icmp_ne (tgt := 34) hx hb d_fchanges_27 (by decide) (fun c_4 => ?_) (fun c_4 => ?_)
      · have h := (if_neg c_4).symm.trans h
        refine lv_iconst (v := 0) hx hb d_fchanges_34 (by decide) ?_
        have h := Option.some.inj h
        exact W.zret (v := 0) hx hb hr rfl (fun t ht hW => ⟨_, rfl, h, ht⟩) (fun _ q => by cases q) d_fchanges_35
      · have h := (if_pos c_4).symm.trans h
        refine lv_iconst (v := 1) hx hb d_fchanges_30 (by decide) ?_
        refine lv_goto (tgt := 35) hx hb d_fchanges_31 (by decide) ?_
        have h := Option.some.inj h
        exact W.zret (v := 1) hx hb hr rfl (fun t ht hW => ⟨_, rfl, h, ht⟩) (fun _ q => by cases q) d_fchanges_35
def lm_fuses (N : Nat) (fo : Int32 × Int32 × Int32) (fb : ld_bT) (p0 : Int32) (p1 : Int32) : Option (Int32) := if ld_in p0 120 = true then (if (fb.1 p0.toNatClampNeg) = 4 then if (fb.2.1 p0.toNatClampNeg) = p1 then some 1 else if (fb.1 p0.toNatClampNeg) = 2 then if (fb.2.2.1 p0.toNatClampNeg) = p1 then some 1 else some 0 else some 0 else if (fb.1 p0.toNatClampNeg) = 2 then if (fb.2.2.1 p0.toNatClampNeg) = p1 then some 1 else some 0 else some 0) else none
set_option maxHeartbeats 4000000 in
set_option maxRecDepth 100000 in
theorem lc_fuses (l : Launch) (D : va_G) (cI cZ cJ : ClassId) (f : Nat → Nat) (fo : Int32 × Int32 × Int32) (fb : ld_bT) (p0 : Int32) (p1 : Int32) (N : Nat) (R : Int32) (h : lm_fuses N fo fb p0 p1 = some R) : Met l y_fuses (Cond.code y_fuses prog_9_method_10_code 3 (some .boolean) :: bgT) ({ frames := 0, cells := 0, slots := 0, locals := 0 }) (ld_PR D cI cZ cJ (ld_oW f fo ++ ld_bW f cI fb) [.ref (f 0), .int p0, .int p1]) (vp_Si (fun z => z = R)) 0 0 (fun _ => False) := by
  refine Met.ofW (cc := prog_9_method_10_code) (maxL := 3) (ret := (some .boolean)) (by decide) rfl ?_
  intro p e s m args below meth c s₁ B hml hv
  obtain ⟨rfl, hP, hK, hN⟩ := hv
  have hx := B.exec
  have hb := B.bytes
  have hr := B.returns
  have hg : ∀ w ∈ bgT, w.before _ s = true := fun w h => atoms_spec (ws := (Cond.code y_fuses prog_9_method_10_code 3 (some .boolean) :: bgT)) B.pre w (List.mem_cons_of_mem _ h)
  have hown : s.vm.findClass "LoanDeskModel" = some m.cls := findClass_of_methodNamed B.named
  have hlocks := B.notSynchronized
  have hl := lv_entry ([.ref (f 0), .int p0, .int p1]) (n := 3) (Nat.le_of_ble_eq_true rfl)
  rw [lg_entry_eq]
  generalize (lg_sl ([.ref (f 0), .int p0, .int p1]) ++ List.replicate (3 - (lg_sl ([.ref (f 0), .int p0, .int p1])).length) Slot.unset).toArray = ls at hl ⊢
  have hl : lv_has ls 3 [(0, .ref (f 0)), (1, .int p0), (2, .int p1)] := hl
  refine lv_aload_n hx hb d_fuses_0 rfl (lv_at hl 0 rfl) ?_
  refine va_get (D := D) (ci := 7) (v := .ref (f 1)) (C := "LoanDeskModel") (T := T_Ref) (N := 14) hx hb hg u_Ref hown hK hP 0 rfl rfl 1 (by decide) (hg _ k_371) (fun _ h9 => h9) rfl d_fuses_1 ?_
  refine lv_iload_n hx hb d_fuses_4 rfl (lv_at hl 1 rfl) ?_
  obtain ⟨i_1, h⟩ := ld_grd h
  refine va_iald hx hb hK hP 1 0 rfl rfl (i := p0) i_1 d_fuses_5 ?_
  refine lv_iconst (v := 4) hx hb d_fuses_6 (by decide) ?_
  refine lv_icmp_ne (tgt := 20) hx hb d_fuses_7 (by decide) (fun c_2 => ?_) (fun c_2 => ?_)
  · have h := (if_neg c_2).symm.trans h
    refine lv_aload_n hx hb d_fuses_20 rfl (lv_at hl 0 rfl) ?_
    refine va_get (D := D) (ci := 7) (v := .ref (f 1)) (C := "LoanDeskModel") (T := T_Ref) (N := 14) hx hb hg u_Ref hown hK hP 0 rfl rfl 1 (by decide) (hg _ k_371) (fun _ h9 => h9) rfl d_fuses_21 ?_
    refine lv_iload_n hx hb d_fuses_24 rfl (lv_at hl 1 rfl) ?_
    refine va_iald hx hb hK hP 1 0 rfl rfl (i := p0) i_1 d_fuses_25 ?_
    refine lv_iconst (v := 2) hx hb d_fuses_26 (by decide) ?_
    refine lv_icmp_ne (tgt := 44) hx hb d_fuses_27 (by decide) (fun c_3 => ?_) (fun c_3 => ?_)
    · have h := (if_neg c_3).symm.trans h
      refine lv_iconst (v := 0) hx hb d_fuses_44 (by decide) ?_
      have h := Option.some.inj h
      exact W.zret (v := 0) hx hb hr rfl (fun t ht hW => ⟨_, rfl, h, ht⟩) (fun _ q => by cases q) d_fuses_45
    · have h := (if_pos c_3).symm.trans h
      refine lv_aload_n hx hb d_fuses_30 rfl (lv_at hl 0 rfl) ?_
      refine va_get (D := D) (ci := 7) (v := .ref (f 3)) (C := "LoanDeskModel") (T := T_Ref) (N := 14) hx hb hg u_Ref hown hK hP 0 rfl rfl 3 (by decide) (hg _ k_373) (fun _ h9 => h9) rfl d_fuses_31 ?_
      refine lv_iload_n hx hb d_fuses_34 rfl (lv_at hl 1 rfl) ?_
      refine va_iald hx hb hK hP 3 0 rfl rfl (i := p0) i_1 d_fuses_35 ?_
      refine lv_iload_n hx hb d_fuses_36 rfl (lv_at hl 2 rfl) ?_
      refine lv_icmp_ne (tgt := 44) hx hb d_fuses_37 (by decide) (fun c_4 => ?_) (fun c_4 => ?_)
      · have h := (if_neg c_4).symm.trans h
        refine lv_iconst (v := 0) hx hb d_fuses_44 (by decide) ?_
        have h := Option.some.inj h
        exact W.zret (v := 0) hx hb hr rfl (fun t ht hW => ⟨_, rfl, h, ht⟩) (fun _ q => by cases q) d_fuses_45
      · have h := (if_pos c_4).symm.trans h
        refine lv_iconst (v := 1) hx hb d_fuses_40 (by decide) ?_
        refine lv_goto (tgt := 45) hx hb d_fuses_41 (by decide) ?_
        have h := Option.some.inj h
        exact W.zret (v := 1) hx hb hr rfl (fun t ht hW => ⟨_, rfl, h, ht⟩) (fun _ q => by cases q) d_fuses_45
  · have h := (if_pos c_2).symm.trans h
    refine lv_aload_n hx hb d_fuses_10 rfl (lv_at hl 0 rfl) ?_
    refine va_get (D := D) (ci := 7) (v := .ref (f 2)) (C := "LoanDeskModel") (T := T_Ref) (N := 14) hx hb hg u_Ref hown hK hP 0 rfl rfl 2 (by decide) (hg _ k_372) (fun _ h9 => h9) rfl d_fuses_11 ?_
    refine lv_iload_n hx hb d_fuses_14 rfl (lv_at hl 1 rfl) ?_
    refine va_iald hx hb hK hP 2 0 rfl rfl (i := p0) i_1 d_fuses_15 ?_
    refine lv_iload_n hx hb d_fuses_16 rfl (lv_at hl 2 rfl) ?_
    refine lv_icmp_eq (tgt := 40) hx hb d_fuses_17 (by decide) (fun c_5 => ?_) (fun c_5 => ?_)
    · have h := (if_pos c_5).symm.trans h
      refine lv_iconst (v := 1) hx hb d_fuses_40 (by decide) ?_
      refine lv_goto (tgt := 45) hx hb d_fuses_41 (by decide) ?_
      have h := Option.some.inj h
      exact W.zret (v := 1) hx hb hr rfl (fun t ht hW => ⟨_, rfl, h, ht⟩) (fun _ q => by cases q) d_fuses_45
    · have h := (if_neg c_5).symm.trans h
      refine lv_aload_n hx hb d_fuses_20 rfl (lv_at hl 0 rfl) ?_
      refine va_get (D := D) (ci := 7) (v := .ref (f 1)) (C := "LoanDeskModel") (T := T_Ref) (N := 14) hx hb hg u_Ref hown hK hP 0 rfl rfl 1 (by decide) (hg _ k_371) (fun _ h9 => h9) rfl d_fuses_21 ?_
      refine lv_iload_n hx hb d_fuses_24 rfl (lv_at hl 1 rfl) ?_
      refine va_iald hx hb hK hP 1 0 rfl rfl (i := p0) i_1 d_fuses_25 ?_
      refine lv_iconst (v := 2) hx hb d_fuses_26 (by decide) ?_
      refine lv_icmp_ne (tgt := 44) hx hb d_fuses_27 (by decide) (fun c_6 => ?_) (fun c_6 => ?_)
      · have h := (if_neg c_6).symm.trans h
        refine lv_iconst (v := 0) hx hb d_fuses_44 (by decide) ?_
        have h := Option.some.inj h
        exact W.zret (v := 0) hx hb hr rfl (fun t ht hW => ⟨_, rfl, h, ht⟩) (fun _ q => by cases q) d_fuses_45
      · have h := (if_pos c_6).symm.trans h
        refine lv_aload_n hx hb d_fuses_30 rfl (lv_at hl 0 rfl) ?_
        refine va_get (D := D) (ci := 7) (v := .ref (f 3)) (C := "LoanDeskModel") (T := T_Ref) (N := 14) hx hb hg u_Ref hown hK hP 0 rfl rfl 3 (by decide) (hg _ k_373) (fun _ h9 => h9) rfl d_fuses_31 ?_
        refine lv_iload_n hx hb d_fuses_34 rfl (lv_at hl 1 rfl) ?_
        refine va_iald hx hb hK hP 3 0 rfl rfl (i := p0) i_1 d_fuses_35 ?_
        refine lv_iload_n hx hb d_fuses_36 rfl (lv_at hl 2 rfl) ?_
        refine lv_icmp_ne (tgt := 44) hx hb d_fuses_37 (by decide) (fun c_7 => ?_) (fun c_7 => ?_)
        · have h := (if_neg c_7).symm.trans h
          refine lv_iconst (v := 0) hx hb d_fuses_44 (by decide) ?_
          have h := Option.some.inj h
          exact W.zret (v := 0) hx hb hr rfl (fun t ht hW => ⟨_, rfl, h, ht⟩) (fun _ q => by cases q) d_fuses_45
        · have h := (if_pos c_7).symm.trans h
          refine lv_iconst (v := 1) hx hb d_fuses_40 (by decide) ?_
          refine lv_goto (tgt := 45) hx hb d_fuses_41 (by decide) ?_
          have h := Option.some.inj h
          exact W.zret (v := 1) hx hb hr rfl (fun t ht hW => ⟨_, rfl, h, ht⟩) (fun _ q => by cases q) d_fuses_45
def lm_fthrough (N : Nat) (fo : Int32 × Int32 × Int32) (fb : ld_bT) (fs : ld_sT) (p0 : Int32) (p1 : Int32) : Option ((Int32 × Int32 × Int32) × ld_sT) := ld_lt (lf_fIsPoint fo p0) (fun r_1 => if r_1 = 0 then some (fo, fs) else Option.bind (lm_fchanges N fo fb p0 p1) (fun r_3 => if r_3 = 0 then (Option.bind (lm_fmeet N fo fs p0 p1) (fun r_9 => if ld_in p0 120 = true then (if (fb.1 p0.toNatClampNeg) = 2 then if (fb.2.2.1 p0.toNatClampNeg) = p1 then Option.bind (lm_fmeet N r_9.1 r_9.2 p0 (fb.2.1 p0.toNatClampNeg)) (fun r_13 => some (r_13.1, r_13.2)) else some (r_9.1, r_9.2) else some (r_9.1, r_9.2)) else none)) else if ld_in p0 120 = true then (if (fb.1 p0.toNatClampNeg) = 2 then if (fb.2.2.1 p0.toNatClampNeg) = p1 then Option.bind (lm_fmeet N fo fs p0 (fb.2.1 p0.toNatClampNeg)) (fun r_8 => some (r_8.1, r_8.2)) else some (fo, fs) else some (fo, fs)) else none))
set_option maxHeartbeats 4000000 in
set_option maxRecDepth 100000 in
theorem lc_fthrough (l : Launch) (D : va_G) (cI cZ cJ : ClassId) (f : Nat → Nat) (fo : Int32 × Int32 × Int32) (fb : ld_bT) (fs : ld_sT) (p0 : Int32) (p1 : Int32) (sz : Nat) (N : Nat) (R : (Int32 × Int32 × Int32) × ld_sT) (h : lm_fthrough N fo fb fs p0 p1 = some R) : Met l y_fthrough (Cond.code y_fthrough prog_9_method_11_code 3 none :: bgT) ({ frames := 2, cells := 0, slots := 0, locals := 43 }) (ld_PM D cI cZ cJ (ld_oW f fo ++ ld_bW f cI fb ++ ld_sW f cI cZ fs) sz [.ref (f 0), .int p0, .int p1]) (ld_QV D (ld_oW f R.1 ++ ld_bW f cI fb ++ ld_sW f cI cZ R.2) (va_A (ld_oW f fo ++ ld_bW f cI fb ++ ld_sW f cI cZ fs) sz)) 0 0 ((va_A (ld_oW f fo ++ ld_bW f cI fb ++ ld_sW f cI cZ fs) sz)) := by
  refine Met.ofW (cc := prog_9_method_11_code) (maxL := 3) (ret := none) (by decide) rfl ?_
  intro p e s m args below meth c s₁ B hml hv
  obtain ⟨rfl, hsz, hP, hK, hD0, hN⟩ := hv
  have hx := B.exec
  have hb := B.bytes
  have hr := B.returns
  have hg : ∀ w ∈ bgT, w.before _ s = true := fun w h => atoms_spec (ws := (Cond.code y_fthrough prog_9_method_11_code 3 none :: bgT)) B.pre w (List.mem_cons_of_mem _ h)
  have hown : s.vm.findClass "LoanDeskModel" = some m.cls := findClass_of_methodNamed B.named
  have hlocks := B.notSynchronized
  subst hsz
  have hD := hD0.self (sz := s.heap.size)
  generalize hAe : va_A (ld_oW f fo ++ ld_bW f cI fb ++ ld_sW f cI cZ fs) s.heap.size = A at hD ⊢
  have hA : ∀ q : Nat, s.heap.size ≤ q → A q := fun q h => by rw [← hAe]; exact Or.inr h
  have hS : va_S A s.heap s.heap [] := va_S.rf
  have hl := lv_entry ([.ref (f 0), .int p0, .int p1]) (n := 3) (Nat.le_of_ble_eq_true rfl)
  rw [lg_entry_eq]
  generalize (lg_sl ([.ref (f 0), .int p0, .int p1]) ++ List.replicate (3 - (lg_sl ([.ref (f 0), .int p0, .int p1])).length) Slot.unset).toArray = ls at hl ⊢
  have hl : lv_has ls 3 [(0, .ref (f 0)), (1, .int p0), (2, .int p1)] := hl
  refine lv_aload_n hx hb d_fthrough_0 rfl (lv_at hl 0 rfl) ?_
  refine lv_iload_n hx hb d_fthrough_1 rfl (lv_at hl 1 rfl) ?_
  obtain ⟨r_1, e_1, h⟩ := ld_nm h
  refine ld_rd (W.runV (As := [.int p0]) (rest := []) ⟨hx, hb, hml, hown, hg⟩ (lc_fIsPoint l D cI cZ cJ f fo p0 r_1 e_1) ⟨callB_of 1 hg (ld_gd k_427) rfl rfl rfl (hg _ k_30) (hg _ k_425) hd_fIsPoint ⟨Nat.le_of_ble_eq_true rfl, Nat.le_of_ble_eq_true rfl⟩, hg _ k_426, hg _ k_15⟩ (ld_preRV hP hK hN [0] rfl 7 0 rfl rfl) rfl rfl hl.1 rfl (lv_room (Nat.le_of_ble_eq_true rfl)) d_fthrough_2 ⟨Nat.zero_le _, Nat.zero_le _⟩) ?_
  refine lv_if_ne (tgt := 9) hx hb d_fthrough_5 (by decide) (fun c_2 => ?_) (fun c_2 => ?_)
  · have h := (if_neg c_2).symm.trans h
    refine lv_aload_n hx hb d_fthrough_9 rfl (lv_at hl 0 rfl) ?_
    refine lv_iload_n hx hb d_fthrough_10 rfl (lv_at hl 1 rfl) ?_
    refine lv_iload_n hx hb d_fthrough_11 rfl (lv_at hl 2 rfl) ?_
    obtain ⟨r_3, e_3, h⟩ := ld_ob h
    refine ld_rd (W.runV (As := [.int p0, .int p1]) (rest := []) ⟨hx, hb, hml, hown, hg⟩ (lc_fchanges l D cI cZ cJ f fo fb p0 p1 N r_3 e_3) ⟨callB_of 2 hg (ld_gd k_436) rfl rfl rfl (hg _ k_30) (hg _ k_434) hd_fchanges ⟨Nat.le_of_ble_eq_true rfl, Nat.le_of_ble_eq_true rfl⟩, hg _ k_435, hg _ k_18⟩ (ld_preRV hP hK hN [0, 1, 2, 3, 4, 5, 6] rfl 7 0 rfl rfl) rfl rfl hl.1 rfl (lv_room (Nat.le_of_ble_eq_true rfl)) d_fthrough_12 ⟨Nat.zero_le _, Nat.zero_le _⟩) ?_
    refine lv_if_ne (tgt := 24) hx hb d_fthrough_15 (by decide) (fun c_4 => ?_) (fun c_4 => ?_)
    · have h := (if_neg c_4).symm.trans h
      refine lv_aload_n hx hb d_fthrough_24 rfl (lv_at hl 0 rfl) ?_
      refine va_get (D := D) (ci := 7) (v := .ref (f 1)) (C := "LoanDeskModel") (T := T_Ref) (N := 14) hx hb hg u_Ref hown hK hP 0 rfl rfl 1 (by decide) (hg _ k_371) (fun _ h9 => h9) rfl d_fthrough_25 ?_
      refine lv_iload_n hx hb d_fthrough_28 rfl (lv_at hl 1 rfl) ?_
      obtain ⟨i_5, h⟩ := ld_grd h
      refine va_iald hx hb hK hP 1 0 rfl rfl (i := p0) i_5 d_fthrough_29 ?_
      refine lv_iconst (v := 2) hx hb d_fthrough_30 (by decide) ?_
      refine lv_icmp_ne (tgt := 55) hx hb d_fthrough_31 (by decide) (fun c_6 => ?_) (fun c_6 => ?_)
      · have h := (if_neg c_6).symm.trans h
        have h := Option.some.inj h
        subst h
        exact W.vret hx hb hr (fun t ht hW => ⟨⟨(), rfl, trivial, by rw [ht]; exact hP, hD⟩, hS.F ht⟩) hS.2.2 d_fthrough_55
      · have h := (if_pos c_6).symm.trans h
        refine lv_aload_n hx hb d_fthrough_34 rfl (lv_at hl 0 rfl) ?_
        refine va_get (D := D) (ci := 7) (v := .ref (f 3)) (C := "LoanDeskModel") (T := T_Ref) (N := 14) hx hb hg u_Ref hown hK hP 0 rfl rfl 3 (by decide) (hg _ k_373) (fun _ h9 => h9) rfl d_fthrough_35 ?_
        refine lv_iload_n hx hb d_fthrough_38 rfl (lv_at hl 1 rfl) ?_
        refine va_iald hx hb hK hP 3 0 rfl rfl (i := p0) i_5 d_fthrough_39 ?_
        refine lv_iload_n hx hb d_fthrough_40 rfl (lv_at hl 2 rfl) ?_
        refine lv_icmp_ne (tgt := 55) hx hb d_fthrough_41 (by decide) (fun c_7 => ?_) (fun c_7 => ?_)
        · have h := (if_neg c_7).symm.trans h
          have h := Option.some.inj h
          subst h
          exact W.vret hx hb hr (fun t ht hW => ⟨⟨(), rfl, trivial, by rw [ht]; exact hP, hD⟩, hS.F ht⟩) hS.2.2 d_fthrough_55
        · have h := (if_pos c_7).symm.trans h
          refine lv_aload_n hx hb d_fthrough_44 rfl (lv_at hl 0 rfl) ?_
          refine lv_iload_n hx hb d_fthrough_45 rfl (lv_at hl 1 rfl) ?_
          refine lv_aload_n hx hb d_fthrough_46 rfl (lv_at hl 0 rfl) ?_
          refine va_get (D := D) (ci := 7) (v := .ref (f 2)) (C := "LoanDeskModel") (T := T_Ref) (N := 14) hx hb hg u_Ref hown hK hP 0 rfl rfl 2 (by decide) (hg _ k_372) (fun _ h9 => h9) rfl d_fthrough_47 ?_
          refine lv_iload_n hx hb d_fthrough_50 rfl (lv_at hl 1 rfl) ?_
          refine va_iald hx hb hK hP 2 0 rfl rfl (i := p0) i_5 d_fthrough_51 ?_
          obtain ⟨r_8, e_8, h⟩ := ld_ob h
          refine ld_mv (wr := ([1, 2, 3, 4, 5, 6] : List Nat).filterMap (fun i => (ld_oW f fo ++ ld_bW f cI fb ++ ld_sW f cI cZ fs)[i]?)) (ws2 := ld_oW f r_8.1 ++ ld_bW f cI fb ++ ld_sW f cI cZ r_8.2) (va_runV (As := [.int p0, .int (fb.2.1 p0.toNatClampNeg)]) (rest := []) ⟨hx, hb, hml, hown, hg⟩ (lc_fmeet l D cI cZ cJ f fo fs p0 (fb.2.1 p0.toNatClampNeg) _ N r_8 e_8) ⟨callB_of 2 hg (ld_gd k_424) rfl rfl rfl (hg _ k_30) (hg _ k_422) hd_fmeet ⟨Nat.le_of_ble_eq_true rfl, Nat.le_of_ble_eq_true rfl⟩, hg _ k_423, hg _ k_14⟩ (ld_preMV hP hK hN hD [0, 7, 8] (by decide) rfl 7 0 rfl rfl) rfl rfl hl.1 rfl (lv_room (Nat.le_of_ble_eq_true rfl)) d_fthrough_52 ⟨Nat.zero_le _, Nat.zero_le _⟩) hP hD hS hA [0, 7, 8] [1, 2, 3, 4, 5, 6] [6, 0, 1, 2, 3, 4, 5, 7, 8] rfl rfl (by decide) (by decide) (by decide) rfl (fun H locs hP hD hS => ?_)
          have h := Option.some.inj h
          subst h
          exact W.vret hx hb hr (fun t ht hW => ⟨⟨(), rfl, trivial, by rw [ht]; exact hP, hD⟩, hS.F ht⟩) hS.2.2 d_fthrough_55
    · have h := (if_pos c_4).symm.trans h
      refine lv_aload_n hx hb d_fthrough_18 rfl (lv_at hl 0 rfl) ?_
      refine lv_iload_n hx hb d_fthrough_19 rfl (lv_at hl 1 rfl) ?_
      refine lv_iload_n hx hb d_fthrough_20 rfl (lv_at hl 2 rfl) ?_
      obtain ⟨r_9, e_9, h⟩ := ld_ob h
      refine ld_mv (wr := ([1, 2, 3, 4, 5, 6] : List Nat).filterMap (fun i => (ld_oW f fo ++ ld_bW f cI fb ++ ld_sW f cI cZ fs)[i]?)) (ws2 := ld_oW f r_9.1 ++ ld_bW f cI fb ++ ld_sW f cI cZ r_9.2) (va_runV (As := [.int p0, .int p1]) (rest := []) ⟨hx, hb, hml, hown, hg⟩ (lc_fmeet l D cI cZ cJ f fo fs p0 p1 _ N r_9 e_9) ⟨callB_of 2 hg (ld_gd k_424) rfl rfl rfl (hg _ k_30) (hg _ k_422) hd_fmeet ⟨Nat.le_of_ble_eq_true rfl, Nat.le_of_ble_eq_true rfl⟩, hg _ k_423, hg _ k_14⟩ (ld_preMV hP hK hN hD [0, 7, 8] (by decide) rfl 7 0 rfl rfl) rfl rfl hl.1 rfl (lv_room (Nat.le_of_ble_eq_true rfl)) d_fthrough_21 ⟨Nat.zero_le _, Nat.zero_le _⟩) hP hD hS hA [0, 7, 8] [1, 2, 3, 4, 5, 6] [6, 0, 1, 2, 3, 4, 5, 7, 8] rfl rfl (by decide) (by decide) (by decide) rfl (fun H locs hP hD hS => ?_)
      refine lv_aload_n hx hb d_fthrough_24 rfl (lv_at hl 0 rfl) ?_
      refine va_get (D := D) (ci := 7) (v := .ref (f 1)) (C := "LoanDeskModel") (T := T_Ref) (N := 14) hx hb hg u_Ref hown hK hP 0 rfl rfl 1 (by decide) (hg _ k_371) (fun _ h9 => h9) rfl d_fthrough_25 ?_
      refine lv_iload_n hx hb d_fthrough_28 rfl (lv_at hl 1 rfl) ?_
      obtain ⟨i_10, h⟩ := ld_grd h
      refine va_iald hx hb hK hP 1 0 rfl rfl (i := p0) i_10 d_fthrough_29 ?_
      refine lv_iconst (v := 2) hx hb d_fthrough_30 (by decide) ?_
      refine lv_icmp_ne (tgt := 55) hx hb d_fthrough_31 (by decide) (fun c_11 => ?_) (fun c_11 => ?_)
      · have h := (if_neg c_11).symm.trans h
        have h := Option.some.inj h
        subst h
        exact W.vret hx hb hr (fun t ht hW => ⟨⟨(), rfl, trivial, by rw [ht]; exact hP, hD⟩, hS.F ht⟩) hS.2.2 d_fthrough_55
      · have h := (if_pos c_11).symm.trans h
        refine lv_aload_n hx hb d_fthrough_34 rfl (lv_at hl 0 rfl) ?_
        refine va_get (D := D) (ci := 7) (v := .ref (f 3)) (C := "LoanDeskModel") (T := T_Ref) (N := 14) hx hb hg u_Ref hown hK hP 0 rfl rfl 3 (by decide) (hg _ k_373) (fun _ h9 => h9) rfl d_fthrough_35 ?_
        refine lv_iload_n hx hb d_fthrough_38 rfl (lv_at hl 1 rfl) ?_
        refine va_iald hx hb hK hP 3 0 rfl rfl (i := p0) i_10 d_fthrough_39 ?_
        refine lv_iload_n hx hb d_fthrough_40 rfl (lv_at hl 2 rfl) ?_
        refine lv_icmp_ne (tgt := 55) hx hb d_fthrough_41 (by decide) (fun c_12 => ?_) (fun c_12 => ?_)
        · have h := (if_neg c_12).symm.trans h
          have h := Option.some.inj h
          subst h
          exact W.vret hx hb hr (fun t ht hW => ⟨⟨(), rfl, trivial, by rw [ht]; exact hP, hD⟩, hS.F ht⟩) hS.2.2 d_fthrough_55
        · have h := (if_pos c_12).symm.trans h
          refine lv_aload_n hx hb d_fthrough_44 rfl (lv_at hl 0 rfl) ?_
          refine lv_iload_n hx hb d_fthrough_45 rfl (lv_at hl 1 rfl) ?_
          refine lv_aload_n hx hb d_fthrough_46 rfl (lv_at hl 0 rfl) ?_
          refine va_get (D := D) (ci := 7) (v := .ref (f 2)) (C := "LoanDeskModel") (T := T_Ref) (N := 14) hx hb hg u_Ref hown hK hP 0 rfl rfl 2 (by decide) (hg _ k_372) (fun _ h9 => h9) rfl d_fthrough_47 ?_
          refine lv_iload_n hx hb d_fthrough_50 rfl (lv_at hl 1 rfl) ?_
          refine va_iald hx hb hK hP 2 0 rfl rfl (i := p0) i_10 d_fthrough_51 ?_
          obtain ⟨r_13, e_13, h⟩ := ld_ob h
          refine ld_mv (wr := ([1, 2, 3, 4, 5, 6] : List Nat).filterMap (fun i => (ld_oW f r_9.1 ++ ld_bW f cI fb ++ ld_sW f cI cZ r_9.2)[i]?)) (ws2 := ld_oW f r_13.1 ++ ld_bW f cI fb ++ ld_sW f cI cZ r_13.2) (va_runV (As := [.int p0, .int (fb.2.1 p0.toNatClampNeg)]) (rest := []) ⟨hx, hb, hml, hown, hg⟩ (lc_fmeet l D cI cZ cJ f r_9.1 r_9.2 p0 (fb.2.1 p0.toNatClampNeg) _ N r_13 e_13) ⟨callB_of 2 hg (ld_gd k_424) rfl rfl rfl (hg _ k_30) (hg _ k_422) hd_fmeet ⟨Nat.le_of_ble_eq_true rfl, Nat.le_of_ble_eq_true rfl⟩, hg _ k_423, hg _ k_14⟩ (ld_preMV hP hK hN hD [0, 7, 8] (by decide) rfl 7 0 rfl rfl) rfl rfl hl.1 rfl (lv_room (Nat.le_of_ble_eq_true rfl)) d_fthrough_52 ⟨Nat.zero_le _, Nat.zero_le _⟩) hP hD hS hA [0, 7, 8] [1, 2, 3, 4, 5, 6] [6, 0, 1, 2, 3, 4, 5, 7, 8] rfl rfl (by decide) (by decide) (by decide) rfl (fun H locs hP hD hS => ?_)
          have h := Option.some.inj h
          subst h
          exact W.vret hx hb hr (fun t ht hW => ⟨⟨(), rfl, trivial, by rw [ht]; exact hP, hD⟩, hS.F ht⟩) hS.2.2 d_fthrough_55
  · have h := (if_pos c_2).symm.trans h
    have h := Option.some.inj h
    subst h
    exact W.vret hx hb hr (fun t ht hW => ⟨⟨(), rfl, trivial, by rw [ht]; exact hP, hD⟩, hS.F ht⟩) hS.2.2 d_fthrough_8
