def ls_fgoAll_1 (N : Nat) (fb : ld_bT) (p0 : Int32) (v1 : (Int32 × Int32 × Int32) × ld_eT × ld_sT) : Option (((Int32 × Int32 × Int32) × ld_eT × ld_sT) ⊕ ((Int32 × Int32 × Int32) × ld_eT × ld_sT)) := if v1.1.2.2 ≤ 0 then some (.inr (v1.1, v1.2.1, v1.2.2)) else if ld_in (v1.1.2.2 - 1) 1920 = true then (if ld_in ((120 * p0) + ((v1.2.2.1 (v1.1.2.2 - 1).toNatClampNeg) / 16)) 14400 = true then (if ld_in ((v1.2.2.1 (v1.1.2.2 - 1).toNatClampNeg) / 16) 120 = true then (Option.bind (lm_fthrough N (v1.1.1, v1.1.2.1, v1.1.2.2 - 1) fb v1.2.2 (fb.2.2.2.2.1 ((v1.2.2.1 (v1.1.2.2 - 1).toNatClampNeg) / 16).toNatClampNeg) ((v1.2.2.1 (v1.1.2.2 - 1).toNatClampNeg) - (v1.2.2.1 (v1.1.2.2 - 1).toNatClampNeg) / 16 * 16)) (fun r_8 => Option.bind (lm_fthrough N r_8.1 fb r_8.2 (fb.2.2.2.2.2 ((v1.2.2.1 (v1.1.2.2 - 1).toNatClampNeg) / 16).toNatClampNeg) ((v1.2.2.1 (v1.1.2.2 - 1).toNatClampNeg) - (v1.2.2.1 (v1.1.2.2 - 1).toNatClampNeg) / 16 * 16)) (fun r_9 => some (.inl (r_9.1, (v1.2.1.1, v1.2.1.2.1, upd v1.2.1.2.2 (((120 * p0) + ((v1.2.2.1 (v1.1.2.2 - 1).toNatClampNeg) / 16)).toNatClampNeg) ((v1.2.1.2.2 ((120 * p0) + ((v1.2.2.1 (v1.1.2.2 - 1).toNatClampNeg) / 16)).toNatClampNeg) ||| ((1 : Int32) <<< (((v1.2.2.1 (v1.1.2.2 - 1).toNatClampNeg) - (v1.2.2.1 (v1.1.2.2 - 1).toNatClampNeg) / 16 * 16) &&& 31)))), r_9.2))))) else none) else none) else none
def ls_fgoAll_2 (N : Nat) (fb : ld_bT) (p0 : Int32) (v2 : (Int32 × Int32 × Int32) × ld_eT × ld_sT) : Option (((Int32 × Int32 × Int32) × ld_eT × ld_sT) ⊕ ((Int32 × Int32 × Int32) × ld_eT × ld_sT)) := if v2.1.2.2 ≤ 0 then some (.inr (v2.1, v2.2.1, v2.2.2)) else if ld_in (v2.1.2.2 - 1) 1920 = true then (if ld_in ((120 * p0) + ((v2.2.2.1 (v2.1.2.2 - 1).toNatClampNeg) / 16)) 14400 = true then (if ld_in ((v2.2.2.1 (v2.1.2.2 - 1).toNatClampNeg) / 16) 120 = true then (Option.bind (lm_fthrough N (v2.1.1, v2.1.2.1, v2.1.2.2 - 1) fb v2.2.2 (fb.2.2.2.2.1 ((v2.2.2.1 (v2.1.2.2 - 1).toNatClampNeg) / 16).toNatClampNeg) ((v2.2.2.1 (v2.1.2.2 - 1).toNatClampNeg) - (v2.2.2.1 (v2.1.2.2 - 1).toNatClampNeg) / 16 * 16)) (fun r_15 => Option.bind (lm_fthrough N r_15.1 fb r_15.2 (fb.2.2.2.2.2 ((v2.2.2.1 (v2.1.2.2 - 1).toNatClampNeg) / 16).toNatClampNeg) ((v2.2.2.1 (v2.1.2.2 - 1).toNatClampNeg) - (v2.2.2.1 (v2.1.2.2 - 1).toNatClampNeg) / 16 * 16)) (fun r_16 => some (.inl (r_16.1, (v2.2.1.1, v2.2.1.2.1, upd v2.2.1.2.2 (((120 * p0) + ((v2.2.2.1 (v2.1.2.2 - 1).toNatClampNeg) / 16)).toNatClampNeg) ((v2.2.1.2.2 ((120 * p0) + ((v2.2.2.1 (v2.1.2.2 - 1).toNatClampNeg) / 16)).toNatClampNeg) ||| ((1 : Int32) <<< (((v2.2.2.1 (v2.1.2.2 - 1).toNatClampNeg) - (v2.2.2.1 (v2.1.2.2 - 1).toNatClampNeg) / 16 * 16) &&& 31)))), r_16.2))))) else none) else none) else none
def lm_fgoAll (N : Nat) (fo : Int32 × Int32 × Int32) (fb : ld_bT) (fe : ld_eT) (fs : ld_sT) (p0 : Int32) : Option ((Int32 × Int32 × Int32) × ld_eT × ld_sT) := Option.bind (lm_fforget N fo fs) (fun r_1 => if ld_in p0 120 = true then (if (fe.1 p0.toNatClampNeg) = 0 then Option.bind (ld_it (ls_fgoAll_1 N fb p0) N (r_1.1, fe, r_1.2)) (fun Y1 => some (Y1.1, Y1.2.1, Y1.2.2)) else Option.bind (lm_fmeet N r_1.1 r_1.2 p0 (fb.2.1 p0.toNatClampNeg)) (fun r_10 => Option.bind (ld_it (ls_fgoAll_2 N fb p0) N (r_10.1, fe, r_10.2)) (fun Y2 => some (Y2.1, Y2.2.1, Y2.2.2)))) else none)
set_option maxHeartbeats 4000000 in
set_option maxRecDepth 100000 in
theorem lc_fgoAll (l : Launch) (D : va_G) (cI cZ cJ : ClassId) (f : Nat → Nat) (fo : Int32 × Int32 × Int32) (fb : ld_bT) (fe : ld_eT) (fs : ld_sT) (p0 : Int32) (sz : Nat) (N : Nat) (R : (Int32 × Int32 × Int32) × ld_eT × ld_sT) (h : lm_fgoAll N fo fb fe fs p0 = some R) : Met l y_fgoAll (Cond.code y_fgoAll prog_9_method_12_code 4 none :: bgT) ({ frames := 3, cells := 0, slots := 0, locals := 65 }) (ld_PM D cI cZ cJ (ld_oW f fo ++ ld_bW f cI fb ++ ld_eW f cI cZ fe ++ ld_sW f cI cZ fs) sz [.ref (f 0), .int p0]) (ld_QV D (ld_oW f R.1 ++ ld_bW f cI fb ++ ld_eW f cI cZ R.2.1 ++ ld_sW f cI cZ R.2.2) (va_A (ld_oW f fo ++ ld_bW f cI fb ++ ld_eW f cI cZ fe ++ ld_sW f cI cZ fs) sz)) 0 0 ((va_A (ld_oW f fo ++ ld_bW f cI fb ++ ld_eW f cI cZ fe ++ ld_sW f cI cZ fs) sz)) := by
  refine Met.ofW (cc := prog_9_method_12_code) (maxL := 4) (ret := none) (by decide) rfl ?_
  intro p e s m args below meth c s₁ B hml hv
  obtain ⟨rfl, hsz, hP, hK, hD0, hN⟩ := hv
  have hx := B.exec
  have hb := B.bytes
  have hr := B.returns
  have hg : ∀ w ∈ bgT, w.before _ s = true := fun w h => atoms_spec (ws := (Cond.code y_fgoAll prog_9_method_12_code 4 none :: bgT)) B.pre w (List.mem_cons_of_mem _ h)
  have hown : s.vm.findClass "LoanDeskModel" = some m.cls := findClass_of_methodNamed B.named
  have hlocks := B.notSynchronized
  subst hsz
  have hD := hD0.self (sz := s.heap.size)
  generalize hAe : va_A (ld_oW f fo ++ ld_bW f cI fb ++ ld_eW f cI cZ fe ++ ld_sW f cI cZ fs) s.heap.size = A at hD ⊢
  have hA : ∀ q : Nat, s.heap.size ≤ q → A q := fun q h => by rw [← hAe]; exact Or.inr h
  have hS : va_S A s.heap s.heap [] := va_S.rf
  have hl := lv_entry ([.ref (f 0), .int p0]) (n := 4) (Nat.le_of_ble_eq_true rfl)
  rw [lg_entry_eq]
  generalize (lg_sl ([.ref (f 0), .int p0]) ++ List.replicate (4 - (lg_sl ([.ref (f 0), .int p0])).length) Slot.unset).toArray = ls at hl ⊢
  have hl : lv_has ls 4 [(0, .ref (f 0)), (1, .int p0)] := hl
  refine lv_aload_n hx hb d_fgoAll_0 rfl (lv_at hl 0 rfl) ?_
  obtain ⟨r_1, e_1, h⟩ := ld_ob h
  refine ld_mv (wr := ([1, 2, 3, 4, 5, 6, 7, 8, 9] : List Nat).filterMap (fun i => (ld_oW f fo ++ ld_bW f cI fb ++ ld_eW f cI cZ fe ++ ld_sW f cI cZ fs)[i]?)) (ws2 := ld_oW f r_1.1 ++ ld_bW f cI fb ++ ld_eW f cI cZ fe ++ ld_sW f cI cZ r_1.2) (va_runV (As := []) (rest := []) ⟨hx, hb, hml, hown, hg⟩ (lc_fforget l D cI cZ cJ f fo fs _ N r_1 e_1) ⟨callB_of 0 hg (ld_gd k_421) rfl rfl rfl (hg _ k_30) (hg _ k_419) hd_fforget ⟨Nat.le_of_ble_eq_true rfl, Nat.le_of_ble_eq_true rfl⟩, hg _ k_420, hg _ k_13⟩ (ld_preMV hP hK hN hD [0, 10, 11] (by decide) rfl 7 0 rfl rfl) rfl rfl hl.1 rfl (lv_room (Nat.le_of_ble_eq_true rfl)) d_fgoAll_1 ⟨Nat.zero_le _, Nat.zero_le _⟩) hP hD hS hA [0, 10, 11] [1, 2, 3, 4, 5, 6, 7, 8, 9] [9, 0, 1, 2, 3, 4, 5, 6, 7, 8, 10, 11] rfl rfl (by decide) (by decide) (by decide) rfl (fun H locs hP hD hS => ?_)
  refine lv_aload_n hx hb d_fgoAll_4 rfl (lv_at hl 0 rfl) ?_
  refine va_get (D := D) (ci := 7) (v := .ref (f 7)) (C := "LoanDeskModel") (T := T_Ref) (N := 14) hx hb hg u_Ref hown hK hP 0 rfl rfl 8 (by decide) (hg _ k_378) (fun _ h9 => h9) rfl d_fgoAll_5 ?_
  refine lv_iload_n hx hb d_fgoAll_8 rfl (lv_at hl 1 rfl) ?_
  obtain ⟨i_2, h⟩ := ld_grd h
  refine va_zald hx hb hK hP 7 1 rfl rfl (i := p0) i_2 d_fgoAll_9 ?_
  refine lv_if_eq (tgt := 24) hx hb d_fgoAll_10 (by decide) (fun c_3 => ?_) (fun c_3 => ?_)
  · have h := (if_pos c_3).symm.trans h
    obtain ⟨Y1, eY1, h⟩ := ld_ob h
    have kont1 : ∀ (H : Heap) (locs : List Loc) (ls : Array Slot), va_P D vwCl (ld_oW f Y1.1 ++ ld_bW f cI fb ++ ld_eW f cI cZ Y1.2.1 ++ ld_sW f cI cZ Y1.2.2) H → va_D A (ld_oW f Y1.1 ++ ld_bW f cI fb ++ ld_eW f cI cZ Y1.2.1 ++ ld_sW f cI cZ Y1.2.2) → va_S A s.heap H locs → lv_has ls 4 [] → W p l e (headSpec (Cond.code y_fgoAll prog_9_method_12_code 4 none :: bgT) ({ frames := 3, cells := 0, slots := 0, locals := 65 })).room s m ([.ref (f 0), .int p0] : List Value).toArray below meth c H locs 0 0 (MQ below (ld_QV D (ld_oW f R.1 ++ ld_bW f cI fb ++ ld_eW f cI cZ R.2.1 ++ ld_sW f cI cZ R.2.2) A) ([.ref (f 0), .int p0] : List Value).toArray s 0 0 (A)) (F0 m 118 ls []) := by
      intro H locs ls hP hD hS hl
      have h := Option.some.inj h
      subst h
      exact W.vret hx hb hr (fun t ht hW => ⟨⟨(), rfl, trivial, by rw [ht]; exact hP, hD⟩, hS.F ht⟩) hS.2.2 d_fgoAll_118
    have key1 : ∀ (n : Nat) (v1 : (Int32 × Int32 × Int32) × ld_eT × ld_sT) (H : Heap) (locs : List Loc) (ls : Array Slot), ld_it (ls_fgoAll_1 N fb p0) n v1 = some Y1 → va_P D vwCl (ld_oW f v1.1 ++ ld_bW f cI fb ++ ld_eW f cI cZ v1.2.1 ++ ld_sW f cI cZ v1.2.2) H → va_D A (ld_oW f v1.1 ++ ld_bW f cI fb ++ ld_eW f cI cZ v1.2.1 ++ ld_sW f cI cZ v1.2.2) → va_S A s.heap H locs → lv_has ls 4 [(0, .ref (f 0)), (1, .int p0)] → W p l e (headSpec (Cond.code y_fgoAll prog_9_method_12_code 4 none :: bgT) ({ frames := 3, cells := 0, slots := 0, locals := 65 })).room s m ([.ref (f 0), .int p0] : List Value).toArray below meth c H locs 0 0 (MQ below (ld_QV D (ld_oW f R.1 ++ ld_bW f cI fb ++ ld_eW f cI cZ R.2.1 ++ ld_sW f cI cZ R.2.2) A) ([.ref (f 0), .int p0] : List Value).toArray s 0 0 (A)) (F0 m 24 ls []) := by
      intro n
      induction n with
      | zero => intro v1 H locs ls g1 hP hD hS hl; cases g1
      | succ n ih1 =>
        intro v1 H locs ls g1 hP hD hS hl
        obtain ⟨z1, hy1, g1⟩ := ld_its g1
        refine lv_aload_n hx hb d_fgoAll_24 rfl (lv_at hl 0 rfl) ?_
        refine va_get (D := D) (ci := 7) (v := .int v1.1.2.2) (C := "LoanDeskModel") (T := T_Ref) (N := 14) hx hb hg u_Ref hown hK hP 0 rfl rfl 13 (by decide) (hg _ k_383) (fun _ h9 => h9) rfl d_fgoAll_25 ?_
        refine lv_if_le (tgt := 118) hx hb d_fgoAll_28 (by decide) (fun c_4 => ?_) (fun c_4 => ?_)
        · have hy1 := (if_pos c_4).symm.trans hy1
          obtain rfl := Option.some.inj hy1
          obtain rfl := Option.some.inj g1
          exact kont1 _ _ _ hP hD hS (lv_sub hl [] rfl)
        · have hy1 := (if_neg c_4).symm.trans hy1
          refine lv_aload_n hx hb d_fgoAll_31 rfl (lv_at hl 0 rfl) ?_
          refine lv_dup hx hb d_fgoAll_32 rfl ?_
          refine va_get (D := D) (ci := 7) (v := .int v1.1.2.2) (C := "LoanDeskModel") (T := T_Ref) (N := 14) hx hb hg u_Ref hown hK hP 0 rfl rfl 13 (by decide) (hg _ k_383) (fun _ h9 => h9) rfl d_fgoAll_33 ?_
          refine lv_iconst (v := 1) hx hb d_fgoAll_36 (by decide) ?_
          refine lv_isub hx hb d_fgoAll_37 ?_
          refine va_put (D := D) (ci := 7) (v := .int (v1.1.2.2 - 1)) (ty := .int) (C := "LoanDeskModel") (T := T_Ref) (N := 14) hx hb hg u_Ref t_Ref tk_Ref n_Ref hown hK hP hD hS 0 rfl rfl 13 (by decide) (hg _ k_383) (fun _ h9 => h9) rfl (by decide +kernel) rfl rfl (Nat.le_of_ble_eq_true rfl) d_fgoAll_38 (fun H locs hP hD hS => ?_)
          have hP : va_P D vwCl (ld_oW f (v1.1.1, v1.1.2.1, v1.1.2.2 - 1) ++ ld_bW f cI fb ++ ld_eW f cI cZ v1.2.1 ++ ld_sW f cI cZ v1.2.2) H := hP
          have hD : va_D A (ld_oW f (v1.1.1, v1.1.2.1, v1.1.2.2 - 1) ++ ld_bW f cI fb ++ ld_eW f cI cZ v1.2.1 ++ ld_sW f cI cZ v1.2.2) := hD
          refine lv_aload_n hx hb d_fgoAll_41 rfl (lv_at hl 0 rfl) ?_
          refine va_get (D := D) (ci := 7) (v := .ref (f 10)) (C := "LoanDeskModel") (T := T_Ref) (N := 14) hx hb hg u_Ref hown hK hP 0 rfl rfl 11 (by decide) (hg _ k_381) (fun _ h9 => h9) rfl d_fgoAll_42 ?_
          refine lv_aload_n hx hb d_fgoAll_45 rfl (lv_at hl 0 rfl) ?_
          refine va_get (D := D) (ci := 7) (v := .int (v1.1.2.2 - 1)) (C := "LoanDeskModel") (T := T_Ref) (N := 14) hx hb hg u_Ref hown hK hP 0 rfl rfl 13 (by decide) (hg _ k_383) (fun _ h9 => h9) rfl d_fgoAll_46 ?_
          obtain ⟨i_5, hy1⟩ := ld_grd hy1
          refine va_iald hx hb hK hP 10 0 rfl rfl (i := v1.1.2.2 - 1) i_5 d_fgoAll_49 ?_
          refine lv_bipush (v := 16) hx hb d_fgoAll_50 (by decide) ?_
          refine lv_idiv hx hb d_fgoAll_52 (by decide) ?_
          refine lv_istore_n (lv' := [(2, .int ((v1.2.2.1 (v1.1.2.2 - 1).toNatClampNeg) / 16)), (0, .ref (f 0)), (1, .int p0)]) hx hb d_fgoAll_53 rfl hl (by decide) rfl (fun ls hl => ?_)
          refine lv_aload_n hx hb d_fgoAll_54 rfl (lv_at hl 1 rfl) ?_
          refine va_get (D := D) (ci := 7) (v := .ref (f 10)) (C := "LoanDeskModel") (T := T_Ref) (N := 14) hx hb hg u_Ref hown hK hP 0 rfl rfl 11 (by decide) (hg _ k_381) (fun _ h9 => h9) rfl d_fgoAll_55 ?_
          refine lv_aload_n hx hb d_fgoAll_58 rfl (lv_at hl 1 rfl) ?_
          refine va_get (D := D) (ci := 7) (v := .int (v1.1.2.2 - 1)) (C := "LoanDeskModel") (T := T_Ref) (N := 14) hx hb hg u_Ref hown hK hP 0 rfl rfl 13 (by decide) (hg _ k_383) (fun _ h9 => h9) rfl d_fgoAll_59 ?_
          refine va_iald hx hb hK hP 10 0 rfl rfl (i := v1.1.2.2 - 1) i_5 d_fgoAll_62 ?_
          refine lv_bipush (v := 16) hx hb d_fgoAll_63 (by decide) ?_
          refine lv_irem hx hb d_fgoAll_65 (by decide) ?_
          refine lv_istore_n (lv' := [(3, .int ((v1.2.2.1 (v1.1.2.2 - 1).toNatClampNeg) - (v1.2.2.1 (v1.1.2.2 - 1).toNatClampNeg) / 16 * 16)), (2, .int ((v1.2.2.1 (v1.1.2.2 - 1).toNatClampNeg) / 16)), (0, .ref (f 0)), (1, .int p0)]) hx hb d_fgoAll_66 rfl hl (by decide) rfl (fun ls hl => ?_)
          refine lv_aload_n hx hb d_fgoAll_67 rfl (lv_at hl 2 rfl) ?_
          refine va_get (D := D) (ci := 7) (v := .ref (f 9)) (C := "LoanDeskModel") (T := T_Ref) (N := 14) hx hb hg u_Ref hown hK hP 0 rfl rfl 10 (by decide) (hg _ k_380) (fun _ h9 => h9) rfl d_fgoAll_68 ?_
          refine lv_bipush (v := 120) hx hb d_fgoAll_71 (by decide) ?_
          refine lv_iload_n hx hb d_fgoAll_73 rfl (lv_at hl 3 rfl) ?_
          refine lv_imul hx hb d_fgoAll_74 ?_
          refine lv_iload_n hx hb d_fgoAll_75 rfl (lv_at hl 1 rfl) ?_
          refine lv_iadd hx hb d_fgoAll_76 ?_
          refine lv_aload_n hx hb d_fgoAll_77 rfl (lv_at hl 2 rfl) ?_
          refine va_get (D := D) (ci := 7) (v := .ref (f 9)) (C := "LoanDeskModel") (T := T_Ref) (N := 14) hx hb hg u_Ref hown hK hP 0 rfl rfl 10 (by decide) (hg _ k_380) (fun _ h9 => h9) rfl d_fgoAll_78 ?_
          refine lv_bipush (v := 120) hx hb d_fgoAll_81 (by decide) ?_
          refine lv_iload_n hx hb d_fgoAll_83 rfl (lv_at hl 3 rfl) ?_
          refine lv_imul hx hb d_fgoAll_84 ?_
          refine lv_iload_n hx hb d_fgoAll_85 rfl (lv_at hl 1 rfl) ?_
          refine lv_iadd hx hb d_fgoAll_86 ?_
          obtain ⟨i_6, hy1⟩ := ld_grd hy1
          refine va_iald hx hb hK hP 9 0 rfl rfl (i := (120 * p0) + ((v1.2.2.1 (v1.1.2.2 - 1).toNatClampNeg) / 16)) i_6 d_fgoAll_87 ?_
          refine lv_iconst (v := 1) hx hb d_fgoAll_88 (by decide) ?_
          refine lv_iload_n hx hb d_fgoAll_89 rfl (lv_at hl 0 rfl) ?_
          refine lv_ishl hx hb d_fgoAll_90 ?_
          refine lv_ior hx hb d_fgoAll_91 ?_
          refine va_iast hx hb hK hP hD hS 9 0 rfl rfl (i := (120 * p0) + ((v1.2.2.1 (v1.1.2.2 - 1).toNatClampNeg) / 16)) i_6 d_fgoAll_92 (fun H locs hP hD hS => ?_)
          have hP : va_P D vwCl (ld_oW f (v1.1.1, v1.1.2.1, v1.1.2.2 - 1) ++ ld_bW f cI fb ++ ld_eW f cI cZ (v1.2.1.1, v1.2.1.2.1, upd v1.2.1.2.2 (((120 * p0) + ((v1.2.2.1 (v1.1.2.2 - 1).toNatClampNeg) / 16)).toNatClampNeg) ((v1.2.1.2.2 ((120 * p0) + ((v1.2.2.1 (v1.1.2.2 - 1).toNatClampNeg) / 16)).toNatClampNeg) ||| ((1 : Int32) <<< (((v1.2.2.1 (v1.1.2.2 - 1).toNatClampNeg) - (v1.2.2.1 (v1.1.2.2 - 1).toNatClampNeg) / 16 * 16) &&& 31)))) ++ ld_sW f cI cZ v1.2.2) H := hP
          have hD : va_D A (ld_oW f (v1.1.1, v1.1.2.1, v1.1.2.2 - 1) ++ ld_bW f cI fb ++ ld_eW f cI cZ (v1.2.1.1, v1.2.1.2.1, upd v1.2.1.2.2 (((120 * p0) + ((v1.2.2.1 (v1.1.2.2 - 1).toNatClampNeg) / 16)).toNatClampNeg) ((v1.2.1.2.2 ((120 * p0) + ((v1.2.2.1 (v1.1.2.2 - 1).toNatClampNeg) / 16)).toNatClampNeg) ||| ((1 : Int32) <<< (((v1.2.2.1 (v1.1.2.2 - 1).toNatClampNeg) - (v1.2.2.1 (v1.1.2.2 - 1).toNatClampNeg) / 16 * 16) &&& 31)))) ++ ld_sW f cI cZ v1.2.2) := hD
          refine lv_aload_n hx hb d_fgoAll_93 rfl (lv_at hl 2 rfl) ?_
          refine lv_aload_n hx hb d_fgoAll_94 rfl (lv_at hl 2 rfl) ?_
          refine va_get (D := D) (ci := 7) (v := .ref (f 5)) (C := "LoanDeskModel") (T := T_Ref) (N := 14) hx hb hg u_Ref hown hK hP 0 rfl rfl 5 (by decide) (hg _ k_375) (fun _ h9 => h9) rfl d_fgoAll_95 ?_
          refine lv_iload_n hx hb d_fgoAll_98 rfl (lv_at hl 1 rfl) ?_
          obtain ⟨i_7, hy1⟩ := ld_grd hy1
          refine va_iald hx hb hK hP 5 0 rfl rfl (i := (v1.2.2.1 (v1.1.2.2 - 1).toNatClampNeg) / 16) i_7 d_fgoAll_99 ?_
          refine lv_iload_n hx hb d_fgoAll_100 rfl (lv_at hl 0 rfl) ?_
          obtain ⟨r_8, e_8, hy1⟩ := ld_ob hy1
          refine ld_mv (wr := ([7, 8, 9] : List Nat).filterMap (fun i => (ld_oW f (v1.1.1, v1.1.2.1, v1.1.2.2 - 1) ++ ld_bW f cI fb ++ ld_eW f cI cZ (v1.2.1.1, v1.2.1.2.1, upd v1.2.1.2.2 (((120 * p0) + ((v1.2.2.1 (v1.1.2.2 - 1).toNatClampNeg) / 16)).toNatClampNeg) ((v1.2.1.2.2 ((120 * p0) + ((v1.2.2.1 (v1.1.2.2 - 1).toNatClampNeg) / 16)).toNatClampNeg) ||| ((1 : Int32) <<< (((v1.2.2.1 (v1.1.2.2 - 1).toNatClampNeg) - (v1.2.2.1 (v1.1.2.2 - 1).toNatClampNeg) / 16 * 16) &&& 31)))) ++ ld_sW f cI cZ v1.2.2)[i]?)) (ws2 := ld_oW f r_8.1 ++ ld_bW f cI fb ++ ld_eW f cI cZ (v1.2.1.1, v1.2.1.2.1, upd v1.2.1.2.2 (((120 * p0) + ((v1.2.2.1 (v1.1.2.2 - 1).toNatClampNeg) / 16)).toNatClampNeg) ((v1.2.1.2.2 ((120 * p0) + ((v1.2.2.1 (v1.1.2.2 - 1).toNatClampNeg) / 16)).toNatClampNeg) ||| ((1 : Int32) <<< (((v1.2.2.1 (v1.1.2.2 - 1).toNatClampNeg) - (v1.2.2.1 (v1.1.2.2 - 1).toNatClampNeg) / 16 * 16) &&& 31)))) ++ ld_sW f cI cZ r_8.2) (va_runV (As := [.int (fb.2.2.2.2.1 ((v1.2.2.1 (v1.1.2.2 - 1).toNatClampNeg) / 16).toNatClampNeg), .int ((v1.2.2.1 (v1.1.2.2 - 1).toNatClampNeg) - (v1.2.2.1 (v1.1.2.2 - 1).toNatClampNeg) / 16 * 16)]) (rest := []) ⟨hx, hb, hml, hown, hg⟩ (lc_fthrough l D cI cZ cJ f (v1.1.1, v1.1.2.1, v1.1.2.2 - 1) fb v1.2.2 (fb.2.2.2.2.1 ((v1.2.2.1 (v1.1.2.2 - 1).toNatClampNeg) / 16).toNatClampNeg) ((v1.2.2.1 (v1.1.2.2 - 1).toNatClampNeg) - (v1.2.2.1 (v1.1.2.2 - 1).toNatClampNeg) / 16 * 16) _ N r_8 e_8) ⟨callB_of 2 hg (ld_gd k_442) rfl rfl rfl (hg _ k_30) (hg _ k_440) hd_fthrough ⟨Nat.le_of_ble_eq_true rfl, Nat.le_of_ble_eq_true rfl⟩, hg _ k_441, hg _ k_20⟩ (ld_preMV hP hK hN hD [0, 1, 2, 3, 4, 5, 6, 10, 11] (by decide) rfl 7 0 rfl rfl) rfl rfl hl.1 rfl (lv_room (Nat.le_of_ble_eq_true rfl)) d_fgoAll_101 ⟨Nat.zero_le _, Nat.zero_le _⟩) hP hD hS hA [0, 1, 2, 3, 4, 5, 6, 10, 11] [7, 8, 9] [3, 4, 5, 6, 7, 8, 9, 0, 1, 2, 10, 11] rfl rfl (by decide) (by decide) (by decide) rfl (fun H locs hP hD hS => ?_)
          refine lv_aload_n hx hb d_fgoAll_104 rfl (lv_at hl 2 rfl) ?_
          refine lv_aload_n hx hb d_fgoAll_105 rfl (lv_at hl 2 rfl) ?_
          refine va_get (D := D) (ci := 7) (v := .ref (f 6)) (C := "LoanDeskModel") (T := T_Ref) (N := 14) hx hb hg u_Ref hown hK hP 0 rfl rfl 6 (by decide) (hg _ k_376) (fun _ h9 => h9) rfl d_fgoAll_106 ?_
          refine lv_iload_n hx hb d_fgoAll_109 rfl (lv_at hl 1 rfl) ?_
          refine va_iald hx hb hK hP 6 0 rfl rfl (i := (v1.2.2.1 (v1.1.2.2 - 1).toNatClampNeg) / 16) i_7 d_fgoAll_110 ?_
          refine lv_iload_n hx hb d_fgoAll_111 rfl (lv_at hl 0 rfl) ?_
          obtain ⟨r_9, e_9, hy1⟩ := ld_ob hy1
          refine ld_mv (wr := ([7, 8, 9] : List Nat).filterMap (fun i => (ld_oW f r_8.1 ++ ld_bW f cI fb ++ ld_eW f cI cZ (v1.2.1.1, v1.2.1.2.1, upd v1.2.1.2.2 (((120 * p0) + ((v1.2.2.1 (v1.1.2.2 - 1).toNatClampNeg) / 16)).toNatClampNeg) ((v1.2.1.2.2 ((120 * p0) + ((v1.2.2.1 (v1.1.2.2 - 1).toNatClampNeg) / 16)).toNatClampNeg) ||| ((1 : Int32) <<< (((v1.2.2.1 (v1.1.2.2 - 1).toNatClampNeg) - (v1.2.2.1 (v1.1.2.2 - 1).toNatClampNeg) / 16 * 16) &&& 31)))) ++ ld_sW f cI cZ r_8.2)[i]?)) (ws2 := ld_oW f r_9.1 ++ ld_bW f cI fb ++ ld_eW f cI cZ (v1.2.1.1, v1.2.1.2.1, upd v1.2.1.2.2 (((120 * p0) + ((v1.2.2.1 (v1.1.2.2 - 1).toNatClampNeg) / 16)).toNatClampNeg) ((v1.2.1.2.2 ((120 * p0) + ((v1.2.2.1 (v1.1.2.2 - 1).toNatClampNeg) / 16)).toNatClampNeg) ||| ((1 : Int32) <<< (((v1.2.2.1 (v1.1.2.2 - 1).toNatClampNeg) - (v1.2.2.1 (v1.1.2.2 - 1).toNatClampNeg) / 16 * 16) &&& 31)))) ++ ld_sW f cI cZ r_9.2) (va_runV (As := [.int (fb.2.2.2.2.2 ((v1.2.2.1 (v1.1.2.2 - 1).toNatClampNeg) / 16).toNatClampNeg), .int ((v1.2.2.1 (v1.1.2.2 - 1).toNatClampNeg) - (v1.2.2.1 (v1.1.2.2 - 1).toNatClampNeg) / 16 * 16)]) (rest := []) ⟨hx, hb, hml, hown, hg⟩ (lc_fthrough l D cI cZ cJ f r_8.1 fb r_8.2 (fb.2.2.2.2.2 ((v1.2.2.1 (v1.1.2.2 - 1).toNatClampNeg) / 16).toNatClampNeg) ((v1.2.2.1 (v1.1.2.2 - 1).toNatClampNeg) - (v1.2.2.1 (v1.1.2.2 - 1).toNatClampNeg) / 16 * 16) _ N r_9 e_9) ⟨callB_of 2 hg (ld_gd k_442) rfl rfl rfl (hg _ k_30) (hg _ k_440) hd_fthrough ⟨Nat.le_of_ble_eq_true rfl, Nat.le_of_ble_eq_true rfl⟩, hg _ k_441, hg _ k_20⟩ (ld_preMV hP hK hN hD [0, 1, 2, 3, 4, 5, 6, 10, 11] (by decide) rfl 7 0 rfl rfl) rfl rfl hl.1 rfl (lv_room (Nat.le_of_ble_eq_true rfl)) d_fgoAll_112 ⟨Nat.zero_le _, Nat.zero_le _⟩) hP hD hS hA [0, 1, 2, 3, 4, 5, 6, 10, 11] [7, 8, 9] [3, 4, 5, 6, 7, 8, 9, 0, 1, 2, 10, 11] rfl rfl (by decide) (by decide) (by decide) rfl (fun H locs hP hD hS => ?_)
          refine lv_goto (tgt := 24) hx hb d_fgoAll_115 (by decide) ?_
          obtain rfl := Option.some.inj hy1
          exact ih1 (r_9.1, (v1.2.1.1, v1.2.1.2.1, upd v1.2.1.2.2 (((120 * p0) + ((v1.2.2.1 (v1.1.2.2 - 1).toNatClampNeg) / 16)).toNatClampNeg) ((v1.2.1.2.2 ((120 * p0) + ((v1.2.2.1 (v1.1.2.2 - 1).toNatClampNeg) / 16)).toNatClampNeg) ||| ((1 : Int32) <<< (((v1.2.2.1 (v1.1.2.2 - 1).toNatClampNeg) - (v1.2.2.1 (v1.1.2.2 - 1).toNatClampNeg) / 16 * 16) &&& 31)))), r_9.2) _ _ _ g1 hP hD hS (lv_sub hl [2, 3] rfl)
    exact key1 N (r_1.1, fe, r_1.2) _ _ _ eY1 hP hD hS (lv_sub hl [0, 1] rfl)
  · have h := (if_neg c_3).symm.trans h
    refine lv_aload_n hx hb d_fgoAll_13 rfl (lv_at hl 0 rfl) ?_
    refine lv_iload_n hx hb d_fgoAll_14 rfl (lv_at hl 1 rfl) ?_
    refine lv_aload_n hx hb d_fgoAll_15 rfl (lv_at hl 0 rfl) ?_
    refine va_get (D := D) (ci := 7) (v := .ref (f 2)) (C := "LoanDeskModel") (T := T_Ref) (N := 14) hx hb hg u_Ref hown hK hP 0 rfl rfl 2 (by decide) (hg _ k_372) (fun _ h9 => h9) rfl d_fgoAll_16 ?_
    refine lv_iload_n hx hb d_fgoAll_19 rfl (lv_at hl 1 rfl) ?_
    refine va_iald hx hb hK hP 2 0 rfl rfl (i := p0) i_2 d_fgoAll_20 ?_
    obtain ⟨r_10, e_10, h⟩ := ld_ob h
    refine ld_mv (wr := ([1, 2, 3, 4, 5, 6, 7, 8, 9] : List Nat).filterMap (fun i => (ld_oW f r_1.1 ++ ld_bW f cI fb ++ ld_eW f cI cZ fe ++ ld_sW f cI cZ r_1.2)[i]?)) (ws2 := ld_oW f r_10.1 ++ ld_bW f cI fb ++ ld_eW f cI cZ fe ++ ld_sW f cI cZ r_10.2) (va_runV (As := [.int p0, .int (fb.2.1 p0.toNatClampNeg)]) (rest := []) ⟨hx, hb, hml, hown, hg⟩ (lc_fmeet l D cI cZ cJ f r_1.1 r_1.2 p0 (fb.2.1 p0.toNatClampNeg) _ N r_10 e_10) ⟨callB_of 2 hg (ld_gd k_424) rfl rfl rfl (hg _ k_30) (hg _ k_422) hd_fmeet ⟨Nat.le_of_ble_eq_true rfl, Nat.le_of_ble_eq_true rfl⟩, hg _ k_423, hg _ k_14⟩ (ld_preMV hP hK hN hD [0, 10, 11] (by decide) rfl 7 0 rfl rfl) rfl rfl hl.1 rfl (lv_room (Nat.le_of_ble_eq_true rfl)) d_fgoAll_21 ⟨Nat.zero_le _, Nat.zero_le _⟩) hP hD hS hA [0, 10, 11] [1, 2, 3, 4, 5, 6, 7, 8, 9] [9, 0, 1, 2, 3, 4, 5, 6, 7, 8, 10, 11] rfl rfl (by decide) (by decide) (by decide) rfl (fun H locs hP hD hS => ?_)
    obtain ⟨Y2, eY2, h⟩ := ld_ob h
    have kont2 : ∀ (H : Heap) (locs : List Loc) (ls : Array Slot), va_P D vwCl (ld_oW f Y2.1 ++ ld_bW f cI fb ++ ld_eW f cI cZ Y2.2.1 ++ ld_sW f cI cZ Y2.2.2) H → va_D A (ld_oW f Y2.1 ++ ld_bW f cI fb ++ ld_eW f cI cZ Y2.2.1 ++ ld_sW f cI cZ Y2.2.2) → va_S A s.heap H locs → lv_has ls 4 [] → W p l e (headSpec (Cond.code y_fgoAll prog_9_method_12_code 4 none :: bgT) ({ frames := 3, cells := 0, slots := 0, locals := 65 })).room s m ([.ref (f 0), .int p0] : List Value).toArray below meth c H locs 0 0 (MQ below (ld_QV D (ld_oW f R.1 ++ ld_bW f cI fb ++ ld_eW f cI cZ R.2.1 ++ ld_sW f cI cZ R.2.2) A) ([.ref (f 0), .int p0] : List Value).toArray s 0 0 (A)) (F0 m 118 ls []) := by
      intro H locs ls hP hD hS hl
      have h := Option.some.inj h
      subst h
      exact W.vret hx hb hr (fun t ht hW => ⟨⟨(), rfl, trivial, by rw [ht]; exact hP, hD⟩, hS.F ht⟩) hS.2.2 d_fgoAll_118
    have key2 : ∀ (n : Nat) (v2 : (Int32 × Int32 × Int32) × ld_eT × ld_sT) (H : Heap) (locs : List Loc) (ls : Array Slot), ld_it (ls_fgoAll_2 N fb p0) n v2 = some Y2 → va_P D vwCl (ld_oW f v2.1 ++ ld_bW f cI fb ++ ld_eW f cI cZ v2.2.1 ++ ld_sW f cI cZ v2.2.2) H → va_D A (ld_oW f v2.1 ++ ld_bW f cI fb ++ ld_eW f cI cZ v2.2.1 ++ ld_sW f cI cZ v2.2.2) → va_S A s.heap H locs → lv_has ls 4 [(0, .ref (f 0)), (1, .int p0)] → W p l e (headSpec (Cond.code y_fgoAll prog_9_method_12_code 4 none :: bgT) ({ frames := 3, cells := 0, slots := 0, locals := 65 })).room s m ([.ref (f 0), .int p0] : List Value).toArray below meth c H locs 0 0 (MQ below (ld_QV D (ld_oW f R.1 ++ ld_bW f cI fb ++ ld_eW f cI cZ R.2.1 ++ ld_sW f cI cZ R.2.2) A) ([.ref (f 0), .int p0] : List Value).toArray s 0 0 (A)) (F0 m 24 ls []) := by
      intro n
      induction n with
      | zero => intro v2 H locs ls g2 hP hD hS hl; cases g2
      | succ n ih2 =>
        intro v2 H locs ls g2 hP hD hS hl
        obtain ⟨z2, hy2, g2⟩ := ld_its g2
        refine lv_aload_n hx hb d_fgoAll_24 rfl (lv_at hl 0 rfl) ?_
        refine va_get (D := D) (ci := 7) (v := .int v2.1.2.2) (C := "LoanDeskModel") (T := T_Ref) (N := 14) hx hb hg u_Ref hown hK hP 0 rfl rfl 13 (by decide) (hg _ k_383) (fun _ h9 => h9) rfl d_fgoAll_25 ?_
        refine lv_if_le (tgt := 118) hx hb d_fgoAll_28 (by decide) (fun c_11 => ?_) (fun c_11 => ?_)
        · have hy2 := (if_pos c_11).symm.trans hy2
          obtain rfl := Option.some.inj hy2
          obtain rfl := Option.some.inj g2
          exact kont2 _ _ _ hP hD hS (lv_sub hl [] rfl)
        · have hy2 := (if_neg c_11).symm.trans hy2
          refine lv_aload_n hx hb d_fgoAll_31 rfl (lv_at hl 0 rfl) ?_
          refine lv_dup hx hb d_fgoAll_32 rfl ?_
          refine va_get (D := D) (ci := 7) (v := .int v2.1.2.2) (C := "LoanDeskModel") (T := T_Ref) (N := 14) hx hb hg u_Ref hown hK hP 0 rfl rfl 13 (by decide) (hg _ k_383) (fun _ h9 => h9) rfl d_fgoAll_33 ?_
          refine lv_iconst (v := 1) hx hb d_fgoAll_36 (by decide) ?_
          refine lv_isub hx hb d_fgoAll_37 ?_
          refine va_put (D := D) (ci := 7) (v := .int (v2.1.2.2 - 1)) (ty := .int) (C := "LoanDeskModel") (T := T_Ref) (N := 14) hx hb hg u_Ref t_Ref tk_Ref n_Ref hown hK hP hD hS 0 rfl rfl 13 (by decide) (hg _ k_383) (fun _ h9 => h9) rfl (by decide +kernel) rfl rfl (Nat.le_of_ble_eq_true rfl) d_fgoAll_38 (fun H locs hP hD hS => ?_)
          have hP : va_P D vwCl (ld_oW f (v2.1.1, v2.1.2.1, v2.1.2.2 - 1) ++ ld_bW f cI fb ++ ld_eW f cI cZ v2.2.1 ++ ld_sW f cI cZ v2.2.2) H := hP
          have hD : va_D A (ld_oW f (v2.1.1, v2.1.2.1, v2.1.2.2 - 1) ++ ld_bW f cI fb ++ ld_eW f cI cZ v2.2.1 ++ ld_sW f cI cZ v2.2.2) := hD
          refine lv_aload_n hx hb d_fgoAll_41 rfl (lv_at hl 0 rfl) ?_
          refine va_get (D := D) (ci := 7) (v := .ref (f 10)) (C := "LoanDeskModel") (T := T_Ref) (N := 14) hx hb hg u_Ref hown hK hP 0 rfl rfl 11 (by decide) (hg _ k_381) (fun _ h9 => h9) rfl d_fgoAll_42 ?_
          refine lv_aload_n hx hb d_fgoAll_45 rfl (lv_at hl 0 rfl) ?_
          refine va_get (D := D) (ci := 7) (v := .int (v2.1.2.2 - 1)) (C := "LoanDeskModel") (T := T_Ref) (N := 14) hx hb hg u_Ref hown hK hP 0 rfl rfl 13 (by decide) (hg _ k_383) (fun _ h9 => h9) rfl d_fgoAll_46 ?_
          obtain ⟨i_12, hy2⟩ := ld_grd hy2
          refine va_iald hx hb hK hP 10 0 rfl rfl (i := v2.1.2.2 - 1) i_12 d_fgoAll_49 ?_
          refine lv_bipush (v := 16) hx hb d_fgoAll_50 (by decide) ?_
          refine lv_idiv hx hb d_fgoAll_52 (by decide) ?_
          refine lv_istore_n (lv' := [(2, .int ((v2.2.2.1 (v2.1.2.2 - 1).toNatClampNeg) / 16)), (0, .ref (f 0)), (1, .int p0)]) hx hb d_fgoAll_53 rfl hl (by decide) rfl (fun ls hl => ?_)
          refine lv_aload_n hx hb d_fgoAll_54 rfl (lv_at hl 1 rfl) ?_
          refine va_get (D := D) (ci := 7) (v := .ref (f 10)) (C := "LoanDeskModel") (T := T_Ref) (N := 14) hx hb hg u_Ref hown hK hP 0 rfl rfl 11 (by decide) (hg _ k_381) (fun _ h9 => h9) rfl d_fgoAll_55 ?_
          refine lv_aload_n hx hb d_fgoAll_58 rfl (lv_at hl 1 rfl) ?_
          refine va_get (D := D) (ci := 7) (v := .int (v2.1.2.2 - 1)) (C := "LoanDeskModel") (T := T_Ref) (N := 14) hx hb hg u_Ref hown hK hP 0 rfl rfl 13 (by decide) (hg _ k_383) (fun _ h9 => h9) rfl d_fgoAll_59 ?_
          refine va_iald hx hb hK hP 10 0 rfl rfl (i := v2.1.2.2 - 1) i_12 d_fgoAll_62 ?_
          refine lv_bipush (v := 16) hx hb d_fgoAll_63 (by decide) ?_
          refine lv_irem hx hb d_fgoAll_65 (by decide) ?_
          refine lv_istore_n (lv' := [(3, .int ((v2.2.2.1 (v2.1.2.2 - 1).toNatClampNeg) - (v2.2.2.1 (v2.1.2.2 - 1).toNatClampNeg) / 16 * 16)), (2, .int ((v2.2.2.1 (v2.1.2.2 - 1).toNatClampNeg) / 16)), (0, .ref (f 0)), (1, .int p0)]) hx hb d_fgoAll_66 rfl hl (by decide) rfl (fun ls hl => ?_)
          refine lv_aload_n hx hb d_fgoAll_67 rfl (lv_at hl 2 rfl) ?_
          refine va_get (D := D) (ci := 7) (v := .ref (f 9)) (C := "LoanDeskModel") (T := T_Ref) (N := 14) hx hb hg u_Ref hown hK hP 0 rfl rfl 10 (by decide) (hg _ k_380) (fun _ h9 => h9) rfl d_fgoAll_68 ?_
          refine lv_bipush (v := 120) hx hb d_fgoAll_71 (by decide) ?_
          refine lv_iload_n hx hb d_fgoAll_73 rfl (lv_at hl 3 rfl) ?_
          refine lv_imul hx hb d_fgoAll_74 ?_
          refine lv_iload_n hx hb d_fgoAll_75 rfl (lv_at hl 1 rfl) ?_
          refine lv_iadd hx hb d_fgoAll_76 ?_
          refine lv_aload_n hx hb d_fgoAll_77 rfl (lv_at hl 2 rfl) ?_
          refine va_get (D := D) (ci := 7) (v := .ref (f 9)) (C := "LoanDeskModel") (T := T_Ref) (N := 14) hx hb hg u_Ref hown hK hP 0 rfl rfl 10 (by decide) (hg _ k_380) (fun _ h9 => h9) rfl d_fgoAll_78 ?_
          refine lv_bipush (v := 120) hx hb d_fgoAll_81 (by decide) ?_
          refine lv_iload_n hx hb d_fgoAll_83 rfl (lv_at hl 3 rfl) ?_
          refine lv_imul hx hb d_fgoAll_84 ?_
          refine lv_iload_n hx hb d_fgoAll_85 rfl (lv_at hl 1 rfl) ?_
          refine lv_iadd hx hb d_fgoAll_86 ?_
          obtain ⟨i_13, hy2⟩ := ld_grd hy2
          refine va_iald hx hb hK hP 9 0 rfl rfl (i := (120 * p0) + ((v2.2.2.1 (v2.1.2.2 - 1).toNatClampNeg) / 16)) i_13 d_fgoAll_87 ?_
          refine lv_iconst (v := 1) hx hb d_fgoAll_88 (by decide) ?_
          refine lv_iload_n hx hb d_fgoAll_89 rfl (lv_at hl 0 rfl) ?_
          refine lv_ishl hx hb d_fgoAll_90 ?_
          refine lv_ior hx hb d_fgoAll_91 ?_
          refine va_iast hx hb hK hP hD hS 9 0 rfl rfl (i := (120 * p0) + ((v2.2.2.1 (v2.1.2.2 - 1).toNatClampNeg) / 16)) i_13 d_fgoAll_92 (fun H locs hP hD hS => ?_)
          have hP : va_P D vwCl (ld_oW f (v2.1.1, v2.1.2.1, v2.1.2.2 - 1) ++ ld_bW f cI fb ++ ld_eW f cI cZ (v2.2.1.1, v2.2.1.2.1, upd v2.2.1.2.2 (((120 * p0) + ((v2.2.2.1 (v2.1.2.2 - 1).toNatClampNeg) / 16)).toNatClampNeg) ((v2.2.1.2.2 ((120 * p0) + ((v2.2.2.1 (v2.1.2.2 - 1).toNatClampNeg) / 16)).toNatClampNeg) ||| ((1 : Int32) <<< (((v2.2.2.1 (v2.1.2.2 - 1).toNatClampNeg) - (v2.2.2.1 (v2.1.2.2 - 1).toNatClampNeg) / 16 * 16) &&& 31)))) ++ ld_sW f cI cZ v2.2.2) H := hP
          have hD : va_D A (ld_oW f (v2.1.1, v2.1.2.1, v2.1.2.2 - 1) ++ ld_bW f cI fb ++ ld_eW f cI cZ (v2.2.1.1, v2.2.1.2.1, upd v2.2.1.2.2 (((120 * p0) + ((v2.2.2.1 (v2.1.2.2 - 1).toNatClampNeg) / 16)).toNatClampNeg) ((v2.2.1.2.2 ((120 * p0) + ((v2.2.2.1 (v2.1.2.2 - 1).toNatClampNeg) / 16)).toNatClampNeg) ||| ((1 : Int32) <<< (((v2.2.2.1 (v2.1.2.2 - 1).toNatClampNeg) - (v2.2.2.1 (v2.1.2.2 - 1).toNatClampNeg) / 16 * 16) &&& 31)))) ++ ld_sW f cI cZ v2.2.2) := hD
          refine lv_aload_n hx hb d_fgoAll_93 rfl (lv_at hl 2 rfl) ?_
          refine lv_aload_n hx hb d_fgoAll_94 rfl (lv_at hl 2 rfl) ?_
          refine va_get (D := D) (ci := 7) (v := .ref (f 5)) (C := "LoanDeskModel") (T := T_Ref) (N := 14) hx hb hg u_Ref hown hK hP 0 rfl rfl 5 (by decide) (hg _ k_375) (fun _ h9 => h9) rfl d_fgoAll_95 ?_
          refine lv_iload_n hx hb d_fgoAll_98 rfl (lv_at hl 1 rfl) ?_
          obtain ⟨i_14, hy2⟩ := ld_grd hy2
          refine va_iald hx hb hK hP 5 0 rfl rfl (i := (v2.2.2.1 (v2.1.2.2 - 1).toNatClampNeg) / 16) i_14 d_fgoAll_99 ?_
          refine lv_iload_n hx hb d_fgoAll_100 rfl (lv_at hl 0 rfl) ?_
          obtain ⟨r_15, e_15, hy2⟩ := ld_ob hy2
          refine ld_mv (wr := ([7, 8, 9] : List Nat).filterMap (fun i => (ld_oW f (v2.1.1, v2.1.2.1, v2.1.2.2 - 1) ++ ld_bW f cI fb ++ ld_eW f cI cZ (v2.2.1.1, v2.2.1.2.1, upd v2.2.1.2.2 (((120 * p0) + ((v2.2.2.1 (v2.1.2.2 - 1).toNatClampNeg) / 16)).toNatClampNeg) ((v2.2.1.2.2 ((120 * p0) + ((v2.2.2.1 (v2.1.2.2 - 1).toNatClampNeg) / 16)).toNatClampNeg) ||| ((1 : Int32) <<< (((v2.2.2.1 (v2.1.2.2 - 1).toNatClampNeg) - (v2.2.2.1 (v2.1.2.2 - 1).toNatClampNeg) / 16 * 16) &&& 31)))) ++ ld_sW f cI cZ v2.2.2)[i]?)) (ws2 := ld_oW f r_15.1 ++ ld_bW f cI fb ++ ld_eW f cI cZ (v2.2.1.1, v2.2.1.2.1, upd v2.2.1.2.2 (((120 * p0) + ((v2.2.2.1 (v2.1.2.2 - 1).toNatClampNeg) / 16)).toNatClampNeg) ((v2.2.1.2.2 ((120 * p0) + ((v2.2.2.1 (v2.1.2.2 - 1).toNatClampNeg) / 16)).toNatClampNeg) ||| ((1 : Int32) <<< (((v2.2.2.1 (v2.1.2.2 - 1).toNatClampNeg) - (v2.2.2.1 (v2.1.2.2 - 1).toNatClampNeg) / 16 * 16) &&& 31)))) ++ ld_sW f cI cZ r_15.2) (va_runV (As := [.int (fb.2.2.2.2.1 ((v2.2.2.1 (v2.1.2.2 - 1).toNatClampNeg) / 16).toNatClampNeg), .int ((v2.2.2.1 (v2.1.2.2 - 1).toNatClampNeg) - (v2.2.2.1 (v2.1.2.2 - 1).toNatClampNeg) / 16 * 16)]) (rest := []) ⟨hx, hb, hml, hown, hg⟩ (lc_fthrough l D cI cZ cJ f (v2.1.1, v2.1.2.1, v2.1.2.2 - 1) fb v2.2.2 (fb.2.2.2.2.1 ((v2.2.2.1 (v2.1.2.2 - 1).toNatClampNeg) / 16).toNatClampNeg) ((v2.2.2.1 (v2.1.2.2 - 1).toNatClampNeg) - (v2.2.2.1 (v2.1.2.2 - 1).toNatClampNeg) / 16 * 16) _ N r_15 e_15) ⟨callB_of 2 hg (ld_gd k_442) rfl rfl rfl (hg _ k_30) (hg _ k_440) hd_fthrough ⟨Nat.le_of_ble_eq_true rfl, Nat.le_of_ble_eq_true rfl⟩, hg _ k_441, hg _ k_20⟩ (ld_preMV hP hK hN hD [0, 1, 2, 3, 4, 5, 6, 10, 11] (by decide) rfl 7 0 rfl rfl) rfl rfl hl.1 rfl (lv_room (Nat.le_of_ble_eq_true rfl)) d_fgoAll_101 ⟨Nat.zero_le _, Nat.zero_le _⟩) hP hD hS hA [0, 1, 2, 3, 4, 5, 6, 10, 11] [7, 8, 9] [3, 4, 5, 6, 7, 8, 9, 0, 1, 2, 10, 11] rfl rfl (by decide) (by decide) (by decide) rfl (fun H locs hP hD hS => ?_)
          refine lv_aload_n hx hb d_fgoAll_104 rfl (lv_at hl 2 rfl) ?_
          refine lv_aload_n hx hb d_fgoAll_105 rfl (lv_at hl 2 rfl) ?_
          refine va_get (D := D) (ci := 7) (v := .ref (f 6)) (C := "LoanDeskModel") (T := T_Ref) (N := 14) hx hb hg u_Ref hown hK hP 0 rfl rfl 6 (by decide) (hg _ k_376) (fun _ h9 => h9) rfl d_fgoAll_106 ?_
          refine lv_iload_n hx hb d_fgoAll_109 rfl (lv_at hl 1 rfl) ?_
          refine va_iald hx hb hK hP 6 0 rfl rfl (i := (v2.2.2.1 (v2.1.2.2 - 1).toNatClampNeg) / 16) i_14 d_fgoAll_110 ?_
          refine lv_iload_n hx hb d_fgoAll_111 rfl (lv_at hl 0 rfl) ?_
          obtain ⟨r_16, e_16, hy2⟩ := ld_ob hy2
          refine ld_mv (wr := ([7, 8, 9] : List Nat).filterMap (fun i => (ld_oW f r_15.1 ++ ld_bW f cI fb ++ ld_eW f cI cZ (v2.2.1.1, v2.2.1.2.1, upd v2.2.1.2.2 (((120 * p0) + ((v2.2.2.1 (v2.1.2.2 - 1).toNatClampNeg) / 16)).toNatClampNeg) ((v2.2.1.2.2 ((120 * p0) + ((v2.2.2.1 (v2.1.2.2 - 1).toNatClampNeg) / 16)).toNatClampNeg) ||| ((1 : Int32) <<< (((v2.2.2.1 (v2.1.2.2 - 1).toNatClampNeg) - (v2.2.2.1 (v2.1.2.2 - 1).toNatClampNeg) / 16 * 16) &&& 31)))) ++ ld_sW f cI cZ r_15.2)[i]?)) (ws2 := ld_oW f r_16.1 ++ ld_bW f cI fb ++ ld_eW f cI cZ (v2.2.1.1, v2.2.1.2.1, upd v2.2.1.2.2 (((120 * p0) + ((v2.2.2.1 (v2.1.2.2 - 1).toNatClampNeg) / 16)).toNatClampNeg) ((v2.2.1.2.2 ((120 * p0) + ((v2.2.2.1 (v2.1.2.2 - 1).toNatClampNeg) / 16)).toNatClampNeg) ||| ((1 : Int32) <<< (((v2.2.2.1 (v2.1.2.2 - 1).toNatClampNeg) - (v2.2.2.1 (v2.1.2.2 - 1).toNatClampNeg) / 16 * 16) &&& 31)))) ++ ld_sW f cI cZ r_16.2) (va_runV (As := [.int (fb.2.2.2.2.2 ((v2.2.2.1 (v2.1.2.2 - 1).toNatClampNeg) / 16).toNatClampNeg), .int ((v2.2.2.1 (v2.1.2.2 - 1).toNatClampNeg) - (v2.2.2.1 (v2.1.2.2 - 1).toNatClampNeg) / 16 * 16)]) (rest := []) ⟨hx, hb, hml, hown, hg⟩ (lc_fthrough l D cI cZ cJ f r_15.1 fb r_15.2 (fb.2.2.2.2.2 ((v2.2.2.1 (v2.1.2.2 - 1).toNatClampNeg) / 16).toNatClampNeg) ((v2.2.2.1 (v2.1.2.2 - 1).toNatClampNeg) - (v2.2.2.1 (v2.1.2.2 - 1).toNatClampNeg) / 16 * 16) _ N r_16 e_16) ⟨callB_of 2 hg (ld_gd k_442) rfl rfl rfl (hg _ k_30) (hg _ k_440) hd_fthrough ⟨Nat.le_of_ble_eq_true rfl, Nat.le_of_ble_eq_true rfl⟩, hg _ k_441, hg _ k_20⟩ (ld_preMV hP hK hN hD [0, 1, 2, 3, 4, 5, 6, 10, 11] (by decide) rfl 7 0 rfl rfl) rfl rfl hl.1 rfl (lv_room (Nat.le_of_ble_eq_true rfl)) d_fgoAll_112 ⟨Nat.zero_le _, Nat.zero_le _⟩) hP hD hS hA [0, 1, 2, 3, 4, 5, 6, 10, 11] [7, 8, 9] [3, 4, 5, 6, 7, 8, 9, 0, 1, 2, 10, 11] rfl rfl (by decide) (by decide) (by decide) rfl (fun H locs hP hD hS => ?_)
          refine lv_goto (tgt := 24) hx hb d_fgoAll_115 (by decide) ?_
          obtain rfl := Option.some.inj hy2
          exact ih2 (r_16.1, (v2.2.1.1, v2.2.1.2.1, upd v2.2.1.2.2 (((120 * p0) + ((v2.2.2.1 (v2.1.2.2 - 1).toNatClampNeg) / 16)).toNatClampNeg) ((v2.2.1.2.2 ((120 * p0) + ((v2.2.2.1 (v2.1.2.2 - 1).toNatClampNeg) / 16)).toNatClampNeg) ||| ((1 : Int32) <<< (((v2.2.2.1 (v2.1.2.2 - 1).toNatClampNeg) - (v2.2.2.1 (v2.1.2.2 - 1).toNatClampNeg) / 16 * 16) &&& 31)))), r_16.2) _ _ _ g2 hP hD hS (lv_sub hl [2, 3] rfl)
    exact key2 N (r_10.1, fe, r_10.2) _ _ _ eY2 hP hD hS (lv_sub hl [0, 1] rfl)
def ls_fIsUsed_1 (N : Nat) (fb : ld_bT) (p1 : Int32) (v1 : (Int32 × Int32 × Int32) × ld_sT) : Option (((Int32 × Int32 × Int32) × ld_sT) ⊕ (((Int32 × Int32 × Int32) × ld_sT) ⊕ (Int32 × (Int32 × Int32 × Int32) × ld_sT))) := if v1.1.2.2 ≤ 0 then some (.inr (.inl (v1.1, v1.2))) else if ld_in (v1.1.2.2 - 1) 1920 = true then (Option.bind (lm_fuses N (v1.1.1, v1.1.2.1, v1.1.2.2 - 1) fb ((v1.2.1 (v1.1.2.2 - 1).toNatClampNeg) / 16) p1) (fun r_7 => if r_7 = 0 then (Option.bind (lm_fchanges N (v1.1.1, v1.1.2.1, v1.1.2.2 - 1) fb ((v1.2.1 (v1.1.2.2 - 1).toNatClampNeg) / 16) p1) (fun r_9 => if r_9 = 0 then (if ld_in ((v1.2.1 (v1.1.2.2 - 1).toNatClampNeg) / 16) 120 = true then (Option.bind (lm_fmeet N (v1.1.1, v1.1.2.1, v1.1.2.2 - 1) v1.2 (fb.2.2.2.2.1 ((v1.2.1 (v1.1.2.2 - 1).toNatClampNeg) / 16).toNatClampNeg) 0) (fun r_12 => Option.bind (lm_fmeet N r_12.1 r_12.2 (fb.2.2.2.2.2 ((v1.2.1 (v1.1.2.2 - 1).toNatClampNeg) / 16).toNatClampNeg) 0) (fun r_13 => some (.inl (r_13.1, r_13.2))))) else none) else some (.inl ((v1.1.1, v1.1.2.1, v1.1.2.2 - 1), v1.2)))) else some (.inr (.inr (1, (v1.1.1, v1.1.2.1, v1.1.2.2 - 1), v1.2))))) else none
def lm_fIsUsed (N : Nat) (fo : Int32 × Int32 × Int32) (fb : ld_bT) (fs : ld_sT) (p0 : Int32) (p1 : Int32) : Option (Int32 × (Int32 × Int32 × Int32) × ld_sT) := Option.bind (lm_fforget N fo fs) (fun r_1 => if ld_in p0 120 = true then (Option.bind (lm_fmeet N r_1.1 r_1.2 (fb.2.2.2.2.1 p0.toNatClampNeg) 0) (fun r_3 => Option.bind (lm_fmeet N r_3.1 r_3.2 (fb.2.2.2.2.2 p0.toNatClampNeg) 0) (fun r_4 => Option.bind (ld_it (ls_fIsUsed_1 N fb p1) N (r_4.1, r_4.2)) (fun Y1 => ld_ex Y1 (fun y1 => some (0, y1.1, y1.2)) (fun R9 => some R9))))) else none)
set_option maxHeartbeats 4000000 in
set_option maxRecDepth 100000 in
theorem lc_fIsUsed (l : Launch) (D : va_G) (cI cZ cJ : ClassId) (f : Nat → Nat) (fo : Int32 × Int32 × Int32) (fb : ld_bT) (fs : ld_sT) (p0 : Int32) (p1 : Int32) (sz : Nat) (N : Nat) (R : Int32 × (Int32 × Int32 × Int32) × ld_sT) (h : lm_fIsUsed N fo fb fs p0 p1 = some R) : Met l y_fIsUsed (Cond.code y_fIsUsed prog_9_method_13_code 4 (some .boolean) :: bgT) ({ frames := 2, cells := 0, slots := 0, locals := 43 }) (ld_PM D cI cZ cJ (ld_oW f fo ++ ld_bW f cI fb ++ ld_sW f cI cZ fs) sz [.ref (f 0), .int p0, .int p1]) (ld_QI D (ld_oW f R.2.1 ++ ld_bW f cI fb ++ ld_sW f cI cZ R.2.2) (va_A (ld_oW f fo ++ ld_bW f cI fb ++ ld_sW f cI cZ fs) sz) R.1) 0 0 ((va_A (ld_oW f fo ++ ld_bW f cI fb ++ ld_sW f cI cZ fs) sz)) := by
  refine Met.ofW (cc := prog_9_method_13_code) (maxL := 4) (ret := (some .boolean)) (by decide) rfl ?_
  intro p e s m args below meth c s₁ B hml hv
  obtain ⟨rfl, hsz, hP, hK, hD0, hN⟩ := hv
  have hx := B.exec
  have hb := B.bytes
  have hr := B.returns
  have hg : ∀ w ∈ bgT, w.before _ s = true := fun w h => atoms_spec (ws := (Cond.code y_fIsUsed prog_9_method_13_code 4 (some .boolean) :: bgT)) B.pre w (List.mem_cons_of_mem _ h)
  have hown : s.vm.findClass "LoanDeskModel" = some m.cls := findClass_of_methodNamed B.named
  have hlocks := B.notSynchronized
  subst hsz
  have hD := hD0.self (sz := s.heap.size)
  generalize hAe : va_A (ld_oW f fo ++ ld_bW f cI fb ++ ld_sW f cI cZ fs) s.heap.size = A at hD ⊢
  have hA : ∀ q : Nat, s.heap.size ≤ q → A q := fun q h => by rw [← hAe]; exact Or.inr h
  have hS : va_S A s.heap s.heap [] := va_S.rf
  have hl := lv_entry ([.ref (f 0), .int p0, .int p1]) (n := 4) (Nat.le_of_ble_eq_true rfl)
  rw [lg_entry_eq]
  generalize (lg_sl ([.ref (f 0), .int p0, .int p1]) ++ List.replicate (4 - (lg_sl ([.ref (f 0), .int p0, .int p1])).length) Slot.unset).toArray = ls at hl ⊢
  have hl : lv_has ls 4 [(0, .ref (f 0)), (1, .int p0), (2, .int p1)] := hl
  refine lv_aload_n hx hb d_fIsUsed_0 rfl (lv_at hl 0 rfl) ?_
  obtain ⟨r_1, e_1, h⟩ := ld_ob h
  refine ld_mv (wr := ([1, 2, 3, 4, 5, 6] : List Nat).filterMap (fun i => (ld_oW f fo ++ ld_bW f cI fb ++ ld_sW f cI cZ fs)[i]?)) (ws2 := ld_oW f r_1.1 ++ ld_bW f cI fb ++ ld_sW f cI cZ r_1.2) (va_runV (As := []) (rest := []) ⟨hx, hb, hml, hown, hg⟩ (lc_fforget l D cI cZ cJ f fo fs _ N r_1 e_1) ⟨callB_of 0 hg (ld_gd k_421) rfl rfl rfl (hg _ k_30) (hg _ k_419) hd_fforget ⟨Nat.le_of_ble_eq_true rfl, Nat.le_of_ble_eq_true rfl⟩, hg _ k_420, hg _ k_13⟩ (ld_preMV hP hK hN hD [0, 7, 8] (by decide) rfl 7 0 rfl rfl) rfl rfl hl.1 rfl (lv_room (Nat.le_of_ble_eq_true rfl)) d_fIsUsed_1 ⟨Nat.zero_le _, Nat.zero_le _⟩) hP hD hS hA [0, 7, 8] [1, 2, 3, 4, 5, 6] [6, 0, 1, 2, 3, 4, 5, 7, 8] rfl rfl (by decide) (by decide) (by decide) rfl (fun H locs hP hD hS => ?_)
  refine lv_aload_n hx hb d_fIsUsed_4 rfl (lv_at hl 0 rfl) ?_
  refine lv_aload_n hx hb d_fIsUsed_5 rfl (lv_at hl 0 rfl) ?_
  refine va_get (D := D) (ci := 7) (v := .ref (f 5)) (C := "LoanDeskModel") (T := T_Ref) (N := 14) hx hb hg u_Ref hown hK hP 0 rfl rfl 5 (by decide) (hg _ k_375) (fun _ h9 => h9) rfl d_fIsUsed_6 ?_
  refine lv_iload_n hx hb d_fIsUsed_9 rfl (lv_at hl 1 rfl) ?_
  obtain ⟨i_2, h⟩ := ld_grd h
  refine va_iald hx hb hK hP 5 0 rfl rfl (i := p0) i_2 d_fIsUsed_10 ?_
  refine lv_iconst (v := 0) hx hb d_fIsUsed_11 (by decide) ?_
  obtain ⟨r_3, e_3, h⟩ := ld_ob h
  refine ld_mv (wr := ([1, 2, 3, 4, 5, 6] : List Nat).filterMap (fun i => (ld_oW f r_1.1 ++ ld_bW f cI fb ++ ld_sW f cI cZ r_1.2)[i]?)) (ws2 := ld_oW f r_3.1 ++ ld_bW f cI fb ++ ld_sW f cI cZ r_3.2) (va_runV (As := [.int (fb.2.2.2.2.1 p0.toNatClampNeg), .int 0]) (rest := []) ⟨hx, hb, hml, hown, hg⟩ (lc_fmeet l D cI cZ cJ f r_1.1 r_1.2 (fb.2.2.2.2.1 p0.toNatClampNeg) 0 _ N r_3 e_3) ⟨callB_of 2 hg (ld_gd k_424) rfl rfl rfl (hg _ k_30) (hg _ k_422) hd_fmeet ⟨Nat.le_of_ble_eq_true rfl, Nat.le_of_ble_eq_true rfl⟩, hg _ k_423, hg _ k_14⟩ (ld_preMV hP hK hN hD [0, 7, 8] (by decide) rfl 7 0 rfl rfl) rfl rfl hl.1 rfl (lv_room (Nat.le_of_ble_eq_true rfl)) d_fIsUsed_12 ⟨Nat.zero_le _, Nat.zero_le _⟩) hP hD hS hA [0, 7, 8] [1, 2, 3, 4, 5, 6] [6, 0, 1, 2, 3, 4, 5, 7, 8] rfl rfl (by decide) (by decide) (by decide) rfl (fun H locs hP hD hS => ?_)
  refine lv_aload_n hx hb d_fIsUsed_15 rfl (lv_at hl 0 rfl) ?_
  refine lv_aload_n hx hb d_fIsUsed_16 rfl (lv_at hl 0 rfl) ?_
  refine va_get (D := D) (ci := 7) (v := .ref (f 6)) (C := "LoanDeskModel") (T := T_Ref) (N := 14) hx hb hg u_Ref hown hK hP 0 rfl rfl 6 (by decide) (hg _ k_376) (fun _ h9 => h9) rfl d_fIsUsed_17 ?_
  refine lv_iload_n hx hb d_fIsUsed_20 rfl (lv_at hl 1 rfl) ?_
  refine va_iald hx hb hK hP 6 0 rfl rfl (i := p0) i_2 d_fIsUsed_21 ?_
  refine lv_iconst (v := 0) hx hb d_fIsUsed_22 (by decide) ?_
  obtain ⟨r_4, e_4, h⟩ := ld_ob h
  refine ld_mv (wr := ([1, 2, 3, 4, 5, 6] : List Nat).filterMap (fun i => (ld_oW f r_3.1 ++ ld_bW f cI fb ++ ld_sW f cI cZ r_3.2)[i]?)) (ws2 := ld_oW f r_4.1 ++ ld_bW f cI fb ++ ld_sW f cI cZ r_4.2) (va_runV (As := [.int (fb.2.2.2.2.2 p0.toNatClampNeg), .int 0]) (rest := []) ⟨hx, hb, hml, hown, hg⟩ (lc_fmeet l D cI cZ cJ f r_3.1 r_3.2 (fb.2.2.2.2.2 p0.toNatClampNeg) 0 _ N r_4 e_4) ⟨callB_of 2 hg (ld_gd k_424) rfl rfl rfl (hg _ k_30) (hg _ k_422) hd_fmeet ⟨Nat.le_of_ble_eq_true rfl, Nat.le_of_ble_eq_true rfl⟩, hg _ k_423, hg _ k_14⟩ (ld_preMV hP hK hN hD [0, 7, 8] (by decide) rfl 7 0 rfl rfl) rfl rfl hl.1 rfl (lv_room (Nat.le_of_ble_eq_true rfl)) d_fIsUsed_23 ⟨Nat.zero_le _, Nat.zero_le _⟩) hP hD hS hA [0, 7, 8] [1, 2, 3, 4, 5, 6] [6, 0, 1, 2, 3, 4, 5, 7, 8] rfl rfl (by decide) (by decide) (by decide) rfl (fun H locs hP hD hS => ?_)
  obtain ⟨Y1, eY1, h⟩ := ld_ob h
  have kont1 : ∀ (y1 : (Int32 × Int32 × Int32) × ld_sT) (H : Heap) (locs : List Loc) (ls : Array Slot), Y1 = .inl y1 → va_P D vwCl (ld_oW f y1.1 ++ ld_bW f cI fb ++ ld_sW f cI cZ y1.2) H → va_D A (ld_oW f y1.1 ++ ld_bW f cI fb ++ ld_sW f cI cZ y1.2) → va_S A s.heap H locs → lv_has ls 4 [] → W p l e (headSpec (Cond.code y_fIsUsed prog_9_method_13_code 4 (some .boolean) :: bgT) ({ frames := 2, cells := 0, slots := 0, locals := 43 })).room s m ([.ref (f 0), .int p0, .int p1] : List Value).toArray below meth c H locs 0 0 (MQ below (ld_QI D (ld_oW f R.2.1 ++ ld_bW f cI fb ++ ld_sW f cI cZ R.2.2) A R.1) ([.ref (f 0), .int p0, .int p1] : List Value).toArray s 0 0 (A)) (F0 m 101 ls []) := by
    intro y1 H locs ls eq1 hP hD hS hl
    subst eq1
    refine lv_iconst (v := 0) hx hb d_fIsUsed_101 (by decide) ?_
    have h := Option.some.inj h
    subst h
    exact W.zret (v := 0) hx hb hr rfl (fun t ht hW => ⟨⟨_, (), rfl, rfl, by rw [ht]; exact hP, hD⟩, hS.F ht⟩) hS.2.2 d_fIsUsed_102
  have key1 : ∀ (n : Nat) (v1 : (Int32 × Int32 × Int32) × ld_sT) (H : Heap) (locs : List Loc) (ls : Array Slot), ld_it (ls_fIsUsed_1 N fb p1) n v1 = some Y1 → va_P D vwCl (ld_oW f v1.1 ++ ld_bW f cI fb ++ ld_sW f cI cZ v1.2) H → va_D A (ld_oW f v1.1 ++ ld_bW f cI fb ++ ld_sW f cI cZ v1.2) → va_S A s.heap H locs → lv_has ls 4 [(0, .ref (f 0)), (2, .int p1)] → W p l e (headSpec (Cond.code y_fIsUsed prog_9_method_13_code 4 (some .boolean) :: bgT) ({ frames := 2, cells := 0, slots := 0, locals := 43 })).room s m ([.ref (f 0), .int p0, .int p1] : List Value).toArray below meth c H locs 0 0 (MQ below (ld_QI D (ld_oW f R.2.1 ++ ld_bW f cI fb ++ ld_sW f cI cZ R.2.2) A R.1) ([.ref (f 0), .int p0, .int p1] : List Value).toArray s 0 0 (A)) (F0 m 26 ls []) := by
    intro n
    induction n with
    | zero => intro v1 H locs ls g1 hP hD hS hl; cases g1
    | succ n ih1 =>
      intro v1 H locs ls g1 hP hD hS hl
      obtain ⟨z1, hy1, g1⟩ := ld_its g1
      refine lv_aload_n hx hb d_fIsUsed_26 rfl (lv_at hl 0 rfl) ?_
      refine va_get (D := D) (ci := 7) (v := .int v1.1.2.2) (C := "LoanDeskModel") (T := T_Ref) (N := 14) hx hb hg u_Ref hown hK hP 0 rfl rfl 13 (by decide) (hg _ k_383) (fun _ h9 => h9) rfl d_fIsUsed_27 ?_
      refine lv_if_le (tgt := 101) hx hb d_fIsUsed_30 (by decide) (fun c_5 => ?_) (fun c_5 => ?_)
      · have hy1 := (if_pos c_5).symm.trans hy1
        obtain rfl := Option.some.inj hy1
        exact kont1 (v1.1, v1.2) _ _ _ (Option.some.inj g1).symm hP hD hS (lv_sub hl [] rfl)
      · have hy1 := (if_neg c_5).symm.trans hy1
        refine lv_aload_n hx hb d_fIsUsed_33 rfl (lv_at hl 0 rfl) ?_
        refine lv_dup hx hb d_fIsUsed_34 rfl ?_
        refine va_get (D := D) (ci := 7) (v := .int v1.1.2.2) (C := "LoanDeskModel") (T := T_Ref) (N := 14) hx hb hg u_Ref hown hK hP 0 rfl rfl 13 (by decide) (hg _ k_383) (fun _ h9 => h9) rfl d_fIsUsed_35 ?_
        refine lv_iconst (v := 1) hx hb d_fIsUsed_38 (by decide) ?_
        refine lv_isub hx hb d_fIsUsed_39 ?_
        refine va_put (D := D) (ci := 7) (v := .int (v1.1.2.2 - 1)) (ty := .int) (C := "LoanDeskModel") (T := T_Ref) (N := 14) hx hb hg u_Ref t_Ref tk_Ref n_Ref hown hK hP hD hS 0 rfl rfl 13 (by decide) (hg _ k_383) (fun _ h9 => h9) rfl (by decide +kernel) rfl rfl (Nat.le_of_ble_eq_true rfl) d_fIsUsed_40 (fun H locs hP hD hS => ?_)
        have hP : va_P D vwCl (ld_oW f (v1.1.1, v1.1.2.1, v1.1.2.2 - 1) ++ ld_bW f cI fb ++ ld_sW f cI cZ v1.2) H := hP
        have hD : va_D A (ld_oW f (v1.1.1, v1.1.2.1, v1.1.2.2 - 1) ++ ld_bW f cI fb ++ ld_sW f cI cZ v1.2) := hD
        refine lv_aload_n hx hb d_fIsUsed_43 rfl (lv_at hl 0 rfl) ?_
        refine va_get (D := D) (ci := 7) (v := .ref (f 10)) (C := "LoanDeskModel") (T := T_Ref) (N := 14) hx hb hg u_Ref hown hK hP 0 rfl rfl 11 (by decide) (hg _ k_381) (fun _ h9 => h9) rfl d_fIsUsed_44 ?_
        refine lv_aload_n hx hb d_fIsUsed_47 rfl (lv_at hl 0 rfl) ?_
        refine va_get (D := D) (ci := 7) (v := .int (v1.1.2.2 - 1)) (C := "LoanDeskModel") (T := T_Ref) (N := 14) hx hb hg u_Ref hown hK hP 0 rfl rfl 13 (by decide) (hg _ k_383) (fun _ h9 => h9) rfl d_fIsUsed_48 ?_
        obtain ⟨i_6, hy1⟩ := ld_grd hy1
        refine va_iald hx hb hK hP 7 0 rfl rfl (i := v1.1.2.2 - 1) i_6 d_fIsUsed_51 ?_
        refine lv_bipush (v := 16) hx hb d_fIsUsed_52 (by decide) ?_
        refine lv_idiv hx hb d_fIsUsed_54 (by decide) ?_
        refine lv_istore_n (lv' := [(3, .int ((v1.2.1 (v1.1.2.2 - 1).toNatClampNeg) / 16)), (0, .ref (f 0)), (2, .int p1)]) hx hb d_fIsUsed_55 rfl hl (by decide) rfl (fun ls hl => ?_)
        refine lv_aload_n hx hb d_fIsUsed_56 rfl (lv_at hl 1 rfl) ?_
        refine lv_iload_n hx hb d_fIsUsed_57 rfl (lv_at hl 0 rfl) ?_
        refine lv_iload_n hx hb d_fIsUsed_58 rfl (lv_at hl 2 rfl) ?_
        obtain ⟨r_7, e_7, hy1⟩ := ld_ob hy1
        refine ld_rd (W.runV (As := [.int ((v1.2.1 (v1.1.2.2 - 1).toNatClampNeg) / 16), .int p1]) (rest := []) ⟨hx, hb, hml, hown, hg⟩ (lc_fuses l D cI cZ cJ f (v1.1.1, v1.1.2.1, v1.1.2.2 - 1) fb ((v1.2.1 (v1.1.2.2 - 1).toNatClampNeg) / 16) p1 N r_7 e_7) ⟨callB_of 2 hg (ld_gd k_433) rfl rfl rfl (hg _ k_30) (hg _ k_431) hd_fuses ⟨Nat.le_of_ble_eq_true rfl, Nat.le_of_ble_eq_true rfl⟩, hg _ k_432, hg _ k_17⟩ (ld_preRV hP hK hN [0, 1, 2, 3, 4, 5, 6] rfl 7 0 rfl rfl) rfl rfl hl.1 rfl (lv_room (Nat.le_of_ble_eq_true rfl)) d_fIsUsed_59 ⟨Nat.zero_le _, Nat.zero_le _⟩) ?_
        refine lv_if_eq (tgt := 67) hx hb d_fIsUsed_62 (by decide) (fun c_8 => ?_) (fun c_8 => ?_)
        · have hy1 := (if_pos c_8).symm.trans hy1
          refine lv_aload_n hx hb d_fIsUsed_67 rfl (lv_at hl 1 rfl) ?_
          refine lv_iload_n hx hb d_fIsUsed_68 rfl (lv_at hl 0 rfl) ?_
          refine lv_iload_n hx hb d_fIsUsed_69 rfl (lv_at hl 2 rfl) ?_
          obtain ⟨r_9, e_9, hy1⟩ := ld_ob hy1
          refine ld_rd (W.runV (As := [.int ((v1.2.1 (v1.1.2.2 - 1).toNatClampNeg) / 16), .int p1]) (rest := []) ⟨hx, hb, hml, hown, hg⟩ (lc_fchanges l D cI cZ cJ f (v1.1.1, v1.1.2.1, v1.1.2.2 - 1) fb ((v1.2.1 (v1.1.2.2 - 1).toNatClampNeg) / 16) p1 N r_9 e_9) ⟨callB_of 2 hg (ld_gd k_436) rfl rfl rfl (hg _ k_30) (hg _ k_434) hd_fchanges ⟨Nat.le_of_ble_eq_true rfl, Nat.le_of_ble_eq_true rfl⟩, hg _ k_435, hg _ k_18⟩ (ld_preRV hP hK hN [0, 1, 2, 3, 4, 5, 6] rfl 7 0 rfl rfl) rfl rfl hl.1 rfl (lv_room (Nat.le_of_ble_eq_true rfl)) d_fIsUsed_70 ⟨Nat.zero_le _, Nat.zero_le _⟩) ?_
          refine lv_if_ne (tgt := 98) hx hb d_fIsUsed_73 (by decide) (fun c_10 => ?_) (fun c_10 => ?_)
          · have hy1 := (if_neg c_10).symm.trans hy1
            refine lv_goto (tgt := 26) hx hb d_fIsUsed_98 (by decide) ?_
            obtain rfl := Option.some.inj hy1
            exact ih1 ((v1.1.1, v1.1.2.1, v1.1.2.2 - 1), v1.2) _ _ _ g1 hP hD hS (lv_sub hl [1, 2] rfl)
          · have hy1 := (if_pos c_10).symm.trans hy1
            refine lv_aload_n hx hb d_fIsUsed_76 rfl (lv_at hl 1 rfl) ?_
            refine lv_aload_n hx hb d_fIsUsed_77 rfl (lv_at hl 1 rfl) ?_
            refine va_get (D := D) (ci := 7) (v := .ref (f 5)) (C := "LoanDeskModel") (T := T_Ref) (N := 14) hx hb hg u_Ref hown hK hP 0 rfl rfl 5 (by decide) (hg _ k_375) (fun _ h9 => h9) rfl d_fIsUsed_78 ?_
            refine lv_iload_n hx hb d_fIsUsed_81 rfl (lv_at hl 0 rfl) ?_
            obtain ⟨i_11, hy1⟩ := ld_grd hy1
            refine va_iald hx hb hK hP 5 0 rfl rfl (i := (v1.2.1 (v1.1.2.2 - 1).toNatClampNeg) / 16) i_11 d_fIsUsed_82 ?_
            refine lv_iconst (v := 0) hx hb d_fIsUsed_83 (by decide) ?_
            obtain ⟨r_12, e_12, hy1⟩ := ld_ob hy1
            refine ld_mv (wr := ([1, 2, 3, 4, 5, 6] : List Nat).filterMap (fun i => (ld_oW f (v1.1.1, v1.1.2.1, v1.1.2.2 - 1) ++ ld_bW f cI fb ++ ld_sW f cI cZ v1.2)[i]?)) (ws2 := ld_oW f r_12.1 ++ ld_bW f cI fb ++ ld_sW f cI cZ r_12.2) (va_runV (As := [.int (fb.2.2.2.2.1 ((v1.2.1 (v1.1.2.2 - 1).toNatClampNeg) / 16).toNatClampNeg), .int 0]) (rest := []) ⟨hx, hb, hml, hown, hg⟩ (lc_fmeet l D cI cZ cJ f (v1.1.1, v1.1.2.1, v1.1.2.2 - 1) v1.2 (fb.2.2.2.2.1 ((v1.2.1 (v1.1.2.2 - 1).toNatClampNeg) / 16).toNatClampNeg) 0 _ N r_12 e_12) ⟨callB_of 2 hg (ld_gd k_424) rfl rfl rfl (hg _ k_30) (hg _ k_422) hd_fmeet ⟨Nat.le_of_ble_eq_true rfl, Nat.le_of_ble_eq_true rfl⟩, hg _ k_423, hg _ k_14⟩ (ld_preMV hP hK hN hD [0, 7, 8] (by decide) rfl 7 0 rfl rfl) rfl rfl hl.1 rfl (lv_room (Nat.le_of_ble_eq_true rfl)) d_fIsUsed_84 ⟨Nat.zero_le _, Nat.zero_le _⟩) hP hD hS hA [0, 7, 8] [1, 2, 3, 4, 5, 6] [6, 0, 1, 2, 3, 4, 5, 7, 8] rfl rfl (by decide) (by decide) (by decide) rfl (fun H locs hP hD hS => ?_)
            refine lv_aload_n hx hb d_fIsUsed_87 rfl (lv_at hl 1 rfl) ?_
            refine lv_aload_n hx hb d_fIsUsed_88 rfl (lv_at hl 1 rfl) ?_
            refine va_get (D := D) (ci := 7) (v := .ref (f 6)) (C := "LoanDeskModel") (T := T_Ref) (N := 14) hx hb hg u_Ref hown hK hP 0 rfl rfl 6 (by decide) (hg _ k_376) (fun _ h9 => h9) rfl d_fIsUsed_89 ?_
            refine lv_iload_n hx hb d_fIsUsed_92 rfl (lv_at hl 0 rfl) ?_
            refine va_iald hx hb hK hP 6 0 rfl rfl (i := (v1.2.1 (v1.1.2.2 - 1).toNatClampNeg) / 16) i_11 d_fIsUsed_93 ?_
            refine lv_iconst (v := 0) hx hb d_fIsUsed_94 (by decide) ?_
            obtain ⟨r_13, e_13, hy1⟩ := ld_ob hy1
            refine ld_mv (wr := ([1, 2, 3, 4, 5, 6] : List Nat).filterMap (fun i => (ld_oW f r_12.1 ++ ld_bW f cI fb ++ ld_sW f cI cZ r_12.2)[i]?)) (ws2 := ld_oW f r_13.1 ++ ld_bW f cI fb ++ ld_sW f cI cZ r_13.2) (va_runV (As := [.int (fb.2.2.2.2.2 ((v1.2.1 (v1.1.2.2 - 1).toNatClampNeg) / 16).toNatClampNeg), .int 0]) (rest := []) ⟨hx, hb, hml, hown, hg⟩ (lc_fmeet l D cI cZ cJ f r_12.1 r_12.2 (fb.2.2.2.2.2 ((v1.2.1 (v1.1.2.2 - 1).toNatClampNeg) / 16).toNatClampNeg) 0 _ N r_13 e_13) ⟨callB_of 2 hg (ld_gd k_424) rfl rfl rfl (hg _ k_30) (hg _ k_422) hd_fmeet ⟨Nat.le_of_ble_eq_true rfl, Nat.le_of_ble_eq_true rfl⟩, hg _ k_423, hg _ k_14⟩ (ld_preMV hP hK hN hD [0, 7, 8] (by decide) rfl 7 0 rfl rfl) rfl rfl hl.1 rfl (lv_room (Nat.le_of_ble_eq_true rfl)) d_fIsUsed_95 ⟨Nat.zero_le _, Nat.zero_le _⟩) hP hD hS hA [0, 7, 8] [1, 2, 3, 4, 5, 6] [6, 0, 1, 2, 3, 4, 5, 7, 8] rfl rfl (by decide) (by decide) (by decide) rfl (fun H locs hP hD hS => ?_)
            refine lv_goto (tgt := 26) hx hb d_fIsUsed_98 (by decide) ?_
            obtain rfl := Option.some.inj hy1
            exact ih1 (r_13.1, r_13.2) _ _ _ g1 hP hD hS (lv_sub hl [1, 2] rfl)
        · have hy1 := (if_neg c_8).symm.trans hy1
          refine lv_iconst (v := 1) hx hb d_fIsUsed_65 (by decide) ?_
          obtain rfl := Option.some.inj hy1
          obtain rfl := Option.some.inj g1
          have h := Option.some.inj h
          subst h
          exact W.zret (v := 1) hx hb hr rfl (fun t ht hW => ⟨⟨_, (), rfl, rfl, by rw [ht]; exact hP, hD⟩, hS.F ht⟩) hS.2.2 d_fIsUsed_66
  exact key1 N (r_4.1, r_4.2) _ _ _ eY1 hP hD hS (lv_sub hl [0, 2] rfl)
