def ls_fmet_1 (N : Nat) (fb : ld_bT) (p0 : Int32) (p1 : Int32) (v1 : Int32 × Int32 × (Int32 × Int32 × Int32) × ld_eT × ld_sT) : Option ((Int32 × Int32 × (Int32 × Int32 × Int32) × ld_eT × ld_sT) ⊕ (Int32 × Int32 × (Int32 × Int32 × Int32) × ld_eT × ld_sT)) := if v1.2.1 < 0 then some (.inr (v1.1, v1.2.1, v1.2.2.1, v1.2.2.2.1, v1.2.2.2.2)) else if v1.2.1 ≤ p1 then some (.inl (v1.1, v1.2.1 - 1, v1.2.2.1, v1.2.2.2.1, v1.2.2.2.2)) else Option.bind (lm_fmeets N v1.2.2.1 fb v1.2.2.2.1 v1.2.2.2.2 p0 v1.2.1) (fun r_5 => if r_5.1 = 0 then some (.inl (v1.1, v1.2.1 - 1, r_5.2.1, r_5.2.2.1, r_5.2.2.2)) else some (.inl (v1.2.1, v1.2.1 - 1, r_5.2.1, r_5.2.2.1, r_5.2.2.2)))
def lm_fmet (N : Nat) (fo : Int32 × Int32 × Int32) (fb : ld_bT) (fe : ld_eT) (fs : ld_sT) (p0 : Int32) (p1 : Int32) : Option (Int32 × (Int32 × Int32 × Int32) × ld_eT × ld_sT) := ld_lt (lf_fIsPoint fo p0) (fun r_1 => if r_1 = 0 then some (ld_n1, fo, fe, fs) else Option.bind (ld_it (ls_fmet_1 N fb p0 p1) N (ld_n1, fo.1 - 1, fo, fe, fs)) (fun Y1 => some (Y1.1, Y1.2.2.1, Y1.2.2.2.1, Y1.2.2.2.2)))
set_option maxHeartbeats 4000000 in
set_option maxRecDepth 100000 in
theorem lc_fmet (l : Launch) (D : va_G) (cI cZ cJ : ClassId) (f : Nat → Nat) (fo : Int32 × Int32 × Int32) (fb : ld_bT) (fe : ld_eT) (fs : ld_sT) (p0 : Int32) (p1 : Int32) (sz : Nat) (N : Nat) (R : Int32 × (Int32 × Int32 × Int32) × ld_eT × ld_sT) (h : lm_fmet N fo fb fe fs p0 p1 = some R) : Met l y_fmet (Cond.code y_fmet prog_9_method_21_code 5 (some .int) :: bgT) ({ frames := 8, cells := 0, slots := 0, locals := 178 }) (ld_PM D cI cZ cJ (ld_oW f fo ++ ld_bW f cI fb ++ ld_eW f cI cZ fe ++ ld_sW f cI cZ fs) sz [.ref (f 0), .int p0, .int p1]) (ld_QI D (ld_oW f R.2.1 ++ ld_bW f cI fb ++ ld_eW f cI cZ R.2.2.1 ++ ld_sW f cI cZ R.2.2.2) (va_A (ld_oW f fo ++ ld_bW f cI fb ++ ld_eW f cI cZ fe ++ ld_sW f cI cZ fs) sz) R.1) 0 0 ((va_A (ld_oW f fo ++ ld_bW f cI fb ++ ld_eW f cI cZ fe ++ ld_sW f cI cZ fs) sz)) := by
  refine Met.ofW (cc := prog_9_method_21_code) (maxL := 5) (ret := (some .int)) (by decide) rfl ?_
  intro p e s m args below meth c s₁ B hml hv
  obtain ⟨rfl, hsz, hP, hK, hD0, hN⟩ := hv
  have hx := B.exec
  have hb := B.bytes
  have hr := B.returns
  have hg : ∀ w ∈ bgT, w.before _ s = true := fun w h => atoms_spec (ws := (Cond.code y_fmet prog_9_method_21_code 5 (some .int) :: bgT)) B.pre w (List.mem_cons_of_mem _ h)
  have hown : s.vm.findClass "LoanDeskModel" = some m.cls := findClass_of_methodNamed B.named
  have hlocks := B.notSynchronized
  subst hsz
  have hD := hD0.self (sz := s.heap.size)
  generalize hAe : va_A (ld_oW f fo ++ ld_bW f cI fb ++ ld_eW f cI cZ fe ++ ld_sW f cI cZ fs) s.heap.size = A at hD ⊢
  have hA : ∀ q : Nat, s.heap.size ≤ q → A q := fun q h => by rw [← hAe]; exact Or.inr h
  have hS : va_S A s.heap s.heap [] := va_S.rf
  have hl := lv_entry ([.ref (f 0), .int p0, .int p1]) (n := 5) (Nat.le_of_ble_eq_true rfl)
  rw [lg_entry_eq]
  generalize (lg_sl ([.ref (f 0), .int p0, .int p1]) ++ List.replicate (5 - (lg_sl ([.ref (f 0), .int p0, .int p1])).length) Slot.unset).toArray = ls at hl ⊢
  have hl : lv_has ls 5 [(0, .ref (f 0)), (1, .int p0), (2, .int p1)] := hl
  refine lv_aload_n hx hb d_fmet_0 rfl (lv_at hl 0 rfl) ?_
  refine lv_iload_n hx hb d_fmet_1 rfl (lv_at hl 1 rfl) ?_
  obtain ⟨r_1, e_1, h⟩ := ld_nm h
  refine ld_rd (W.runV (As := [.int p0]) (rest := []) ⟨hx, hb, hml, hown, hg⟩ (lc_fIsPoint l D cI cZ cJ f fo p0 r_1 e_1) ⟨callB_of 1 hg (ld_gd k_427) rfl rfl rfl (hg _ k_30) (hg _ k_425) hd_fIsPoint ⟨Nat.le_of_ble_eq_true rfl, Nat.le_of_ble_eq_true rfl⟩, hg _ k_426, hg _ k_15⟩ (ld_preRV hP hK hN [0] rfl 7 0 rfl rfl) rfl rfl hl.1 rfl (lv_room (Nat.le_of_ble_eq_true rfl)) d_fmet_2 ⟨Nat.zero_le _, Nat.zero_le _⟩) ?_
  refine lv_if_ne (tgt := 10) hx hb d_fmet_5 (by decide) (fun c_2 => ?_) (fun c_2 => ?_)
  · have h := (if_neg c_2).symm.trans h
    refine lv_iconst (v := ld_n1) hx hb d_fmet_10 (by decide) ?_
    refine lv_istore_n (lv' := [(3, .int ld_n1), (0, .ref (f 0)), (1, .int p0), (2, .int p1)]) hx hb d_fmet_11 rfl hl (by decide) rfl (fun ls hl => ?_)
    refine lv_aload_n hx hb d_fmet_12 rfl (lv_at hl 1 rfl) ?_
    refine va_get (D := D) (ci := 7) (v := .int fo.1) (C := "LoanDeskModel") (T := T_Ref) (N := 14) hx hb hg u_Ref hown hK hP 0 rfl rfl 0 (by decide) (hg _ k_370) (fun _ h9 => h9) rfl d_fmet_13 ?_
    refine lv_iconst (v := 1) hx hb d_fmet_16 (by decide) ?_
    refine lv_isub hx hb d_fmet_17 ?_
    refine lv_istore (lv' := [(4, .int (fo.1 - 1)), (3, .int ld_n1), (0, .ref (f 0)), (1, .int p0), (2, .int p1)]) hx hb d_fmet_18 hl (by decide) rfl (fun ls hl => ?_)
    obtain ⟨Y1, eY1, h⟩ := ld_ob h
    have kont1 : ∀ (H : Heap) (locs : List Loc) (ls : Array Slot), va_P D vwCl (ld_oW f Y1.2.2.1 ++ ld_bW f cI fb ++ ld_eW f cI cZ Y1.2.2.2.1 ++ ld_sW f cI cZ Y1.2.2.2.2) H → va_D A (ld_oW f Y1.2.2.1 ++ ld_bW f cI fb ++ ld_eW f cI cZ Y1.2.2.2.1 ++ ld_sW f cI cZ Y1.2.2.2.2) → va_S A s.heap H locs → lv_has ls 5 [(3, .int Y1.1)] → W p l e (headSpec (Cond.code y_fmet prog_9_method_21_code 5 (some .int) :: bgT) ({ frames := 8, cells := 0, slots := 0, locals := 178 })).room s m ([.ref (f 0), .int p0, .int p1] : List Value).toArray below meth c H locs 0 0 (MQ below (ld_QI D (ld_oW f R.2.1 ++ ld_bW f cI fb ++ ld_eW f cI cZ R.2.2.1 ++ ld_sW f cI cZ R.2.2.2) A R.1) ([.ref (f 0), .int p0, .int p1] : List Value).toArray s 0 0 (A)) (F0 m 54 ls []) := by
      intro H locs ls hP hD hS hl
      refine lv_iload_n hx hb d_fmet_54 rfl (lv_at hl 0 rfl) ?_
      have h := Option.some.inj h
      subst h
      exact W.iret (v := Y1.1) hx hb hr (fun t ht hW => ⟨⟨_, (), rfl, rfl, by rw [ht]; exact hP, hD⟩, hS.F ht⟩) hS.2.2 d_fmet_55
    have key1 : ∀ (n : Nat) (v1 : Int32 × Int32 × (Int32 × Int32 × Int32) × ld_eT × ld_sT) (H : Heap) (locs : List Loc) (ls : Array Slot), ld_it (ls_fmet_1 N fb p0 p1) n v1 = some Y1 → va_P D vwCl (ld_oW f v1.2.2.1 ++ ld_bW f cI fb ++ ld_eW f cI cZ v1.2.2.2.1 ++ ld_sW f cI cZ v1.2.2.2.2) H → va_D A (ld_oW f v1.2.2.1 ++ ld_bW f cI fb ++ ld_eW f cI cZ v1.2.2.2.1 ++ ld_sW f cI cZ v1.2.2.2.2) → va_S A s.heap H locs → lv_has ls 5 [(0, .ref (f 0)), (1, .int p0), (2, .int p1), (3, .int v1.1), (4, .int v1.2.1)] → W p l e (headSpec (Cond.code y_fmet prog_9_method_21_code 5 (some .int) :: bgT) ({ frames := 8, cells := 0, slots := 0, locals := 178 })).room s m ([.ref (f 0), .int p0, .int p1] : List Value).toArray below meth c H locs 0 0 (MQ below (ld_QI D (ld_oW f R.2.1 ++ ld_bW f cI fb ++ ld_eW f cI cZ R.2.2.1 ++ ld_sW f cI cZ R.2.2.2) A R.1) ([.ref (f 0), .int p0, .int p1] : List Value).toArray s 0 0 (A)) (F0 m 20 ls []) := by
      intro n
      induction n with
      | zero => intro v1 H locs ls g1 hP hD hS hl; cases g1
      | succ n ih1 =>
        intro v1 H locs ls g1 hP hD hS hl
        obtain ⟨z1, hy1, g1⟩ := ld_its g1
        refine lv_iload hx hb d_fmet_20 (lv_at hl 4 rfl) ?_
        refine lv_if_lt (tgt := 54) hx hb d_fmet_22 (by decide) (fun c_3 => ?_) (fun c_3 => ?_)
        · have hy1 := (if_pos c_3).symm.trans hy1
          obtain rfl := Option.some.inj hy1
          obtain rfl := Option.some.inj g1
          exact kont1 _ _ _ hP hD hS (lv_sub hl [3] rfl)
        · have hy1 := (if_neg c_3).symm.trans hy1
          refine lv_iload hx hb d_fmet_25 (lv_at hl 4 rfl) ?_
          refine lv_iload_n hx hb d_fmet_27 rfl (lv_at hl 2 rfl) ?_
          refine lv_icmp_le (tgt := 46) hx hb d_fmet_28 (by decide) (fun c_4 => ?_) (fun c_4 => ?_)
          · have hy1 := (if_pos c_4).symm.trans hy1
            refine lv_iload_n hx hb d_fmet_46 rfl (lv_at hl 3 rfl) ?_
            refine lv_istore_n (lv' := [(3, .int v1.1), (0, .ref (f 0)), (1, .int p0), (2, .int p1), (4, .int v1.2.1)]) hx hb d_fmet_47 rfl hl (by decide) rfl (fun ls hl => ?_)
            refine lv_iinc (v := v1.2.1 - 1) (lv' := [(4, .int (v1.2.1 - 1)), (3, .int v1.1), (0, .ref (f 0)), (1, .int p0), (2, .int p1)]) hx hb d_fmet_48 hl (k := 4) rfl (ld_m1 _) (by decide) rfl (fun ls hl => ?_)
            refine lv_goto (tgt := 20) hx hb d_fmet_51 (by decide) ?_
            obtain rfl := Option.some.inj hy1
            exact ih1 (v1.1, v1.2.1 - 1, v1.2.2.1, v1.2.2.2.1, v1.2.2.2.2) _ _ _ g1 hP hD hS (lv_sub hl [2, 3, 4, 1, 0] rfl)
          · have hy1 := (if_neg c_4).symm.trans hy1
            refine lv_aload_n hx hb d_fmet_31 rfl (lv_at hl 0 rfl) ?_
            refine lv_iload_n hx hb d_fmet_32 rfl (lv_at hl 1 rfl) ?_
            refine lv_iload hx hb d_fmet_33 (lv_at hl 4 rfl) ?_
            obtain ⟨r_5, e_5, hy1⟩ := ld_ob hy1
            refine ld_mi (wr := ([] : List Nat).filterMap (fun i => (ld_oW f v1.2.2.1 ++ ld_bW f cI fb ++ ld_eW f cI cZ v1.2.2.2.1 ++ ld_sW f cI cZ v1.2.2.2.2)[i]?)) (ws2 := ld_oW f r_5.2.1 ++ ld_bW f cI fb ++ ld_eW f cI cZ r_5.2.2.1 ++ ld_sW f cI cZ r_5.2.2.2) (va_runV (As := [.int p0, .int v1.2.1]) (rest := []) ⟨hx, hb, hml, hown, hg⟩ (lc_fmeets l D cI cZ cJ f v1.2.2.1 fb v1.2.2.2.1 v1.2.2.2.2 p0 v1.2.1 _ N r_5 e_5) ⟨callB_of 2 hg (ld_gd k_463) rfl rfl rfl (hg _ k_30) (hg _ k_461) hd_fmeets ⟨Nat.le_of_ble_eq_true rfl, Nat.le_of_ble_eq_true rfl⟩, hg _ k_462, hg _ k_21⟩ (ld_preMV hP hK hN hD [0, 1, 2, 3, 4, 5, 6, 7, 8, 9, 10, 11] (by decide) rfl 7 0 rfl rfl) rfl rfl hl.1 rfl (lv_room (Nat.le_of_ble_eq_true rfl)) d_fmet_35 ⟨Nat.zero_le _, Nat.zero_le _⟩) hP hD hS hA [0, 1, 2, 3, 4, 5, 6, 7, 8, 9, 10, 11] [] [0, 1, 2, 3, 4, 5, 6, 7, 8, 9, 10, 11] rfl rfl (by decide) (by decide) (by decide) rfl (fun H locs hP hD hS => ?_)
            refine lv_if_eq (tgt := 46) hx hb d_fmet_38 (by decide) (fun c_6 => ?_) (fun c_6 => ?_)
            · have hy1 := (if_pos c_6).symm.trans hy1
              refine lv_iload_n hx hb d_fmet_46 rfl (lv_at hl 3 rfl) ?_
              refine lv_istore_n (lv' := [(3, .int v1.1), (0, .ref (f 0)), (1, .int p0), (2, .int p1), (4, .int v1.2.1)]) hx hb d_fmet_47 rfl hl (by decide) rfl (fun ls hl => ?_)
              refine lv_iinc (v := v1.2.1 - 1) (lv' := [(4, .int (v1.2.1 - 1)), (3, .int v1.1), (0, .ref (f 0)), (1, .int p0), (2, .int p1)]) hx hb d_fmet_48 hl (k := 4) rfl (ld_m1 _) (by decide) rfl (fun ls hl => ?_)
              refine lv_goto (tgt := 20) hx hb d_fmet_51 (by decide) ?_
              obtain rfl := Option.some.inj hy1
              exact ih1 (v1.1, v1.2.1 - 1, r_5.2.1, r_5.2.2.1, r_5.2.2.2) _ _ _ g1 hP hD hS (lv_sub hl [2, 3, 4, 1, 0] rfl)
            · have hy1 := (if_neg c_6).symm.trans hy1
              refine lv_iload hx hb d_fmet_41 (lv_at hl 4 rfl) ?_
              refine lv_goto (tgt := 47) hx hb d_fmet_43 (by decide) ?_
              refine lv_istore_n (lv' := [(3, .int v1.2.1), (0, .ref (f 0)), (1, .int p0), (2, .int p1), (4, .int v1.2.1)]) hx hb d_fmet_47 rfl hl (by decide) rfl (fun ls hl => ?_)
              refine lv_iinc (v := v1.2.1 - 1) (lv' := [(4, .int (v1.2.1 - 1)), (3, .int v1.2.1), (0, .ref (f 0)), (1, .int p0), (2, .int p1)]) hx hb d_fmet_48 hl (k := 4) rfl (ld_m1 _) (by decide) rfl (fun ls hl => ?_)
              refine lv_goto (tgt := 20) hx hb d_fmet_51 (by decide) ?_
              obtain rfl := Option.some.inj hy1
              exact ih1 (v1.2.1, v1.2.1 - 1, r_5.2.1, r_5.2.2.1, r_5.2.2.2) _ _ _ g1 hP hD hS (lv_sub hl [2, 3, 4, 1, 0] rfl)
    exact key1 N (ld_n1, fo.1 - 1, fo, fe, fs) _ _ _ eY1 hP hD hS (lv_sub hl [2, 3, 4, 1, 0] rfl)
  · have h := (if_pos c_2).symm.trans h
    refine lv_iconst (v := ld_n1) hx hb d_fmet_8 (by decide) ?_
    have h := Option.some.inj h
    subst h
    exact W.iret (v := ld_n1) hx hb hr (fun t ht hW => ⟨⟨_, (), rfl, rfl, by rw [ht]; exact hP, hD⟩, hS.F ht⟩) hS.2.2 d_fmet_9
def ls_fcount_1 (N : Nat) (fb : ld_bT) (p0 : Int32) (v1 : Int32 × Int32 × Int32 × Int32 × Int32 × (Int32 × Int32 × Int32) × ld_eT × ld_sT) : Option ((Int32 × Int32 × Int32 × Int32 × Int32 × (Int32 × Int32 × Int32) × ld_eT × ld_sT) ⊕ (Int32 × Int32 × Int32 × Int32 × Int32 × (Int32 × Int32 × Int32) × ld_eT × ld_sT)) := if v1.2.2.2.2.1 < 0 then some (.inr (v1.1, v1.2.1, v1.2.2.1, v1.2.2.2.1, v1.2.2.2.2.1, v1.2.2.2.2.2.1, v1.2.2.2.2.2.2.1, v1.2.2.2.2.2.2.2)) else if p0 ≤ 0 then some (.inr (v1.1, v1.2.1, v1.2.2.1, v1.2.2.2.1, v1.2.2.2.2.1, v1.2.2.2.2.2.1, v1.2.2.2.2.2.2.1, v1.2.2.2.2.2.2.2)) else if 5 ≤ p0 then some (.inr (v1.1, v1.2.1, v1.2.2.1, v1.2.2.2.1, v1.2.2.2.2.1, v1.2.2.2.2.2.1, v1.2.2.2.2.2.2.1, v1.2.2.2.2.2.2.2)) else if ld_in v1.2.2.2.2.1 120 = true then (if (v1.2.2.2.2.2.2.1.1 v1.2.2.2.2.1.toNatClampNeg) = 0 then (if (fb.1 v1.2.2.2.2.1.toNatClampNeg) = 1 then (if p0 = 2 then (Option.bind (lm_fmet N v1.2.2.2.2.2.1 fb v1.2.2.2.2.2.2.1 v1.2.2.2.2.2.2.2 v1.2.2.2.2.1 ld_n1) (fun r_30 => if r_30.1 < 0 then some (.inl (v1.1, v1.2.1, v1.2.2.1, v1.2.2.2.1 + 1, v1.2.2.2.2.1 - 1, r_30.2.1, r_30.2.2.1, r_30.2.2.2)) else some (.inl (v1.1, v1.2.1 + 1, v1.2.2.2.2.1, v1.2.2.2.1 + 1, v1.2.2.2.2.1 - 1, r_30.2.1, r_30.2.2.1, r_30.2.2.2)))) else if p0 = 3 then (Option.bind (lm_fmet N v1.2.2.2.2.2.1 fb v1.2.2.2.2.2.2.1 v1.2.2.2.2.2.2.2 v1.2.2.2.2.1 ld_n1) (fun r_39 => if r_39.1 < 0 then some (.inl (v1.1, v1.2.1, v1.2.2.1, v1.2.2.2.1 + 1, v1.2.2.2.2.1 - 1, r_39.2.1, r_39.2.2.1, r_39.2.2.2)) else some (.inl (v1.1, v1.2.1 + 1, v1.2.2.2.2.1, v1.2.2.2.1 + 1, v1.2.2.2.2.1 - 1, r_39.2.1, r_39.2.2.1, r_39.2.2.2)))) else some (.inl (v1.1, v1.2.1, v1.2.2.1, v1.2.2.2.1 + 1, v1.2.2.2.2.1 - 1, v1.2.2.2.2.2.1, v1.2.2.2.2.2.2.1, v1.2.2.2.2.2.2.2))) else if p0 = 2 then (Option.bind (lm_fmet N v1.2.2.2.2.2.1 fb v1.2.2.2.2.2.2.1 v1.2.2.2.2.2.2.2 v1.2.2.2.2.1 ld_n1) (fun r_14 => if r_14.1 < 0 then some (.inl (v1.1, v1.2.1, v1.2.2.1, v1.2.2.2.1, v1.2.2.2.2.1 - 1, r_14.2.1, r_14.2.2.1, r_14.2.2.2)) else some (.inl (v1.1, v1.2.1 + 1, v1.2.2.2.2.1, v1.2.2.2.1, v1.2.2.2.2.1 - 1, r_14.2.1, r_14.2.2.1, r_14.2.2.2)))) else if p0 = 3 then (Option.bind (lm_fmet N v1.2.2.2.2.2.1 fb v1.2.2.2.2.2.2.1 v1.2.2.2.2.2.2.2 v1.2.2.2.2.1 ld_n1) (fun r_23 => if r_23.1 < 0 then some (.inl (v1.1, v1.2.1, v1.2.2.1, v1.2.2.2.1, v1.2.2.2.2.1 - 1, r_23.2.1, r_23.2.2.1, r_23.2.2.2)) else some (.inl (v1.1, v1.2.1 + 1, v1.2.2.2.2.1, v1.2.2.2.1, v1.2.2.2.2.1 - 1, r_23.2.1, r_23.2.2.1, r_23.2.2.2)))) else some (.inl (v1.1, v1.2.1, v1.2.2.1, v1.2.2.2.1, v1.2.2.2.2.1 - 1, v1.2.2.2.2.2.1, v1.2.2.2.2.2.2.1, v1.2.2.2.2.2.2.2))) else if (fb.1 v1.2.2.2.2.1.toNatClampNeg) = 1 then (if p0 = 2 then (Option.bind (lm_fmet N v1.2.2.2.2.2.1 fb v1.2.2.2.2.2.2.1 v1.2.2.2.2.2.2.2 v1.2.2.2.2.1 ld_n1) (fun r_63 => if r_63.1 < 0 then some (.inl (v1.1 + 1, v1.2.1, v1.2.2.1, v1.2.2.2.1 + 1, v1.2.2.2.2.1 - 1, r_63.2.1, r_63.2.2.1, r_63.2.2.2)) else some (.inl (v1.1 + 1, v1.2.1 + 1, v1.2.2.2.2.1, v1.2.2.2.1 + 1, v1.2.2.2.2.1 - 1, r_63.2.1, r_63.2.2.1, r_63.2.2.2)))) else if p0 = 3 then (Option.bind (lm_fmet N v1.2.2.2.2.2.1 fb v1.2.2.2.2.2.2.1 v1.2.2.2.2.2.2.2 v1.2.2.2.2.1 ld_n1) (fun r_72 => if r_72.1 < 0 then some (.inl (v1.1 + 1, v1.2.1, v1.2.2.1, v1.2.2.2.1 + 1, v1.2.2.2.2.1 - 1, r_72.2.1, r_72.2.2.1, r_72.2.2.2)) else some (.inl (v1.1 + 1, v1.2.1 + 1, v1.2.2.2.2.1, v1.2.2.2.1 + 1, v1.2.2.2.2.1 - 1, r_72.2.1, r_72.2.2.1, r_72.2.2.2)))) else some (.inl (v1.1 + 1, v1.2.1, v1.2.2.1, v1.2.2.2.1 + 1, v1.2.2.2.2.1 - 1, v1.2.2.2.2.2.1, v1.2.2.2.2.2.2.1, v1.2.2.2.2.2.2.2))) else if p0 = 2 then (Option.bind (lm_fmet N v1.2.2.2.2.2.1 fb v1.2.2.2.2.2.2.1 v1.2.2.2.2.2.2.2 v1.2.2.2.2.1 ld_n1) (fun r_47 => if r_47.1 < 0 then some (.inl (v1.1 + 1, v1.2.1, v1.2.2.1, v1.2.2.2.1, v1.2.2.2.2.1 - 1, r_47.2.1, r_47.2.2.1, r_47.2.2.2)) else some (.inl (v1.1 + 1, v1.2.1 + 1, v1.2.2.2.2.1, v1.2.2.2.1, v1.2.2.2.2.1 - 1, r_47.2.1, r_47.2.2.1, r_47.2.2.2)))) else if p0 = 3 then (Option.bind (lm_fmet N v1.2.2.2.2.2.1 fb v1.2.2.2.2.2.2.1 v1.2.2.2.2.2.2.2 v1.2.2.2.2.1 ld_n1) (fun r_56 => if r_56.1 < 0 then some (.inl (v1.1 + 1, v1.2.1, v1.2.2.1, v1.2.2.2.1, v1.2.2.2.2.1 - 1, r_56.2.1, r_56.2.2.1, r_56.2.2.2)) else some (.inl (v1.1 + 1, v1.2.1 + 1, v1.2.2.2.2.1, v1.2.2.2.1, v1.2.2.2.2.1 - 1, r_56.2.1, r_56.2.2.1, r_56.2.2.2)))) else some (.inl (v1.1 + 1, v1.2.1, v1.2.2.1, v1.2.2.2.1, v1.2.2.2.2.1 - 1, v1.2.2.2.2.2.1, v1.2.2.2.2.2.2.1, v1.2.2.2.2.2.2.2))) else none
def lm_fcount (N : Nat) (fo : Int32 × Int32 × Int32) (fb : ld_bT) (fe : ld_eT) (fs : ld_sT) (p0 : Int32) : Option (Int32 × (Int32 × Int32 × Int32) × ld_eT × ld_sT) := Option.bind (lm_flearn N fo fb fe fs) (fun r_1 => Option.bind (ld_it (ls_fcount_1 N fb p0) N (0, 0, ld_n1, 0, r_1.1.1 - 1, r_1.1, r_1.2.1, r_1.2.2)) (fun Y1 => if p0 = 0 then some (Y1.2.2.2.2.2.1.1, Y1.2.2.2.2.2.1, Y1.2.2.2.2.2.2.1, Y1.2.2.2.2.2.2.2) else if p0 = 1 then some (Y1.1, Y1.2.2.2.2.2.1, Y1.2.2.2.2.2.2.1, Y1.2.2.2.2.2.2.2) else if p0 = 2 then some (Y1.2.1, Y1.2.2.2.2.2.1, Y1.2.2.2.2.2.2.1, Y1.2.2.2.2.2.2.2) else if p0 = 3 then some (Y1.2.2.1, Y1.2.2.2.2.2.1, Y1.2.2.2.2.2.2.1, Y1.2.2.2.2.2.2.2) else if p0 = 4 then some (Y1.2.2.2.1, Y1.2.2.2.2.2.1, Y1.2.2.2.2.2.2.1, Y1.2.2.2.2.2.2.2) else some (ld_n1, Y1.2.2.2.2.2.1, Y1.2.2.2.2.2.2.1, Y1.2.2.2.2.2.2.2)))
set_option maxHeartbeats 4000000 in
set_option maxRecDepth 100000 in
theorem lc_fcount (l : Launch) (D : va_G) (cI cZ cJ : ClassId) (f : Nat → Nat) (fo : Int32 × Int32 × Int32) (fb : ld_bT) (fe : ld_eT) (fs : ld_sT) (p0 : Int32) (sz : Nat) (N : Nat) (R : Int32 × (Int32 × Int32 × Int32) × ld_eT × ld_sT) (h : lm_fcount N fo fb fe fs p0 = some R) : Met l y_fcount (Cond.code y_fcount prog_9_method_22_code 8 (some .int) :: bgT) ({ frames := 9, cells := 0, slots := 0, locals := 202 }) (ld_PM D cI cZ cJ (ld_oW f fo ++ ld_bW f cI fb ++ ld_eW f cI cZ fe ++ ld_sW f cI cZ fs) sz [.ref (f 0), .int p0]) (ld_QI D (ld_oW f R.2.1 ++ ld_bW f cI fb ++ ld_eW f cI cZ R.2.2.1 ++ ld_sW f cI cZ R.2.2.2) (va_A (ld_oW f fo ++ ld_bW f cI fb ++ ld_eW f cI cZ fe ++ ld_sW f cI cZ fs) sz) R.1) 0 0 ((va_A (ld_oW f fo ++ ld_bW f cI fb ++ ld_eW f cI cZ fe ++ ld_sW f cI cZ fs) sz)) := by
  refine Met.ofW (cc := prog_9_method_22_code) (maxL := 8) (ret := (some .int)) (by decide) rfl ?_
  intro p e s m args below meth c s₁ B hml hv
  obtain ⟨rfl, hsz, hP, hK, hD0, hN⟩ := hv
  have hx := B.exec
  have hb := B.bytes
  have hr := B.returns
  have hg : ∀ w ∈ bgT, w.before _ s = true := fun w h => atoms_spec (ws := (Cond.code y_fcount prog_9_method_22_code 8 (some .int) :: bgT)) B.pre w (List.mem_cons_of_mem _ h)
  have hown : s.vm.findClass "LoanDeskModel" = some m.cls := findClass_of_methodNamed B.named
  have hlocks := B.notSynchronized
  subst hsz
  have hD := hD0.self (sz := s.heap.size)
  generalize hAe : va_A (ld_oW f fo ++ ld_bW f cI fb ++ ld_eW f cI cZ fe ++ ld_sW f cI cZ fs) s.heap.size = A at hD ⊢
  have hA : ∀ q : Nat, s.heap.size ≤ q → A q := fun q h => by rw [← hAe]; exact Or.inr h
  have hS : va_S A s.heap s.heap [] := va_S.rf
  have hl := lv_entry ([.ref (f 0), .int p0]) (n := 8) (Nat.le_of_ble_eq_true rfl)
  rw [lg_entry_eq]
  generalize (lg_sl ([.ref (f 0), .int p0]) ++ List.replicate (8 - (lg_sl ([.ref (f 0), .int p0])).length) Slot.unset).toArray = ls at hl ⊢
  have hl : lv_has ls 8 [(0, .ref (f 0)), (1, .int p0)] := hl
  refine lv_aload_n hx hb d_fcount_0 rfl (lv_at hl 0 rfl) ?_
  obtain ⟨r_1, e_1, h⟩ := ld_ob h
  refine ld_mv (wr := ([] : List Nat).filterMap (fun i => (ld_oW f fo ++ ld_bW f cI fb ++ ld_eW f cI cZ fe ++ ld_sW f cI cZ fs)[i]?)) (ws2 := ld_oW f r_1.1 ++ ld_bW f cI fb ++ ld_eW f cI cZ r_1.2.1 ++ ld_sW f cI cZ r_1.2.2) (va_runV (As := []) (rest := []) ⟨hx, hb, hml, hown, hg⟩ (lc_flearn l D cI cZ cJ f fo fb fe fs _ N r_1 e_1) ⟨callB_of 0 hg (ld_gd k_418) rfl rfl rfl (hg _ k_30) (hg _ k_416) hd_flearn ⟨Nat.le_of_ble_eq_true rfl, Nat.le_of_ble_eq_true rfl⟩, hg _ k_417, hg _ k_12⟩ (ld_preMV hP hK hN hD [0, 1, 2, 3, 4, 5, 6, 7, 8, 9, 10, 11] (by decide) rfl 7 0 rfl rfl) rfl rfl hl.1 rfl (lv_room (Nat.le_of_ble_eq_true rfl)) d_fcount_1 ⟨Nat.zero_le _, Nat.zero_le _⟩) hP hD hS hA [0, 1, 2, 3, 4, 5, 6, 7, 8, 9, 10, 11] [] [0, 1, 2, 3, 4, 5, 6, 7, 8, 9, 10, 11] rfl rfl (by decide) (by decide) (by decide) rfl (fun H locs hP hD hS => ?_)
  refine lv_iconst (v := 0) hx hb d_fcount_4 (by decide) ?_
  refine lv_istore_n (lv' := [(2, .int 0), (0, .ref (f 0)), (1, .int p0)]) hx hb d_fcount_5 rfl hl (by decide) rfl (fun ls hl => ?_)
  refine lv_iconst (v := 0) hx hb d_fcount_6 (by decide) ?_
  refine lv_istore_n (lv' := [(3, .int 0), (2, .int 0), (0, .ref (f 0)), (1, .int p0)]) hx hb d_fcount_7 rfl hl (by decide) rfl (fun ls hl => ?_)
  refine lv_iconst (v := ld_n1) hx hb d_fcount_8 (by decide) ?_
  refine lv_istore (lv' := [(4, .int ld_n1), (3, .int 0), (2, .int 0), (0, .ref (f 0)), (1, .int p0)]) hx hb d_fcount_9 hl (by decide) rfl (fun ls hl => ?_)
  refine lv_iconst (v := 0) hx hb d_fcount_11 (by decide) ?_
  refine lv_istore (lv' := [(5, .int 0), (4, .int ld_n1), (3, .int 0), (2, .int 0), (0, .ref (f 0)), (1, .int p0)]) hx hb d_fcount_12 hl (by decide) rfl (fun ls hl => ?_)
  refine lv_aload_n hx hb d_fcount_14 rfl (lv_at hl 4 rfl) ?_
  refine va_get (D := D) (ci := 7) (v := .int r_1.1.1) (C := "LoanDeskModel") (T := T_Ref) (N := 14) hx hb hg u_Ref hown hK hP 0 rfl rfl 0 (by decide) (hg _ k_370) (fun _ h9 => h9) rfl d_fcount_15 ?_
  refine lv_iconst (v := 1) hx hb d_fcount_18 (by decide) ?_
  refine lv_isub hx hb d_fcount_19 ?_
  refine lv_istore (lv' := [(6, .int (r_1.1.1 - 1)), (5, .int 0), (4, .int ld_n1), (3, .int 0), (2, .int 0), (0, .ref (f 0)), (1, .int p0)]) hx hb d_fcount_20 hl (by decide) rfl (fun ls hl => ?_)
  obtain ⟨Y1, eY1, h⟩ := ld_ob h
  have kont1 : ∀ (H : Heap) (locs : List Loc) (ls : Array Slot), va_P D vwCl (ld_oW f Y1.2.2.2.2.2.1 ++ ld_bW f cI fb ++ ld_eW f cI cZ Y1.2.2.2.2.2.2.1 ++ ld_sW f cI cZ Y1.2.2.2.2.2.2.2) H → va_D A (ld_oW f Y1.2.2.2.2.2.1 ++ ld_bW f cI fb ++ ld_eW f cI cZ Y1.2.2.2.2.2.2.1 ++ ld_sW f cI cZ Y1.2.2.2.2.2.2.2) → va_S A s.heap H locs → lv_has ls 8 [(0, .ref (f 0)), (1, .int p0), (2, .int Y1.1), (3, .int Y1.2.1), (4, .int Y1.2.2.1), (5, .int Y1.2.2.2.1)] → W p l e (headSpec (Cond.code y_fcount prog_9_method_22_code 8 (some .int) :: bgT) ({ frames := 9, cells := 0, slots := 0, locals := 202 })).room s m ([.ref (f 0), .int p0] : List Value).toArray below meth c H locs 0 0 (MQ below (ld_QI D (ld_oW f R.2.1 ++ ld_bW f cI fb ++ ld_eW f cI cZ R.2.2.1 ++ ld_sW f cI cZ R.2.2.2) A R.1) ([.ref (f 0), .int p0] : List Value).toArray s 0 0 (A)) (F0 m 136 ls []) := by
    intro H locs ls hP hD hS hl
    refine lv_iload_n hx hb d_fcount_136 rfl (lv_at hl 1 rfl) ?_
    refine lv_if_ne (tgt := 147) hx hb d_fcount_137 (by decide) (fun c_2 => ?_) (fun c_2 => ?_)
    · have h := (if_neg c_2).symm.trans h
      refine lv_iload_n hx hb d_fcount_147 rfl (lv_at hl 1 rfl) ?_
      refine lv_iconst (v := 1) hx hb d_fcount_148 (by decide) ?_
      refine lv_icmp_ne (tgt := 156) hx hb d_fcount_149 (by decide) (fun c_3 => ?_) (fun c_3 => ?_)
      · have h := (if_neg c_3).symm.trans h
        refine lv_iload_n hx hb d_fcount_156 rfl (lv_at hl 1 rfl) ?_
        refine lv_iconst (v := 2) hx hb d_fcount_157 (by decide) ?_
        refine lv_icmp_ne (tgt := 165) hx hb d_fcount_158 (by decide) (fun c_4 => ?_) (fun c_4 => ?_)
        · have h := (if_neg c_4).symm.trans h
          refine lv_iload_n hx hb d_fcount_165 rfl (lv_at hl 1 rfl) ?_
          refine lv_iconst (v := 3) hx hb d_fcount_166 (by decide) ?_
          refine lv_icmp_ne (tgt := 175) hx hb d_fcount_167 (by decide) (fun c_5 => ?_) (fun c_5 => ?_)
          · have h := (if_neg c_5).symm.trans h
            refine lv_iload_n hx hb d_fcount_175 rfl (lv_at hl 1 rfl) ?_
            refine lv_iconst (v := 4) hx hb d_fcount_176 (by decide) ?_
            refine lv_icmp_ne (tgt := 185) hx hb d_fcount_177 (by decide) (fun c_6 => ?_) (fun c_6 => ?_)
            · have h := (if_neg c_6).symm.trans h
              refine lv_iconst (v := ld_n1) hx hb d_fcount_185 (by decide) ?_
              have h := Option.some.inj h
              subst h
              exact W.iret (v := ld_n1) hx hb hr (fun t ht hW => ⟨⟨_, (), rfl, rfl, by rw [ht]; exact hP, hD⟩, hS.F ht⟩) hS.2.2 d_fcount_186
            · have h := (if_pos c_6).symm.trans h
              refine lv_iload hx hb d_fcount_180 (lv_at hl 5 rfl) ?_
              refine lv_goto (tgt := 186) hx hb d_fcount_182 (by decide) ?_
              have h := Option.some.inj h
              subst h
              exact W.iret (v := Y1.2.2.2.1) hx hb hr (fun t ht hW => ⟨⟨_, (), rfl, rfl, by rw [ht]; exact hP, hD⟩, hS.F ht⟩) hS.2.2 d_fcount_186
          · have h := (if_pos c_5).symm.trans h
            refine lv_iload hx hb d_fcount_170 (lv_at hl 4 rfl) ?_
            refine lv_goto (tgt := 186) hx hb d_fcount_172 (by decide) ?_
            have h := Option.some.inj h
            subst h
            exact W.iret (v := Y1.2.2.1) hx hb hr (fun t ht hW => ⟨⟨_, (), rfl, rfl, by rw [ht]; exact hP, hD⟩, hS.F ht⟩) hS.2.2 d_fcount_186
        · have h := (if_pos c_4).symm.trans h
          refine lv_iload_n hx hb d_fcount_161 rfl (lv_at hl 3 rfl) ?_
          refine lv_goto (tgt := 186) hx hb d_fcount_162 (by decide) ?_
          have h := Option.some.inj h
          subst h
          exact W.iret (v := Y1.2.1) hx hb hr (fun t ht hW => ⟨⟨_, (), rfl, rfl, by rw [ht]; exact hP, hD⟩, hS.F ht⟩) hS.2.2 d_fcount_186
      · have h := (if_pos c_3).symm.trans h
        refine lv_iload_n hx hb d_fcount_152 rfl (lv_at hl 2 rfl) ?_
        refine lv_goto (tgt := 186) hx hb d_fcount_153 (by decide) ?_
        have h := Option.some.inj h
        subst h
        exact W.iret (v := Y1.1) hx hb hr (fun t ht hW => ⟨⟨_, (), rfl, rfl, by rw [ht]; exact hP, hD⟩, hS.F ht⟩) hS.2.2 d_fcount_186
    · have h := (if_pos c_2).symm.trans h
      refine lv_aload_n hx hb d_fcount_140 rfl (lv_at hl 0 rfl) ?_
      refine va_get (D := D) (ci := 7) (v := .int Y1.2.2.2.2.2.1.1) (C := "LoanDeskModel") (T := T_Ref) (N := 14) hx hb hg u_Ref hown hK hP 0 rfl rfl 0 (by decide) (hg _ k_370) (fun _ h9 => h9) rfl d_fcount_141 ?_
      refine lv_goto (tgt := 186) hx hb d_fcount_144 (by decide) ?_
      have h := Option.some.inj h
      subst h
      exact W.iret (v := Y1.2.2.2.2.2.1.1) hx hb hr (fun t ht hW => ⟨⟨_, (), rfl, rfl, by rw [ht]; exact hP, hD⟩, hS.F ht⟩) hS.2.2 d_fcount_186
  have key1 : ∀ (n : Nat) (v1 : Int32 × Int32 × Int32 × Int32 × Int32 × (Int32 × Int32 × Int32) × ld_eT × ld_sT) (H : Heap) (locs : List Loc) (ls : Array Slot), ld_it (ls_fcount_1 N fb p0) n v1 = some Y1 → va_P D vwCl (ld_oW f v1.2.2.2.2.2.1 ++ ld_bW f cI fb ++ ld_eW f cI cZ v1.2.2.2.2.2.2.1 ++ ld_sW f cI cZ v1.2.2.2.2.2.2.2) H → va_D A (ld_oW f v1.2.2.2.2.2.1 ++ ld_bW f cI fb ++ ld_eW f cI cZ v1.2.2.2.2.2.2.1 ++ ld_sW f cI cZ v1.2.2.2.2.2.2.2) → va_S A s.heap H locs → lv_has ls 8 [(0, .ref (f 0)), (1, .int p0), (2, .int v1.1), (3, .int v1.2.1), (4, .int v1.2.2.1), (5, .int v1.2.2.2.1), (6, .int v1.2.2.2.2.1)] → W p l e (headSpec (Cond.code y_fcount prog_9_method_22_code 8 (some .int) :: bgT) ({ frames := 9, cells := 0, slots := 0, locals := 202 })).room s m ([.ref (f 0), .int p0] : List Value).toArray below meth c H locs 0 0 (MQ below (ld_QI D (ld_oW f R.2.1 ++ ld_bW f cI fb ++ ld_eW f cI cZ R.2.2.1 ++ ld_sW f cI cZ R.2.2.2) A R.1) ([.ref (f 0), .int p0] : List Value).toArray s 0 0 (A)) (F0 m 22 ls []) := by
    intro n
    induction n with
    | zero => intro v1 H locs ls g1 hP hD hS hl; cases g1
    | succ n ih1 =>
      intro v1 H locs ls g1 hP hD hS hl
      obtain ⟨z1, hy1, g1⟩ := ld_its g1
      refine lv_iload hx hb d_fcount_22 (lv_at hl 6 rfl) ?_
      refine lv_if_lt (tgt := 136) hx hb d_fcount_24 (by decide) (fun c_7 => ?_) (fun c_7 => ?_)
      · have hy1 := (if_pos c_7).symm.trans hy1
        obtain rfl := Option.some.inj hy1
        obtain rfl := Option.some.inj g1
        exact kont1 _ _ _ hP hD hS (lv_sub hl [0, 1, 2, 3, 4, 5] rfl)
      · have hy1 := (if_neg c_7).symm.trans hy1
        refine lv_iload_n hx hb d_fcount_27 rfl (lv_at hl 1 rfl) ?_
        refine lv_if_le (tgt := 136) hx hb d_fcount_28 (by decide) (fun c_8 => ?_) (fun c_8 => ?_)
        · have hy1 := (if_pos c_8).symm.trans hy1
          obtain rfl := Option.some.inj hy1
          obtain rfl := Option.some.inj g1
          exact kont1 _ _ _ hP hD hS (lv_sub hl [0, 1, 2, 3, 4, 5] rfl)
        · have hy1 := (if_neg c_8).symm.trans hy1
          refine lv_iload_n hx hb d_fcount_31 rfl (lv_at hl 1 rfl) ?_
          refine lv_iconst (v := 5) hx hb d_fcount_32 (by decide) ?_
          refine lv_icmp_ge (tgt := 136) hx hb d_fcount_33 (by decide) (fun c_9 => ?_) (fun c_9 => ?_)
          · have hy1 := (if_pos c_9).symm.trans hy1
            obtain rfl := Option.some.inj hy1
            obtain rfl := Option.some.inj g1
            exact kont1 _ _ _ hP hD hS (lv_sub hl [0, 1, 2, 3, 4, 5] rfl)
          · have hy1 := (if_neg c_9).symm.trans hy1
            refine lv_aload_n hx hb d_fcount_36 rfl (lv_at hl 0 rfl) ?_
            refine va_get (D := D) (ci := 7) (v := .ref (f 7)) (C := "LoanDeskModel") (T := T_Ref) (N := 14) hx hb hg u_Ref hown hK hP 0 rfl rfl 8 (by decide) (hg _ k_378) (fun _ h9 => h9) rfl d_fcount_37 ?_
            refine lv_iload hx hb d_fcount_40 (lv_at hl 6 rfl) ?_
            obtain ⟨i_10, hy1⟩ := ld_grd hy1
            refine va_zald hx hb hK hP 7 1 rfl rfl (i := v1.2.2.2.2.1) i_10 d_fcount_42 ?_
            refine lv_if_eq (tgt := 52) hx hb d_fcount_43 (by decide) (fun c_11 => ?_) (fun c_11 => ?_)
            · have hy1 := (if_pos c_11).symm.trans hy1
              refine lv_iload_n hx hb d_fcount_52 rfl (lv_at hl 2 rfl) ?_
              refine lv_istore_n (lv' := [(2, .int v1.1), (0, .ref (f 0)), (1, .int p0), (3, .int v1.2.1), (4, .int v1.2.2.1), (5, .int v1.2.2.2.1), (6, .int v1.2.2.2.2.1)]) hx hb d_fcount_53 rfl hl (by decide) rfl (fun ls hl => ?_)
              refine lv_aload_n hx hb d_fcount_54 rfl (lv_at hl 1 rfl) ?_
              refine va_get (D := D) (ci := 7) (v := .ref (f 1)) (C := "LoanDeskModel") (T := T_Ref) (N := 14) hx hb hg u_Ref hown hK hP 0 rfl rfl 1 (by decide) (hg _ k_371) (fun _ h9 => h9) rfl d_fcount_55 ?_
              refine lv_iload hx hb d_fcount_58 (lv_at hl 6 rfl) ?_
              refine va_iald hx hb hK hP 1 0 rfl rfl (i := v1.2.2.2.2.1) i_10 d_fcount_60 ?_
              refine lv_iconst (v := 1) hx hb d_fcount_61 (by decide) ?_
              refine lv_icmp_ne (tgt := 72) hx hb d_fcount_62 (by decide) (fun c_12 => ?_) (fun c_12 => ?_)
              · have hy1 := (if_neg c_12).symm.trans hy1
                refine lv_iload hx hb d_fcount_72 (lv_at hl 5 rfl) ?_
                refine lv_istore (lv' := [(5, .int v1.2.2.2.1), (2, .int v1.1), (0, .ref (f 0)), (1, .int p0), (3, .int v1.2.1), (4, .int v1.2.2.1), (6, .int v1.2.2.2.2.1)]) hx hb d_fcount_74 hl (by decide) rfl (fun ls hl => ?_)
                refine lv_iload_n hx hb d_fcount_76 rfl (lv_at hl 3 rfl) ?_
                refine lv_iconst (v := 2) hx hb d_fcount_77 (by decide) ?_
                refine lv_icmp_eq (tgt := 86) hx hb d_fcount_78 (by decide) (fun c_13 => ?_) (fun c_13 => ?_)
                · have hy1 := (if_pos c_13).symm.trans hy1
                  refine lv_aload_n hx hb d_fcount_86 rfl (lv_at hl 2 rfl) ?_
                  refine lv_iload hx hb d_fcount_87 (lv_at hl 6 rfl) ?_
                  refine lv_iconst (v := ld_n1) hx hb d_fcount_89 (by decide) ?_
                  obtain ⟨r_14, e_14, hy1⟩ := ld_ob hy1
                  refine ld_mi (wr := ([] : List Nat).filterMap (fun i => (ld_oW f v1.2.2.2.2.2.1 ++ ld_bW f cI fb ++ ld_eW f cI cZ v1.2.2.2.2.2.2.1 ++ ld_sW f cI cZ v1.2.2.2.2.2.2.2)[i]?)) (ws2 := ld_oW f r_14.2.1 ++ ld_bW f cI fb ++ ld_eW f cI cZ r_14.2.2.1 ++ ld_sW f cI cZ r_14.2.2.2) (va_runV (As := [.int v1.2.2.2.2.1, .int ld_n1]) (rest := []) ⟨hx, hb, hml, hown, hg⟩ (lc_fmet l D cI cZ cJ f v1.2.2.2.2.2.1 fb v1.2.2.2.2.2.2.1 v1.2.2.2.2.2.2.2 v1.2.2.2.2.1 ld_n1 _ N r_14 e_14) ⟨callB_of 2 hg (ld_gd k_460) rfl rfl rfl (hg _ k_30) (hg _ k_473) hd_fmet ⟨Nat.le_of_ble_eq_true rfl, Nat.le_of_ble_eq_true rfl⟩, hg _ k_458, hg _ k_459⟩ (ld_preMV hP hK hN hD [0, 1, 2, 3, 4, 5, 6, 7, 8, 9, 10, 11] (by decide) rfl 7 0 rfl rfl) rfl rfl hl.1 rfl (lv_room (Nat.le_of_ble_eq_true rfl)) d_fcount_90 ⟨Nat.zero_le _, Nat.zero_le _⟩) hP hD hS hA [0, 1, 2, 3, 4, 5, 6, 7, 8, 9, 10, 11] [] [0, 1, 2, 3, 4, 5, 6, 7, 8, 9, 10, 11] rfl rfl (by decide) (by decide) (by decide) rfl (fun H locs hP hD hS => ?_)
                  refine lv_if_lt (tgt := 100) hx hb d_fcount_93 (by decide) (fun c_15 => ?_) (fun c_15 => ?_)
                  · have hy1 := (if_pos c_15).symm.trans hy1
                    refine lv_iconst (v := 0) hx hb d_fcount_100 (by decide) ?_
                    refine lv_istore (lv' := [(7, .int 0), (5, .int v1.2.2.2.1), (2, .int v1.1), (0, .ref (f 0)), (1, .int p0), (3, .int v1.2.1), (4, .int v1.2.2.1), (6, .int v1.2.2.2.2.1)]) hx hb d_fcount_101 hl (by decide) rfl (fun ls hl => ?_)
                    refine lv_iload hx hb d_fcount_103 (lv_at hl 0 rfl) ?_
                    refine lv_if_eq (tgt := 114) hx hb d_fcount_105 (by decide) (fun _ => ?_) (fun c_16 => absurd (by decide) c_16)
                    refine lv_iload_n hx hb d_fcount_114 rfl (lv_at hl 5 rfl) ?_
                    refine lv_istore_n (lv' := [(3, .int v1.2.1), (7, .int 0), (5, .int v1.2.2.2.1), (2, .int v1.1), (0, .ref (f 0)), (1, .int p0), (4, .int v1.2.2.1), (6, .int v1.2.2.2.2.1)]) hx hb d_fcount_115 rfl hl (by decide) rfl (fun ls hl => ?_)
                    refine lv_iload hx hb d_fcount_116 (lv_at hl 1 rfl) ?_
                    refine lv_if_eq (tgt := 126) hx hb d_fcount_118 (by decide) (fun _ => ?_) (fun c_17 => absurd (by decide) c_17)
                    refine lv_iload hx hb d_fcount_126 (lv_at hl 6 rfl) ?_
                    refine lv_istore (lv' := [(4, .int v1.2.2.1), (3, .int v1.2.1), (7, .int 0), (5, .int v1.2.2.2.1), (2, .int v1.1), (0, .ref (f 0)), (1, .int p0), (6, .int v1.2.2.2.2.1)]) hx hb d_fcount_128 hl (by decide) rfl (fun ls hl => ?_)
                    refine lv_iinc (v := v1.2.2.2.2.1 - 1) (lv' := [(6, .int (v1.2.2.2.2.1 - 1)), (4, .int v1.2.2.1), (3, .int v1.2.1), (7, .int 0), (5, .int v1.2.2.2.1), (2, .int v1.1), (0, .ref (f 0)), (1, .int p0)]) hx hb d_fcount_130 hl (k := 7) rfl (ld_m1 _) (by decide) rfl (fun ls hl => ?_)
                    refine lv_goto (tgt := 22) hx hb d_fcount_133 (by decide) ?_
                    obtain rfl := Option.some.inj hy1
                    exact ih1 (v1.1, v1.2.1, v1.2.2.1, v1.2.2.2.1, v1.2.2.2.2.1 - 1, r_14.2.1, r_14.2.2.1, r_14.2.2.2) _ _ _ g1 hP hD hS (lv_sub hl [6, 7, 5, 2, 1, 4, 0] rfl)
                  · have hy1 := (if_neg c_15).symm.trans hy1
                    refine lv_iconst (v := 1) hx hb d_fcount_96 (by decide) ?_
                    refine lv_goto (tgt := 101) hx hb d_fcount_97 (by decide) ?_
                    refine lv_istore (lv' := [(7, .int 1), (5, .int v1.2.2.2.1), (2, .int v1.1), (0, .ref (f 0)), (1, .int p0), (3, .int v1.2.1), (4, .int v1.2.2.1), (6, .int v1.2.2.2.2.1)]) hx hb d_fcount_101 hl (by decide) rfl (fun ls hl => ?_)
                    refine lv_iload hx hb d_fcount_103 (lv_at hl 0 rfl) ?_
                    refine lv_if_eq (tgt := 114) hx hb d_fcount_105 (by decide) (fun c_18 => absurd c_18 (by decide)) (fun _ => ?_)
                    refine lv_iload_n hx hb d_fcount_108 rfl (lv_at hl 5 rfl) ?_
                    refine lv_iconst (v := 1) hx hb d_fcount_109 (by decide) ?_
                    refine lv_iadd hx hb d_fcount_110 ?_
                    refine lv_goto (tgt := 115) hx hb d_fcount_111 (by decide) ?_
                    refine lv_istore_n (lv' := [(3, .int (v1.2.1 + 1)), (7, .int 1), (5, .int v1.2.2.2.1), (2, .int v1.1), (0, .ref (f 0)), (1, .int p0), (4, .int v1.2.2.1), (6, .int v1.2.2.2.2.1)]) hx hb d_fcount_115 rfl hl (by decide) rfl (fun ls hl => ?_)
                    refine lv_iload hx hb d_fcount_116 (lv_at hl 1 rfl) ?_
                    refine lv_if_eq (tgt := 126) hx hb d_fcount_118 (by decide) (fun c_19 => absurd c_19 (by decide)) (fun _ => ?_)
                    refine lv_iload hx hb d_fcount_121 (lv_at hl 7 rfl) ?_
                    refine lv_goto (tgt := 128) hx hb d_fcount_123 (by decide) ?_
                    refine lv_istore (lv' := [(4, .int v1.2.2.2.2.1), (3, .int (v1.2.1 + 1)), (7, .int 1), (5, .int v1.2.2.2.1), (2, .int v1.1), (0, .ref (f 0)), (1, .int p0), (6, .int v1.2.2.2.2.1)]) hx hb d_fcount_128 hl (by decide) rfl (fun ls hl => ?_)
                    refine lv_iinc (v := v1.2.2.2.2.1 - 1) (lv' := [(6, .int (v1.2.2.2.2.1 - 1)), (4, .int v1.2.2.2.2.1), (3, .int (v1.2.1 + 1)), (7, .int 1), (5, .int v1.2.2.2.1), (2, .int v1.1), (0, .ref (f 0)), (1, .int p0)]) hx hb d_fcount_130 hl (k := 7) rfl (ld_m1 _) (by decide) rfl (fun ls hl => ?_)
                    refine lv_goto (tgt := 22) hx hb d_fcount_133 (by decide) ?_
                    obtain rfl := Option.some.inj hy1
                    exact ih1 (v1.1, v1.2.1 + 1, v1.2.2.2.2.1, v1.2.2.2.1, v1.2.2.2.2.1 - 1, r_14.2.1, r_14.2.2.1, r_14.2.2.2) _ _ _ g1 hP hD hS (lv_sub hl [6, 7, 5, 2, 1, 4, 0] rfl)
                · have hy1 := (if_neg c_13).symm.trans hy1
                  refine lv_iload_n hx hb d_fcount_81 rfl (lv_at hl 3 rfl) ?_
                  refine lv_iconst (v := 3) hx hb d_fcount_82 (by decide) ?_
                  refine lv_icmp_ne (tgt := 100) hx hb d_fcount_83 (by decide) (fun c_20 => ?_) (fun c_20 => ?_)
                  · have hy1 := (if_neg c_20).symm.trans hy1
                    refine lv_iconst (v := 0) hx hb d_fcount_100 (by decide) ?_
                    refine lv_istore (lv' := [(7, .int 0), (5, .int v1.2.2.2.1), (2, .int v1.1), (0, .ref (f 0)), (1, .int p0), (3, .int v1.2.1), (4, .int v1.2.2.1), (6, .int v1.2.2.2.2.1)]) hx hb d_fcount_101 hl (by decide) rfl (fun ls hl => ?_)
                    refine lv_iload hx hb d_fcount_103 (lv_at hl 0 rfl) ?_
                    refine lv_if_eq (tgt := 114) hx hb d_fcount_105 (by decide) (fun _ => ?_) (fun c_21 => absurd (by decide) c_21)
                    refine lv_iload_n hx hb d_fcount_114 rfl (lv_at hl 5 rfl) ?_
                    refine lv_istore_n (lv' := [(3, .int v1.2.1), (7, .int 0), (5, .int v1.2.2.2.1), (2, .int v1.1), (0, .ref (f 0)), (1, .int p0), (4, .int v1.2.2.1), (6, .int v1.2.2.2.2.1)]) hx hb d_fcount_115 rfl hl (by decide) rfl (fun ls hl => ?_)
                    refine lv_iload hx hb d_fcount_116 (lv_at hl 1 rfl) ?_
                    refine lv_if_eq (tgt := 126) hx hb d_fcount_118 (by decide) (fun _ => ?_) (fun c_22 => absurd (by decide) c_22)
                    refine lv_iload hx hb d_fcount_126 (lv_at hl 6 rfl) ?_
                    refine lv_istore (lv' := [(4, .int v1.2.2.1), (3, .int v1.2.1), (7, .int 0), (5, .int v1.2.2.2.1), (2, .int v1.1), (0, .ref (f 0)), (1, .int p0), (6, .int v1.2.2.2.2.1)]) hx hb d_fcount_128 hl (by decide) rfl (fun ls hl => ?_)
                    refine lv_iinc (v := v1.2.2.2.2.1 - 1) (lv' := [(6, .int (v1.2.2.2.2.1 - 1)), (4, .int v1.2.2.1), (3, .int v1.2.1), (7, .int 0), (5, .int v1.2.2.2.1), (2, .int v1.1), (0, .ref (f 0)), (1, .int p0)]) hx hb d_fcount_130 hl (k := 7) rfl (ld_m1 _) (by decide) rfl (fun ls hl => ?_)
                    refine lv_goto (tgt := 22) hx hb d_fcount_133 (by decide) ?_
                    obtain rfl := Option.some.inj hy1
                    exact ih1 (v1.1, v1.2.1, v1.2.2.1, v1.2.2.2.1, v1.2.2.2.2.1 - 1, v1.2.2.2.2.2.1, v1.2.2.2.2.2.2.1, v1.2.2.2.2.2.2.2) _ _ _ g1 hP hD hS (lv_sub hl [6, 7, 5, 2, 1, 4, 0] rfl)
                  · have hy1 := (if_pos c_20).symm.trans hy1
                    refine lv_aload_n hx hb d_fcount_86 rfl (lv_at hl 2 rfl) ?_
                    refine lv_iload hx hb d_fcount_87 (lv_at hl 6 rfl) ?_
                    refine lv_iconst (v := ld_n1) hx hb d_fcount_89 (by decide) ?_
                    obtain ⟨r_23, e_23, hy1⟩ := ld_ob hy1
                    refine ld_mi (wr := ([] : List Nat).filterMap (fun i => (ld_oW f v1.2.2.2.2.2.1 ++ ld_bW f cI fb ++ ld_eW f cI cZ v1.2.2.2.2.2.2.1 ++ ld_sW f cI cZ v1.2.2.2.2.2.2.2)[i]?)) (ws2 := ld_oW f r_23.2.1 ++ ld_bW f cI fb ++ ld_eW f cI cZ r_23.2.2.1 ++ ld_sW f cI cZ r_23.2.2.2) (va_runV (As := [.int v1.2.2.2.2.1, .int ld_n1]) (rest := []) ⟨hx, hb, hml, hown, hg⟩ (lc_fmet l D cI cZ cJ f v1.2.2.2.2.2.1 fb v1.2.2.2.2.2.2.1 v1.2.2.2.2.2.2.2 v1.2.2.2.2.1 ld_n1 _ N r_23 e_23) ⟨callB_of 2 hg (ld_gd k_460) rfl rfl rfl (hg _ k_30) (hg _ k_473) hd_fmet ⟨Nat.le_of_ble_eq_true rfl, Nat.le_of_ble_eq_true rfl⟩, hg _ k_458, hg _ k_459⟩ (ld_preMV hP hK hN hD [0, 1, 2, 3, 4, 5, 6, 7, 8, 9, 10, 11] (by decide) rfl 7 0 rfl rfl) rfl rfl hl.1 rfl (lv_room (Nat.le_of_ble_eq_true rfl)) d_fcount_90 ⟨Nat.zero_le _, Nat.zero_le _⟩) hP hD hS hA [0, 1, 2, 3, 4, 5, 6, 7, 8, 9, 10, 11] [] [0, 1, 2, 3, 4, 5, 6, 7, 8, 9, 10, 11] rfl rfl (by decide) (by decide) (by decide) rfl (fun H locs hP hD hS => ?_)
                    refine lv_if_lt (tgt := 100) hx hb d_fcount_93 (by decide) (fun c_24 => ?_) (fun c_24 => ?_)
                    · have hy1 := (if_pos c_24).symm.trans hy1
                      refine lv_iconst (v := 0) hx hb d_fcount_100 (by decide) ?_
                      refine lv_istore (lv' := [(7, .int 0), (5, .int v1.2.2.2.1), (2, .int v1.1), (0, .ref (f 0)), (1, .int p0), (3, .int v1.2.1), (4, .int v1.2.2.1), (6, .int v1.2.2.2.2.1)]) hx hb d_fcount_101 hl (by decide) rfl (fun ls hl => ?_)
                      refine lv_iload hx hb d_fcount_103 (lv_at hl 0 rfl) ?_
                      refine lv_if_eq (tgt := 114) hx hb d_fcount_105 (by decide) (fun _ => ?_) (fun c_25 => absurd (by decide) c_25)
                      refine lv_iload_n hx hb d_fcount_114 rfl (lv_at hl 5 rfl) ?_
                      refine lv_istore_n (lv' := [(3, .int v1.2.1), (7, .int 0), (5, .int v1.2.2.2.1), (2, .int v1.1), (0, .ref (f 0)), (1, .int p0), (4, .int v1.2.2.1), (6, .int v1.2.2.2.2.1)]) hx hb d_fcount_115 rfl hl (by decide) rfl (fun ls hl => ?_)
                      refine lv_iload hx hb d_fcount_116 (lv_at hl 1 rfl) ?_
                      refine lv_if_eq (tgt := 126) hx hb d_fcount_118 (by decide) (fun _ => ?_) (fun c_26 => absurd (by decide) c_26)
                      refine lv_iload hx hb d_fcount_126 (lv_at hl 6 rfl) ?_
                      refine lv_istore (lv' := [(4, .int v1.2.2.1), (3, .int v1.2.1), (7, .int 0), (5, .int v1.2.2.2.1), (2, .int v1.1), (0, .ref (f 0)), (1, .int p0), (6, .int v1.2.2.2.2.1)]) hx hb d_fcount_128 hl (by decide) rfl (fun ls hl => ?_)
                      refine lv_iinc (v := v1.2.2.2.2.1 - 1) (lv' := [(6, .int (v1.2.2.2.2.1 - 1)), (4, .int v1.2.2.1), (3, .int v1.2.1), (7, .int 0), (5, .int v1.2.2.2.1), (2, .int v1.1), (0, .ref (f 0)), (1, .int p0)]) hx hb d_fcount_130 hl (k := 7) rfl (ld_m1 _) (by decide) rfl (fun ls hl => ?_)
                      refine lv_goto (tgt := 22) hx hb d_fcount_133 (by decide) ?_
                      obtain rfl := Option.some.inj hy1
                      exact ih1 (v1.1, v1.2.1, v1.2.2.1, v1.2.2.2.1, v1.2.2.2.2.1 - 1, r_23.2.1, r_23.2.2.1, r_23.2.2.2) _ _ _ g1 hP hD hS (lv_sub hl [6, 7, 5, 2, 1, 4, 0] rfl)
                    · have hy1 := (if_neg c_24).symm.trans hy1
                      refine lv_iconst (v := 1) hx hb d_fcount_96 (by decide) ?_
                      refine lv_goto (tgt := 101) hx hb d_fcount_97 (by decide) ?_
                      refine lv_istore (lv' := [(7, .int 1), (5, .int v1.2.2.2.1), (2, .int v1.1), (0, .ref (f 0)), (1, .int p0), (3, .int v1.2.1), (4, .int v1.2.2.1), (6, .int v1.2.2.2.2.1)]) hx hb d_fcount_101 hl (by decide) rfl (fun ls hl => ?_)
                      refine lv_iload hx hb d_fcount_103 (lv_at hl 0 rfl) ?_
                      refine lv_if_eq (tgt := 114) hx hb d_fcount_105 (by decide) (fun c_27 => absurd c_27 (by decide)) (fun _ => ?_)
                      refine lv_iload_n hx hb d_fcount_108 rfl (lv_at hl 5 rfl) ?_
                      refine lv_iconst (v := 1) hx hb d_fcount_109 (by decide) ?_
                      refine lv_iadd hx hb d_fcount_110 ?_
                      refine lv_goto (tgt := 115) hx hb d_fcount_111 (by decide) ?_
                      refine lv_istore_n (lv' := [(3, .int (v1.2.1 + 1)), (7, .int 1), (5, .int v1.2.2.2.1), (2, .int v1.1), (0, .ref (f 0)), (1, .int p0), (4, .int v1.2.2.1), (6, .int v1.2.2.2.2.1)]) hx hb d_fcount_115 rfl hl (by decide) rfl (fun ls hl => ?_)
                      refine lv_iload hx hb d_fcount_116 (lv_at hl 1 rfl) ?_
                      refine lv_if_eq (tgt := 126) hx hb d_fcount_118 (by decide) (fun c_28 => absurd c_28 (by decide)) (fun _ => ?_)
                      refine lv_iload hx hb d_fcount_121 (lv_at hl 7 rfl) ?_
                      refine lv_goto (tgt := 128) hx hb d_fcount_123 (by decide) ?_
                      refine lv_istore (lv' := [(4, .int v1.2.2.2.2.1), (3, .int (v1.2.1 + 1)), (7, .int 1), (5, .int v1.2.2.2.1), (2, .int v1.1), (0, .ref (f 0)), (1, .int p0), (6, .int v1.2.2.2.2.1)]) hx hb d_fcount_128 hl (by decide) rfl (fun ls hl => ?_)
                      refine lv_iinc (v := v1.2.2.2.2.1 - 1) (lv' := [(6, .int (v1.2.2.2.2.1 - 1)), (4, .int v1.2.2.2.2.1), (3, .int (v1.2.1 + 1)), (7, .int 1), (5, .int v1.2.2.2.1), (2, .int v1.1), (0, .ref (f 0)), (1, .int p0)]) hx hb d_fcount_130 hl (k := 7) rfl (ld_m1 _) (by decide) rfl (fun ls hl => ?_)
                      refine lv_goto (tgt := 22) hx hb d_fcount_133 (by decide) ?_
                      obtain rfl := Option.some.inj hy1
                      exact ih1 (v1.1, v1.2.1 + 1, v1.2.2.2.2.1, v1.2.2.2.1, v1.2.2.2.2.1 - 1, r_23.2.1, r_23.2.2.1, r_23.2.2.2) _ _ _ g1 hP hD hS (lv_sub hl [6, 7, 5, 2, 1, 4, 0] rfl)
              · have hy1 := (if_pos c_12).symm.trans hy1
                refine lv_iload hx hb d_fcount_65 (lv_at hl 5 rfl) ?_
                refine lv_iconst (v := 1) hx hb d_fcount_67 (by decide) ?_
                refine lv_iadd hx hb d_fcount_68 ?_
                refine lv_goto (tgt := 74) hx hb d_fcount_69 (by decide) ?_
                refine lv_istore (lv' := [(5, .int (v1.2.2.2.1 + 1)), (2, .int v1.1), (0, .ref (f 0)), (1, .int p0), (3, .int v1.2.1), (4, .int v1.2.2.1), (6, .int v1.2.2.2.2.1)]) hx hb d_fcount_74 hl (by decide) rfl (fun ls hl => ?_)
                refine lv_iload_n hx hb d_fcount_76 rfl (lv_at hl 3 rfl) ?_
                refine lv_iconst (v := 2) hx hb d_fcount_77 (by decide) ?_
                refine lv_icmp_eq (tgt := 86) hx hb d_fcount_78 (by decide) (fun c_29 => ?_) (fun c_29 => ?_)
                · have hy1 := (if_pos c_29).symm.trans hy1
                  refine lv_aload_n hx hb d_fcount_86 rfl (lv_at hl 2 rfl) ?_
                  refine lv_iload hx hb d_fcount_87 (lv_at hl 6 rfl) ?_
                  refine lv_iconst (v := ld_n1) hx hb d_fcount_89 (by decide) ?_
                  obtain ⟨r_30, e_30, hy1⟩ := ld_ob hy1
                  refine ld_mi (wr := ([] : List Nat).filterMap (fun i => (ld_oW f v1.2.2.2.2.2.1 ++ ld_bW f cI fb ++ ld_eW f cI cZ v1.2.2.2.2.2.2.1 ++ ld_sW f cI cZ v1.2.2.2.2.2.2.2)[i]?)) (ws2 := ld_oW f r_30.2.1 ++ ld_bW f cI fb ++ ld_eW f cI cZ r_30.2.2.1 ++ ld_sW f cI cZ r_30.2.2.2) (va_runV (As := [.int v1.2.2.2.2.1, .int ld_n1]) (rest := []) ⟨hx, hb, hml, hown, hg⟩ (lc_fmet l D cI cZ cJ f v1.2.2.2.2.2.1 fb v1.2.2.2.2.2.2.1 v1.2.2.2.2.2.2.2 v1.2.2.2.2.1 ld_n1 _ N r_30 e_30) ⟨callB_of 2 hg (ld_gd k_460) rfl rfl rfl (hg _ k_30) (hg _ k_473) hd_fmet ⟨Nat.le_of_ble_eq_true rfl, Nat.le_of_ble_eq_true rfl⟩, hg _ k_458, hg _ k_459⟩ (ld_preMV hP hK hN hD [0, 1, 2, 3, 4, 5, 6, 7, 8, 9, 10, 11] (by decide) rfl 7 0 rfl rfl) rfl rfl hl.1 rfl (lv_room (Nat.le_of_ble_eq_true rfl)) d_fcount_90 ⟨Nat.zero_le _, Nat.zero_le _⟩) hP hD hS hA [0, 1, 2, 3, 4, 5, 6, 7, 8, 9, 10, 11] [] [0, 1, 2, 3, 4, 5, 6, 7, 8, 9, 10, 11] rfl rfl (by decide) (by decide) (by decide) rfl (fun H locs hP hD hS => ?_)
                  refine lv_if_lt (tgt := 100) hx hb d_fcount_93 (by decide) (fun c_31 => ?_) (fun c_31 => ?_)
                  · have hy1 := (if_pos c_31).symm.trans hy1
                    refine lv_iconst (v := 0) hx hb d_fcount_100 (by decide) ?_
                    refine lv_istore (lv' := [(7, .int 0), (5, .int (v1.2.2.2.1 + 1)), (2, .int v1.1), (0, .ref (f 0)), (1, .int p0), (3, .int v1.2.1), (4, .int v1.2.2.1), (6, .int v1.2.2.2.2.1)]) hx hb d_fcount_101 hl (by decide) rfl (fun ls hl => ?_)
                    refine lv_iload hx hb d_fcount_103 (lv_at hl 0 rfl) ?_
                    refine lv_if_eq (tgt := 114) hx hb d_fcount_105 (by decide) (fun _ => ?_) (fun c_32 => absurd (by decide) c_32)
                    refine lv_iload_n hx hb d_fcount_114 rfl (lv_at hl 5 rfl) ?_
                    refine lv_istore_n (lv' := [(3, .int v1.2.1), (7, .int 0), (5, .int (v1.2.2.2.1 + 1)), (2, .int v1.1), (0, .ref (f 0)), (1, .int p0), (4, .int v1.2.2.1), (6, .int v1.2.2.2.2.1)]) hx hb d_fcount_115 rfl hl (by decide) rfl (fun ls hl => ?_)
                    refine lv_iload hx hb d_fcount_116 (lv_at hl 1 rfl) ?_
                    refine lv_if_eq (tgt := 126) hx hb d_fcount_118 (by decide) (fun _ => ?_) (fun c_33 => absurd (by decide) c_33)
                    refine lv_iload hx hb d_fcount_126 (lv_at hl 6 rfl) ?_
                    refine lv_istore (lv' := [(4, .int v1.2.2.1), (3, .int v1.2.1), (7, .int 0), (5, .int (v1.2.2.2.1 + 1)), (2, .int v1.1), (0, .ref (f 0)), (1, .int p0), (6, .int v1.2.2.2.2.1)]) hx hb d_fcount_128 hl (by decide) rfl (fun ls hl => ?_)
                    refine lv_iinc (v := v1.2.2.2.2.1 - 1) (lv' := [(6, .int (v1.2.2.2.2.1 - 1)), (4, .int v1.2.2.1), (3, .int v1.2.1), (7, .int 0), (5, .int (v1.2.2.2.1 + 1)), (2, .int v1.1), (0, .ref (f 0)), (1, .int p0)]) hx hb d_fcount_130 hl (k := 7) rfl (ld_m1 _) (by decide) rfl (fun ls hl => ?_)
                    refine lv_goto (tgt := 22) hx hb d_fcount_133 (by decide) ?_
                    obtain rfl := Option.some.inj hy1
                    exact ih1 (v1.1, v1.2.1, v1.2.2.1, v1.2.2.2.1 + 1, v1.2.2.2.2.1 - 1, r_30.2.1, r_30.2.2.1, r_30.2.2.2) _ _ _ g1 hP hD hS (lv_sub hl [6, 7, 5, 2, 1, 4, 0] rfl)
                  · have hy1 := (if_neg c_31).symm.trans hy1
                    refine lv_iconst (v := 1) hx hb d_fcount_96 (by decide) ?_
                    refine lv_goto (tgt := 101) hx hb d_fcount_97 (by decide) ?_
                    refine lv_istore (lv' := [(7, .int 1), (5, .int (v1.2.2.2.1 + 1)), (2, .int v1.1), (0, .ref (f 0)), (1, .int p0), (3, .int v1.2.1), (4, .int v1.2.2.1), (6, .int v1.2.2.2.2.1)]) hx hb d_fcount_101 hl (by decide) rfl (fun ls hl => ?_)
                    refine lv_iload hx hb d_fcount_103 (lv_at hl 0 rfl) ?_
                    refine lv_if_eq (tgt := 114) hx hb d_fcount_105 (by decide) (fun c_34 => absurd c_34 (by decide)) (fun _ => ?_)
                    refine lv_iload_n hx hb d_fcount_108 rfl (lv_at hl 5 rfl) ?_
                    refine lv_iconst (v := 1) hx hb d_fcount_109 (by decide) ?_
                    refine lv_iadd hx hb d_fcount_110 ?_
                    refine lv_goto (tgt := 115) hx hb d_fcount_111 (by decide) ?_
                    refine lv_istore_n (lv' := [(3, .int (v1.2.1 + 1)), (7, .int 1), (5, .int (v1.2.2.2.1 + 1)), (2, .int v1.1), (0, .ref (f 0)), (1, .int p0), (4, .int v1.2.2.1), (6, .int v1.2.2.2.2.1)]) hx hb d_fcount_115 rfl hl (by decide) rfl (fun ls hl => ?_)
                    refine lv_iload hx hb d_fcount_116 (lv_at hl 1 rfl) ?_
                    refine lv_if_eq (tgt := 126) hx hb d_fcount_118 (by decide) (fun c_35 => absurd c_35 (by decide)) (fun _ => ?_)
                    refine lv_iload hx hb d_fcount_121 (lv_at hl 7 rfl) ?_
                    refine lv_goto (tgt := 128) hx hb d_fcount_123 (by decide) ?_
                    refine lv_istore (lv' := [(4, .int v1.2.2.2.2.1), (3, .int (v1.2.1 + 1)), (7, .int 1), (5, .int (v1.2.2.2.1 + 1)), (2, .int v1.1), (0, .ref (f 0)), (1, .int p0), (6, .int v1.2.2.2.2.1)]) hx hb d_fcount_128 hl (by decide) rfl (fun ls hl => ?_)
                    refine lv_iinc (v := v1.2.2.2.2.1 - 1) (lv' := [(6, .int (v1.2.2.2.2.1 - 1)), (4, .int v1.2.2.2.2.1), (3, .int (v1.2.1 + 1)), (7, .int 1), (5, .int (v1.2.2.2.1 + 1)), (2, .int v1.1), (0, .ref (f 0)), (1, .int p0)]) hx hb d_fcount_130 hl (k := 7) rfl (ld_m1 _) (by decide) rfl (fun ls hl => ?_)
                    refine lv_goto (tgt := 22) hx hb d_fcount_133 (by decide) ?_
                    obtain rfl := Option.some.inj hy1
                    exact ih1 (v1.1, v1.2.1 + 1, v1.2.2.2.2.1, v1.2.2.2.1 + 1, v1.2.2.2.2.1 - 1, r_30.2.1, r_30.2.2.1, r_30.2.2.2) _ _ _ g1 hP hD hS (lv_sub hl [6, 7, 5, 2, 1, 4, 0] rfl)
                · have hy1 := (if_neg c_29).symm.trans hy1
                  refine lv_iload_n hx hb d_fcount_81 rfl (lv_at hl 3 rfl) ?_
                  refine lv_iconst (v := 3) hx hb d_fcount_82 (by decide) ?_
                  refine lv_icmp_ne (tgt := 100) hx hb d_fcount_83 (by decide) (fun c_36 => ?_) (fun c_36 => ?_)
                  · have hy1 := (if_neg c_36).symm.trans hy1
                    refine lv_iconst (v := 0) hx hb d_fcount_100 (by decide) ?_
                    refine lv_istore (lv' := [(7, .int 0), (5, .int (v1.2.2.2.1 + 1)), (2, .int v1.1), (0, .ref (f 0)), (1, .int p0), (3, .int v1.2.1), (4, .int v1.2.2.1), (6, .int v1.2.2.2.2.1)]) hx hb d_fcount_101 hl (by decide) rfl (fun ls hl => ?_)
                    refine lv_iload hx hb d_fcount_103 (lv_at hl 0 rfl) ?_
                    refine lv_if_eq (tgt := 114) hx hb d_fcount_105 (by decide) (fun _ => ?_) (fun c_37 => absurd (by decide) c_37)
                    refine lv_iload_n hx hb d_fcount_114 rfl (lv_at hl 5 rfl) ?_
                    refine lv_istore_n (lv' := [(3, .int v1.2.1), (7, .int 0), (5, .int (v1.2.2.2.1 + 1)), (2, .int v1.1), (0, .ref (f 0)), (1, .int p0), (4, .int v1.2.2.1), (6, .int v1.2.2.2.2.1)]) hx hb d_fcount_115 rfl hl (by decide) rfl (fun ls hl => ?_)
                    refine lv_iload hx hb d_fcount_116 (lv_at hl 1 rfl) ?_
                    refine lv_if_eq (tgt := 126) hx hb d_fcount_118 (by decide) (fun _ => ?_) (fun c_38 => absurd (by decide) c_38)
                    refine lv_iload hx hb d_fcount_126 (lv_at hl 6 rfl) ?_
                    refine lv_istore (lv' := [(4, .int v1.2.2.1), (3, .int v1.2.1), (7, .int 0), (5, .int (v1.2.2.2.1 + 1)), (2, .int v1.1), (0, .ref (f 0)), (1, .int p0), (6, .int v1.2.2.2.2.1)]) hx hb d_fcount_128 hl (by decide) rfl (fun ls hl => ?_)
                    refine lv_iinc (v := v1.2.2.2.2.1 - 1) (lv' := [(6, .int (v1.2.2.2.2.1 - 1)), (4, .int v1.2.2.1), (3, .int v1.2.1), (7, .int 0), (5, .int (v1.2.2.2.1 + 1)), (2, .int v1.1), (0, .ref (f 0)), (1, .int p0)]) hx hb d_fcount_130 hl (k := 7) rfl (ld_m1 _) (by decide) rfl (fun ls hl => ?_)
                    refine lv_goto (tgt := 22) hx hb d_fcount_133 (by decide) ?_
                    obtain rfl := Option.some.inj hy1
                    exact ih1 (v1.1, v1.2.1, v1.2.2.1, v1.2.2.2.1 + 1, v1.2.2.2.2.1 - 1, v1.2.2.2.2.2.1, v1.2.2.2.2.2.2.1, v1.2.2.2.2.2.2.2) _ _ _ g1 hP hD hS (lv_sub hl [6, 7, 5, 2, 1, 4, 0] rfl)
                  · have hy1 := (if_pos c_36).symm.trans hy1
                    refine lv_aload_n hx hb d_fcount_86 rfl (lv_at hl 2 rfl) ?_
                    refine lv_iload hx hb d_fcount_87 (lv_at hl 6 rfl) ?_
                    refine lv_iconst (v := ld_n1) hx hb d_fcount_89 (by decide) ?_
                    obtain ⟨r_39, e_39, hy1⟩ := ld_ob hy1
                    refine ld_mi (wr := ([] : List Nat).filterMap (fun i => (ld_oW f v1.2.2.2.2.2.1 ++ ld_bW f cI fb ++ ld_eW f cI cZ v1.2.2.2.2.2.2.1 ++ ld_sW f cI cZ v1.2.2.2.2.2.2.2)[i]?)) (ws2 := ld_oW f r_39.2.1 ++ ld_bW f cI fb ++ ld_eW f cI cZ r_39.2.2.1 ++ ld_sW f cI cZ r_39.2.2.2) (va_runV (As := [.int v1.2.2.2.2.1, .int ld_n1]) (rest := []) ⟨hx, hb, hml, hown, hg⟩ (lc_fmet l D cI cZ cJ f v1.2.2.2.2.2.1 fb v1.2.2.2.2.2.2.1 v1.2.2.2.2.2.2.2 v1.2.2.2.2.1 ld_n1 _ N r_39 e_39) ⟨callB_of 2 hg (ld_gd k_460) rfl rfl rfl (hg _ k_30) (hg _ k_473) hd_fmet ⟨Nat.le_of_ble_eq_true rfl, Nat.le_of_ble_eq_true rfl⟩, hg _ k_458, hg _ k_459⟩ (ld_preMV hP hK hN hD [0, 1, 2, 3, 4, 5, 6, 7, 8, 9, 10, 11] (by decide) rfl 7 0 rfl rfl) rfl rfl hl.1 rfl (lv_room (Nat.le_of_ble_eq_true rfl)) d_fcount_90 ⟨Nat.zero_le _, Nat.zero_le _⟩) hP hD hS hA [0, 1, 2, 3, 4, 5, 6, 7, 8, 9, 10, 11] [] [0, 1, 2, 3, 4, 5, 6, 7, 8, 9, 10, 11] rfl rfl (by decide) (by decide) (by decide) rfl (fun H locs hP hD hS => ?_)
                    refine lv_if_lt (tgt := 100) hx hb d_fcount_93 (by decide) (fun c_40 => ?_) (fun c_40 => ?_)
                    · have hy1 := (if_pos c_40).symm.trans hy1
                      refine lv_iconst (v := 0) hx hb d_fcount_100 (by decide) ?_
                      refine lv_istore (lv' := [(7, .int 0), (5, .int (v1.2.2.2.1 + 1)), (2, .int v1.1), (0, .ref (f 0)), (1, .int p0), (3, .int v1.2.1), (4, .int v1.2.2.1), (6, .int v1.2.2.2.2.1)]) hx hb d_fcount_101 hl (by decide) rfl (fun ls hl => ?_)
                      refine lv_iload hx hb d_fcount_103 (lv_at hl 0 rfl) ?_
                      refine lv_if_eq (tgt := 114) hx hb d_fcount_105 (by decide) (fun _ => ?_) (fun c_41 => absurd (by decide) c_41)
                      refine lv_iload_n hx hb d_fcount_114 rfl (lv_at hl 5 rfl) ?_
                      refine lv_istore_n (lv' := [(3, .int v1.2.1), (7, .int 0), (5, .int (v1.2.2.2.1 + 1)), (2, .int v1.1), (0, .ref (f 0)), (1, .int p0), (4, .int v1.2.2.1), (6, .int v1.2.2.2.2.1)]) hx hb d_fcount_115 rfl hl (by decide) rfl (fun ls hl => ?_)
                      refine lv_iload hx hb d_fcount_116 (lv_at hl 1 rfl) ?_
                      refine lv_if_eq (tgt := 126) hx hb d_fcount_118 (by decide) (fun _ => ?_) (fun c_42 => absurd (by decide) c_42)
                      refine lv_iload hx hb d_fcount_126 (lv_at hl 6 rfl) ?_
                      refine lv_istore (lv' := [(4, .int v1.2.2.1), (3, .int v1.2.1), (7, .int 0), (5, .int (v1.2.2.2.1 + 1)), (2, .int v1.1), (0, .ref (f 0)), (1, .int p0), (6, .int v1.2.2.2.2.1)]) hx hb d_fcount_128 hl (by decide) rfl (fun ls hl => ?_)
                      refine lv_iinc (v := v1.2.2.2.2.1 - 1) (lv' := [(6, .int (v1.2.2.2.2.1 - 1)), (4, .int v1.2.2.1), (3, .int v1.2.1), (7, .int 0), (5, .int (v1.2.2.2.1 + 1)), (2, .int v1.1), (0, .ref (f 0)), (1, .int p0)]) hx hb d_fcount_130 hl (k := 7) rfl (ld_m1 _) (by decide) rfl (fun ls hl => ?_)
                      refine lv_goto (tgt := 22) hx hb d_fcount_133 (by decide) ?_
                      obtain rfl := Option.some.inj hy1
                      exact ih1 (v1.1, v1.2.1, v1.2.2.1, v1.2.2.2.1 + 1, v1.2.2.2.2.1 - 1, r_39.2.1, r_39.2.2.1, r_39.2.2.2) _ _ _ g1 hP hD hS (lv_sub hl [6, 7, 5, 2, 1, 4, 0] rfl)
                    · have hy1 := (if_neg c_40).symm.trans hy1
                      refine lv_iconst (v := 1) hx hb d_fcount_96 (by decide) ?_
                      refine lv_goto (tgt := 101) hx hb d_fcount_97 (by decide) ?_
                      refine lv_istore (lv' := [(7, .int 1), (5, .int (v1.2.2.2.1 + 1)), (2, .int v1.1), (0, .ref (f 0)), (1, .int p0), (3, .int v1.2.1), (4, .int v1.2.2.1), (6, .int v1.2.2.2.2.1)]) hx hb d_fcount_101 hl (by decide) rfl (fun ls hl => ?_)
                      refine lv_iload hx hb d_fcount_103 (lv_at hl 0 rfl) ?_
                      refine lv_if_eq (tgt := 114) hx hb d_fcount_105 (by decide) (fun c_43 => absurd c_43 (by decide)) (fun _ => ?_)
                      refine lv_iload_n hx hb d_fcount_108 rfl (lv_at hl 5 rfl) ?_
                      refine lv_iconst (v := 1) hx hb d_fcount_109 (by decide) ?_
                      refine lv_iadd hx hb d_fcount_110 ?_
                      refine lv_goto (tgt := 115) hx hb d_fcount_111 (by decide) ?_
                      refine lv_istore_n (lv' := [(3, .int (v1.2.1 + 1)), (7, .int 1), (5, .int (v1.2.2.2.1 + 1)), (2, .int v1.1), (0, .ref (f 0)), (1, .int p0), (4, .int v1.2.2.1), (6, .int v1.2.2.2.2.1)]) hx hb d_fcount_115 rfl hl (by decide) rfl (fun ls hl => ?_)
                      refine lv_iload hx hb d_fcount_116 (lv_at hl 1 rfl) ?_
                      refine lv_if_eq (tgt := 126) hx hb d_fcount_118 (by decide) (fun c_44 => absurd c_44 (by decide)) (fun _ => ?_)
                      refine lv_iload hx hb d_fcount_121 (lv_at hl 7 rfl) ?_
                      refine lv_goto (tgt := 128) hx hb d_fcount_123 (by decide) ?_
                      refine lv_istore (lv' := [(4, .int v1.2.2.2.2.1), (3, .int (v1.2.1 + 1)), (7, .int 1), (5, .int (v1.2.2.2.1 + 1)), (2, .int v1.1), (0, .ref (f 0)), (1, .int p0), (6, .int v1.2.2.2.2.1)]) hx hb d_fcount_128 hl (by decide) rfl (fun ls hl => ?_)
                      refine lv_iinc (v := v1.2.2.2.2.1 - 1) (lv' := [(6, .int (v1.2.2.2.2.1 - 1)), (4, .int v1.2.2.2.2.1), (3, .int (v1.2.1 + 1)), (7, .int 1), (5, .int (v1.2.2.2.1 + 1)), (2, .int v1.1), (0, .ref (f 0)), (1, .int p0)]) hx hb d_fcount_130 hl (k := 7) rfl (ld_m1 _) (by decide) rfl (fun ls hl => ?_)
                      refine lv_goto (tgt := 22) hx hb d_fcount_133 (by decide) ?_
                      obtain rfl := Option.some.inj hy1
                      exact ih1 (v1.1, v1.2.1 + 1, v1.2.2.2.2.1, v1.2.2.2.1 + 1, v1.2.2.2.2.1 - 1, r_39.2.1, r_39.2.2.1, r_39.2.2.2) _ _ _ g1 hP hD hS (lv_sub hl [6, 7, 5, 2, 1, 4, 0] rfl)
            · have hy1 := (if_neg c_11).symm.trans hy1
              refine lv_iload_n hx hb d_fcount_46 rfl (lv_at hl 2 rfl) ?_
              refine lv_iconst (v := 1) hx hb d_fcount_47 (by decide) ?_
              refine lv_iadd hx hb d_fcount_48 ?_
              refine lv_goto (tgt := 53) hx hb d_fcount_49 (by decide) ?_
              refine lv_istore_n (lv' := [(2, .int (v1.1 + 1)), (0, .ref (f 0)), (1, .int p0), (3, .int v1.2.1), (4, .int v1.2.2.1), (5, .int v1.2.2.2.1), (6, .int v1.2.2.2.2.1)]) hx hb d_fcount_53 rfl hl (by decide) rfl (fun ls hl => ?_)
              refine lv_aload_n hx hb d_fcount_54 rfl (lv_at hl 1 rfl) ?_
              refine va_get (D := D) (ci := 7) (v := .ref (f 1)) (C := "LoanDeskModel") (T := T_Ref) (N := 14) hx hb hg u_Ref hown hK hP 0 rfl rfl 1 (by decide) (hg _ k_371) (fun _ h9 => h9) rfl d_fcount_55 ?_
              refine lv_iload hx hb d_fcount_58 (lv_at hl 6 rfl) ?_
              refine va_iald hx hb hK hP 1 0 rfl rfl (i := v1.2.2.2.2.1) i_10 d_fcount_60 ?_
              refine lv_iconst (v := 1) hx hb d_fcount_61 (by decide) ?_
              refine lv_icmp_ne (tgt := 72) hx hb d_fcount_62 (by decide) (fun c_45 => ?_) (fun c_45 => ?_)
              · have hy1 := (if_neg c_45).symm.trans hy1
                refine lv_iload hx hb d_fcount_72 (lv_at hl 5 rfl) ?_
                refine lv_istore (lv' := [(5, .int v1.2.2.2.1), (2, .int (v1.1 + 1)), (0, .ref (f 0)), (1, .int p0), (3, .int v1.2.1), (4, .int v1.2.2.1), (6, .int v1.2.2.2.2.1)]) hx hb d_fcount_74 hl (by decide) rfl (fun ls hl => ?_)
                refine lv_iload_n hx hb d_fcount_76 rfl (lv_at hl 3 rfl) ?_
                refine lv_iconst (v := 2) hx hb d_fcount_77 (by decide) ?_
                refine lv_icmp_eq (tgt := 86) hx hb d_fcount_78 (by decide) (fun c_46 => ?_) (fun c_46 => ?_)
                · have hy1 := (if_pos c_46).symm.trans hy1
                  refine lv_aload_n hx hb d_fcount_86 rfl (lv_at hl 2 rfl) ?_
                  refine lv_iload hx hb d_fcount_87 (lv_at hl 6 rfl) ?_
                  refine lv_iconst (v := ld_n1) hx hb d_fcount_89 (by decide) ?_
                  obtain ⟨r_47, e_47, hy1⟩ := ld_ob hy1
                  refine ld_mi (wr := ([] : List Nat).filterMap (fun i => (ld_oW f v1.2.2.2.2.2.1 ++ ld_bW f cI fb ++ ld_eW f cI cZ v1.2.2.2.2.2.2.1 ++ ld_sW f cI cZ v1.2.2.2.2.2.2.2)[i]?)) (ws2 := ld_oW f r_47.2.1 ++ ld_bW f cI fb ++ ld_eW f cI cZ r_47.2.2.1 ++ ld_sW f cI cZ r_47.2.2.2) (va_runV (As := [.int v1.2.2.2.2.1, .int ld_n1]) (rest := []) ⟨hx, hb, hml, hown, hg⟩ (lc_fmet l D cI cZ cJ f v1.2.2.2.2.2.1 fb v1.2.2.2.2.2.2.1 v1.2.2.2.2.2.2.2 v1.2.2.2.2.1 ld_n1 _ N r_47 e_47) ⟨callB_of 2 hg (ld_gd k_460) rfl rfl rfl (hg _ k_30) (hg _ k_473) hd_fmet ⟨Nat.le_of_ble_eq_true rfl, Nat.le_of_ble_eq_true rfl⟩, hg _ k_458, hg _ k_459⟩ (ld_preMV hP hK hN hD [0, 1, 2, 3, 4, 5, 6, 7, 8, 9, 10, 11] (by decide) rfl 7 0 rfl rfl) rfl rfl hl.1 rfl (lv_room (Nat.le_of_ble_eq_true rfl)) d_fcount_90 ⟨Nat.zero_le _, Nat.zero_le _⟩) hP hD hS hA [0, 1, 2, 3, 4, 5, 6, 7, 8, 9, 10, 11] [] [0, 1, 2, 3, 4, 5, 6, 7, 8, 9, 10, 11] rfl rfl (by decide) (by decide) (by decide) rfl (fun H locs hP hD hS => ?_)
                  refine lv_if_lt (tgt := 100) hx hb d_fcount_93 (by decide) (fun c_48 => ?_) (fun c_48 => ?_)
                  · have hy1 := (if_pos c_48).symm.trans hy1
                    refine lv_iconst (v := 0) hx hb d_fcount_100 (by decide) ?_
                    refine lv_istore (lv' := [(7, .int 0), (5, .int v1.2.2.2.1), (2, .int (v1.1 + 1)), (0, .ref (f 0)), (1, .int p0), (3, .int v1.2.1), (4, .int v1.2.2.1), (6, .int v1.2.2.2.2.1)]) hx hb d_fcount_101 hl (by decide) rfl (fun ls hl => ?_)
                    refine lv_iload hx hb d_fcount_103 (lv_at hl 0 rfl) ?_
                    refine lv_if_eq (tgt := 114) hx hb d_fcount_105 (by decide) (fun _ => ?_) (fun c_49 => absurd (by decide) c_49)
                    refine lv_iload_n hx hb d_fcount_114 rfl (lv_at hl 5 rfl) ?_
                    refine lv_istore_n (lv' := [(3, .int v1.2.1), (7, .int 0), (5, .int v1.2.2.2.1), (2, .int (v1.1 + 1)), (0, .ref (f 0)), (1, .int p0), (4, .int v1.2.2.1), (6, .int v1.2.2.2.2.1)]) hx hb d_fcount_115 rfl hl (by decide) rfl (fun ls hl => ?_)
                    refine lv_iload hx hb d_fcount_116 (lv_at hl 1 rfl) ?_
                    refine lv_if_eq (tgt := 126) hx hb d_fcount_118 (by decide) (fun _ => ?_) (fun c_50 => absurd (by decide) c_50)
                    refine lv_iload hx hb d_fcount_126 (lv_at hl 6 rfl) ?_
                    refine lv_istore (lv' := [(4, .int v1.2.2.1), (3, .int v1.2.1), (7, .int 0), (5, .int v1.2.2.2.1), (2, .int (v1.1 + 1)), (0, .ref (f 0)), (1, .int p0), (6, .int v1.2.2.2.2.1)]) hx hb d_fcount_128 hl (by decide) rfl (fun ls hl => ?_)
                    refine lv_iinc (v := v1.2.2.2.2.1 - 1) (lv' := [(6, .int (v1.2.2.2.2.1 - 1)), (4, .int v1.2.2.1), (3, .int v1.2.1), (7, .int 0), (5, .int v1.2.2.2.1), (2, .int (v1.1 + 1)), (0, .ref (f 0)), (1, .int p0)]) hx hb d_fcount_130 hl (k := 7) rfl (ld_m1 _) (by decide) rfl (fun ls hl => ?_)
                    refine lv_goto (tgt := 22) hx hb d_fcount_133 (by decide) ?_
                    obtain rfl := Option.some.inj hy1
                    exact ih1 (v1.1 + 1, v1.2.1, v1.2.2.1, v1.2.2.2.1, v1.2.2.2.2.1 - 1, r_47.2.1, r_47.2.2.1, r_47.2.2.2) _ _ _ g1 hP hD hS (lv_sub hl [6, 7, 5, 2, 1, 4, 0] rfl)
                  · have hy1 := (if_neg c_48).symm.trans hy1
                    refine lv_iconst (v := 1) hx hb d_fcount_96 (by decide) ?_
                    refine lv_goto (tgt := 101) hx hb d_fcount_97 (by decide) ?_
                    refine lv_istore (lv' := [(7, .int 1), (5, .int v1.2.2.2.1), (2, .int (v1.1 + 1)), (0, .ref (f 0)), (1, .int p0), (3, .int v1.2.1), (4, .int v1.2.2.1), (6, .int v1.2.2.2.2.1)]) hx hb d_fcount_101 hl (by decide) rfl (fun ls hl => ?_)
                    refine lv_iload hx hb d_fcount_103 (lv_at hl 0 rfl) ?_
                    refine lv_if_eq (tgt := 114) hx hb d_fcount_105 (by decide) (fun c_51 => absurd c_51 (by decide)) (fun _ => ?_)
                    refine lv_iload_n hx hb d_fcount_108 rfl (lv_at hl 5 rfl) ?_
                    refine lv_iconst (v := 1) hx hb d_fcount_109 (by decide) ?_
                    refine lv_iadd hx hb d_fcount_110 ?_
                    refine lv_goto (tgt := 115) hx hb d_fcount_111 (by decide) ?_
                    refine lv_istore_n (lv' := [(3, .int (v1.2.1 + 1)), (7, .int 1), (5, .int v1.2.2.2.1), (2, .int (v1.1 + 1)), (0, .ref (f 0)), (1, .int p0), (4, .int v1.2.2.1), (6, .int v1.2.2.2.2.1)]) hx hb d_fcount_115 rfl hl (by decide) rfl (fun ls hl => ?_)
                    refine lv_iload hx hb d_fcount_116 (lv_at hl 1 rfl) ?_
                    refine lv_if_eq (tgt := 126) hx hb d_fcount_118 (by decide) (fun c_52 => absurd c_52 (by decide)) (fun _ => ?_)
                    refine lv_iload hx hb d_fcount_121 (lv_at hl 7 rfl) ?_
                    refine lv_goto (tgt := 128) hx hb d_fcount_123 (by decide) ?_
                    refine lv_istore (lv' := [(4, .int v1.2.2.2.2.1), (3, .int (v1.2.1 + 1)), (7, .int 1), (5, .int v1.2.2.2.1), (2, .int (v1.1 + 1)), (0, .ref (f 0)), (1, .int p0), (6, .int v1.2.2.2.2.1)]) hx hb d_fcount_128 hl (by decide) rfl (fun ls hl => ?_)
                    refine lv_iinc (v := v1.2.2.2.2.1 - 1) (lv' := [(6, .int (v1.2.2.2.2.1 - 1)), (4, .int v1.2.2.2.2.1), (3, .int (v1.2.1 + 1)), (7, .int 1), (5, .int v1.2.2.2.1), (2, .int (v1.1 + 1)), (0, .ref (f 0)), (1, .int p0)]) hx hb d_fcount_130 hl (k := 7) rfl (ld_m1 _) (by decide) rfl (fun ls hl => ?_)
                    refine lv_goto (tgt := 22) hx hb d_fcount_133 (by decide) ?_
                    obtain rfl := Option.some.inj hy1
                    exact ih1 (v1.1 + 1, v1.2.1 + 1, v1.2.2.2.2.1, v1.2.2.2.1, v1.2.2.2.2.1 - 1, r_47.2.1, r_47.2.2.1, r_47.2.2.2) _ _ _ g1 hP hD hS (lv_sub hl [6, 7, 5, 2, 1, 4, 0] rfl)
                · have hy1 := (if_neg c_46).symm.trans hy1
                  refine lv_iload_n hx hb d_fcount_81 rfl (lv_at hl 3 rfl) ?_
                  refine lv_iconst (v := 3) hx hb d_fcount_82 (by decide) ?_
                  refine lv_icmp_ne (tgt := 100) hx hb d_fcount_83 (by decide) (fun c_53 => ?_) (fun c_53 => ?_)
                  · have hy1 := (if_neg c_53).symm.trans hy1
                    refine lv_iconst (v := 0) hx hb d_fcount_100 (by decide) ?_
                    refine lv_istore (lv' := [(7, .int 0), (5, .int v1.2.2.2.1), (2, .int (v1.1 + 1)), (0, .ref (f 0)), (1, .int p0), (3, .int v1.2.1), (4, .int v1.2.2.1), (6, .int v1.2.2.2.2.1)]) hx hb d_fcount_101 hl (by decide) rfl (fun ls hl => ?_)
                    refine lv_iload hx hb d_fcount_103 (lv_at hl 0 rfl) ?_
                    refine lv_if_eq (tgt := 114) hx hb d_fcount_105 (by decide) (fun _ => ?_) (fun c_54 => absurd (by decide) c_54)
                    refine lv_iload_n hx hb d_fcount_114 rfl (lv_at hl 5 rfl) ?_
                    refine lv_istore_n (lv' := [(3, .int v1.2.1), (7, .int 0), (5, .int v1.2.2.2.1), (2, .int (v1.1 + 1)), (0, .ref (f 0)), (1, .int p0), (4, .int v1.2.2.1), (6, .int v1.2.2.2.2.1)]) hx hb d_fcount_115 rfl hl (by decide) rfl (fun ls hl => ?_)
                    refine lv_iload hx hb d_fcount_116 (lv_at hl 1 rfl) ?_
                    refine lv_if_eq (tgt := 126) hx hb d_fcount_118 (by decide) (fun _ => ?_) (fun c_55 => absurd (by decide) c_55)
                    refine lv_iload hx hb d_fcount_126 (lv_at hl 6 rfl) ?_
                    refine lv_istore (lv' := [(4, .int v1.2.2.1), (3, .int v1.2.1), (7, .int 0), (5, .int v1.2.2.2.1), (2, .int (v1.1 + 1)), (0, .ref (f 0)), (1, .int p0), (6, .int v1.2.2.2.2.1)]) hx hb d_fcount_128 hl (by decide) rfl (fun ls hl => ?_)
                    refine lv_iinc (v := v1.2.2.2.2.1 - 1) (lv' := [(6, .int (v1.2.2.2.2.1 - 1)), (4, .int v1.2.2.1), (3, .int v1.2.1), (7, .int 0), (5, .int v1.2.2.2.1), (2, .int (v1.1 + 1)), (0, .ref (f 0)), (1, .int p0)]) hx hb d_fcount_130 hl (k := 7) rfl (ld_m1 _) (by decide) rfl (fun ls hl => ?_)
                    refine lv_goto (tgt := 22) hx hb d_fcount_133 (by decide) ?_
                    obtain rfl := Option.some.inj hy1
                    exact ih1 (v1.1 + 1, v1.2.1, v1.2.2.1, v1.2.2.2.1, v1.2.2.2.2.1 - 1, v1.2.2.2.2.2.1, v1.2.2.2.2.2.2.1, v1.2.2.2.2.2.2.2) _ _ _ g1 hP hD hS (lv_sub hl [6, 7, 5, 2, 1, 4, 0] rfl)
                  · have hy1 := (if_pos c_53).symm.trans hy1
                    refine lv_aload_n hx hb d_fcount_86 rfl (lv_at hl 2 rfl) ?_
                    refine lv_iload hx hb d_fcount_87 (lv_at hl 6 rfl) ?_
                    refine lv_iconst (v := ld_n1) hx hb d_fcount_89 (by decide) ?_
                    obtain ⟨r_56, e_56, hy1⟩ := ld_ob hy1
                    refine ld_mi (wr := ([] : List Nat).filterMap (fun i => (ld_oW f v1.2.2.2.2.2.1 ++ ld_bW f cI fb ++ ld_eW f cI cZ v1.2.2.2.2.2.2.1 ++ ld_sW f cI cZ v1.2.2.2.2.2.2.2)[i]?)) (ws2 := ld_oW f r_56.2.1 ++ ld_bW f cI fb ++ ld_eW f cI cZ r_56.2.2.1 ++ ld_sW f cI cZ r_56.2.2.2) (va_runV (As := [.int v1.2.2.2.2.1, .int ld_n1]) (rest := []) ⟨hx, hb, hml, hown, hg⟩ (lc_fmet l D cI cZ cJ f v1.2.2.2.2.2.1 fb v1.2.2.2.2.2.2.1 v1.2.2.2.2.2.2.2 v1.2.2.2.2.1 ld_n1 _ N r_56 e_56) ⟨callB_of 2 hg (ld_gd k_460) rfl rfl rfl (hg _ k_30) (hg _ k_473) hd_fmet ⟨Nat.le_of_ble_eq_true rfl, Nat.le_of_ble_eq_true rfl⟩, hg _ k_458, hg _ k_459⟩ (ld_preMV hP hK hN hD [0, 1, 2, 3, 4, 5, 6, 7, 8, 9, 10, 11] (by decide) rfl 7 0 rfl rfl) rfl rfl hl.1 rfl (lv_room (Nat.le_of_ble_eq_true rfl)) d_fcount_90 ⟨Nat.zero_le _, Nat.zero_le _⟩) hP hD hS hA [0, 1, 2, 3, 4, 5, 6, 7, 8, 9, 10, 11] [] [0, 1, 2, 3, 4, 5, 6, 7, 8, 9, 10, 11] rfl rfl (by decide) (by decide) (by decide) rfl (fun H locs hP hD hS => ?_)
                    refine lv_if_lt (tgt := 100) hx hb d_fcount_93 (by decide) (fun c_57 => ?_) (fun c_57 => ?_)
                    · have hy1 := (if_pos c_57).symm.trans hy1
                      refine lv_iconst (v := 0) hx hb d_fcount_100 (by decide) ?_
                      refine lv_istore (lv' := [(7, .int 0), (5, .int v1.2.2.2.1), (2, .int (v1.1 + 1)), (0, .ref (f 0)), (1, .int p0), (3, .int v1.2.1), (4, .int v1.2.2.1), (6, .int v1.2.2.2.2.1)]) hx hb d_fcount_101 hl (by decide) rfl (fun ls hl => ?_)
                      refine lv_iload hx hb d_fcount_103 (lv_at hl 0 rfl) ?_
                      refine lv_if_eq (tgt := 114) hx hb d_fcount_105 (by decide) (fun _ => ?_) (fun c_58 => absurd (by decide) c_58)
                      refine lv_iload_n hx hb d_fcount_114 rfl (lv_at hl 5 rfl) ?_
                      refine lv_istore_n (lv' := [(3, .int v1.2.1), (7, .int 0), (5, .int v1.2.2.2.1), (2, .int (v1.1 + 1)), (0, .ref (f 0)), (1, .int p0), (4, .int v1.2.2.1), (6, .int v1.2.2.2.2.1)]) hx hb d_fcount_115 rfl hl (by decide) rfl (fun ls hl => ?_)
                      refine lv_iload hx hb d_fcount_116 (lv_at hl 1 rfl) ?_
                      refine lv_if_eq (tgt := 126) hx hb d_fcount_118 (by decide) (fun _ => ?_) (fun c_59 => absurd (by decide) c_59)
                      refine lv_iload hx hb d_fcount_126 (lv_at hl 6 rfl) ?_
                      refine lv_istore (lv' := [(4, .int v1.2.2.1), (3, .int v1.2.1), (7, .int 0), (5, .int v1.2.2.2.1), (2, .int (v1.1 + 1)), (0, .ref (f 0)), (1, .int p0), (6, .int v1.2.2.2.2.1)]) hx hb d_fcount_128 hl (by decide) rfl (fun ls hl => ?_)
                      refine lv_iinc (v := v1.2.2.2.2.1 - 1) (lv' := [(6, .int (v1.2.2.2.2.1 - 1)), (4, .int v1.2.2.1), (3, .int v1.2.1), (7, .int 0), (5, .int v1.2.2.2.1), (2, .int (v1.1 + 1)), (0, .ref (f 0)), (1, .int p0)]) hx hb d_fcount_130 hl (k := 7) rfl (ld_m1 _) (by decide) rfl (fun ls hl => ?_)
                      refine lv_goto (tgt := 22) hx hb d_fcount_133 (by decide) ?_
                      obtain rfl := Option.some.inj hy1
                      exact ih1 (v1.1 + 1, v1.2.1, v1.2.2.1, v1.2.2.2.1, v1.2.2.2.2.1 - 1, r_56.2.1, r_56.2.2.1, r_56.2.2.2) _ _ _ g1 hP hD hS (lv_sub hl [6, 7, 5, 2, 1, 4, 0] rfl)
                    · have hy1 := (if_neg c_57).symm.trans hy1
                      refine lv_iconst (v := 1) hx hb d_fcount_96 (by decide) ?_
                      refine lv_goto (tgt := 101) hx hb d_fcount_97 (by decide) ?_
                      refine lv_istore (lv' := [(7, .int 1), (5, .int v1.2.2.2.1), (2, .int (v1.1 + 1)), (0, .ref (f 0)), (1, .int p0), (3, .int v1.2.1), (4, .int v1.2.2.1), (6, .int v1.2.2.2.2.1)]) hx hb d_fcount_101 hl (by decide) rfl (fun ls hl => ?_)
                      refine lv_iload hx hb d_fcount_103 (lv_at hl 0 rfl) ?_
                      refine lv_if_eq (tgt := 114) hx hb d_fcount_105 (by decide) (fun c_60 => absurd c_60 (by decide)) (fun _ => ?_)
                      refine lv_iload_n hx hb d_fcount_108 rfl (lv_at hl 5 rfl) ?_
                      refine lv_iconst (v := 1) hx hb d_fcount_109 (by decide) ?_
                      refine lv_iadd hx hb d_fcount_110 ?_
                      refine lv_goto (tgt := 115) hx hb d_fcount_111 (by decide) ?_
                      refine lv_istore_n (lv' := [(3, .int (v1.2.1 + 1)), (7, .int 1), (5, .int v1.2.2.2.1), (2, .int (v1.1 + 1)), (0, .ref (f 0)), (1, .int p0), (4, .int v1.2.2.1), (6, .int v1.2.2.2.2.1)]) hx hb d_fcount_115 rfl hl (by decide) rfl (fun ls hl => ?_)
                      refine lv_iload hx hb d_fcount_116 (lv_at hl 1 rfl) ?_
                      refine lv_if_eq (tgt := 126) hx hb d_fcount_118 (by decide) (fun c_61 => absurd c_61 (by decide)) (fun _ => ?_)
                      refine lv_iload hx hb d_fcount_121 (lv_at hl 7 rfl) ?_
                      refine lv_goto (tgt := 128) hx hb d_fcount_123 (by decide) ?_
                      refine lv_istore (lv' := [(4, .int v1.2.2.2.2.1), (3, .int (v1.2.1 + 1)), (7, .int 1), (5, .int v1.2.2.2.1), (2, .int (v1.1 + 1)), (0, .ref (f 0)), (1, .int p0), (6, .int v1.2.2.2.2.1)]) hx hb d_fcount_128 hl (by decide) rfl (fun ls hl => ?_)
                      refine lv_iinc (v := v1.2.2.2.2.1 - 1) (lv' := [(6, .int (v1.2.2.2.2.1 - 1)), (4, .int v1.2.2.2.2.1), (3, .int (v1.2.1 + 1)), (7, .int 1), (5, .int v1.2.2.2.1), (2, .int (v1.1 + 1)), (0, .ref (f 0)), (1, .int p0)]) hx hb d_fcount_130 hl (k := 7) rfl (ld_m1 _) (by decide) rfl (fun ls hl => ?_)
                      refine lv_goto (tgt := 22) hx hb d_fcount_133 (by decide) ?_
                      obtain rfl := Option.some.inj hy1
                      exact ih1 (v1.1 + 1, v1.2.1 + 1, v1.2.2.2.2.1, v1.2.2.2.1, v1.2.2.2.2.1 - 1, r_56.2.1, r_56.2.2.1, r_56.2.2.2) _ _ _ g1 hP hD hS (lv_sub hl [6, 7, 5, 2, 1, 4, 0] rfl)
              · have hy1 := (if_pos c_45).symm.trans hy1
                refine lv_iload hx hb d_fcount_65 (lv_at hl 5 rfl) ?_
                refine lv_iconst (v := 1) hx hb d_fcount_67 (by decide) ?_
                refine lv_iadd hx hb d_fcount_68 ?_
                refine lv_goto (tgt := 74) hx hb d_fcount_69 (by decide) ?_
                refine lv_istore (lv' := [(5, .int (v1.2.2.2.1 + 1)), (2, .int (v1.1 + 1)), (0, .ref (f 0)), (1, .int p0), (3, .int v1.2.1), (4, .int v1.2.2.1), (6, .int v1.2.2.2.2.1)]) hx hb d_fcount_74 hl (by decide) rfl (fun ls hl => ?_)
                refine lv_iload_n hx hb d_fcount_76 rfl (lv_at hl 3 rfl) ?_
                refine lv_iconst (v := 2) hx hb d_fcount_77 (by decide) ?_
                refine lv_icmp_eq (tgt := 86) hx hb d_fcount_78 (by decide) (fun c_62 => ?_) (fun c_62 => ?_)
                · have hy1 := (if_pos c_62).symm.trans hy1
                  refine lv_aload_n hx hb d_fcount_86 rfl (lv_at hl 2 rfl) ?_
                  refine lv_iload hx hb d_fcount_87 (lv_at hl 6 rfl) ?_
                  refine lv_iconst (v := ld_n1) hx hb d_fcount_89 (by decide) ?_
                  obtain ⟨r_63, e_63, hy1⟩ := ld_ob hy1
                  refine ld_mi (wr := ([] : List Nat).filterMap (fun i => (ld_oW f v1.2.2.2.2.2.1 ++ ld_bW f cI fb ++ ld_eW f cI cZ v1.2.2.2.2.2.2.1 ++ ld_sW f cI cZ v1.2.2.2.2.2.2.2)[i]?)) (ws2 := ld_oW f r_63.2.1 ++ ld_bW f cI fb ++ ld_eW f cI cZ r_63.2.2.1 ++ ld_sW f cI cZ r_63.2.2.2) (va_runV (As := [.int v1.2.2.2.2.1, .int ld_n1]) (rest := []) ⟨hx, hb, hml, hown, hg⟩ (lc_fmet l D cI cZ cJ f v1.2.2.2.2.2.1 fb v1.2.2.2.2.2.2.1 v1.2.2.2.2.2.2.2 v1.2.2.2.2.1 ld_n1 _ N r_63 e_63) ⟨callB_of 2 hg (ld_gd k_460) rfl rfl rfl (hg _ k_30) (hg _ k_473) hd_fmet ⟨Nat.le_of_ble_eq_true rfl, Nat.le_of_ble_eq_true rfl⟩, hg _ k_458, hg _ k_459⟩ (ld_preMV hP hK hN hD [0, 1, 2, 3, 4, 5, 6, 7, 8, 9, 10, 11] (by decide) rfl 7 0 rfl rfl) rfl rfl hl.1 rfl (lv_room (Nat.le_of_ble_eq_true rfl)) d_fcount_90 ⟨Nat.zero_le _, Nat.zero_le _⟩) hP hD hS hA [0, 1, 2, 3, 4, 5, 6, 7, 8, 9, 10, 11] [] [0, 1, 2, 3, 4, 5, 6, 7, 8, 9, 10, 11] rfl rfl (by decide) (by decide) (by decide) rfl (fun H locs hP hD hS => ?_)
                  refine lv_if_lt (tgt := 100) hx hb d_fcount_93 (by decide) (fun c_64 => ?_) (fun c_64 => ?_)
                  · have hy1 := (if_pos c_64).symm.trans hy1
                    refine lv_iconst (v := 0) hx hb d_fcount_100 (by decide) ?_
                    refine lv_istore (lv' := [(7, .int 0), (5, .int (v1.2.2.2.1 + 1)), (2, .int (v1.1 + 1)), (0, .ref (f 0)), (1, .int p0), (3, .int v1.2.1), (4, .int v1.2.2.1), (6, .int v1.2.2.2.2.1)]) hx hb d_fcount_101 hl (by decide) rfl (fun ls hl => ?_)
                    refine lv_iload hx hb d_fcount_103 (lv_at hl 0 rfl) ?_
                    refine lv_if_eq (tgt := 114) hx hb d_fcount_105 (by decide) (fun _ => ?_) (fun c_65 => absurd (by decide) c_65)
                    refine lv_iload_n hx hb d_fcount_114 rfl (lv_at hl 5 rfl) ?_
                    refine lv_istore_n (lv' := [(3, .int v1.2.1), (7, .int 0), (5, .int (v1.2.2.2.1 + 1)), (2, .int (v1.1 + 1)), (0, .ref (f 0)), (1, .int p0), (4, .int v1.2.2.1), (6, .int v1.2.2.2.2.1)]) hx hb d_fcount_115 rfl hl (by decide) rfl (fun ls hl => ?_)
                    refine lv_iload hx hb d_fcount_116 (lv_at hl 1 rfl) ?_
                    refine lv_if_eq (tgt := 126) hx hb d_fcount_118 (by decide) (fun _ => ?_) (fun c_66 => absurd (by decide) c_66)
                    refine lv_iload hx hb d_fcount_126 (lv_at hl 6 rfl) ?_
                    refine lv_istore (lv' := [(4, .int v1.2.2.1), (3, .int v1.2.1), (7, .int 0), (5, .int (v1.2.2.2.1 + 1)), (2, .int (v1.1 + 1)), (0, .ref (f 0)), (1, .int p0), (6, .int v1.2.2.2.2.1)]) hx hb d_fcount_128 hl (by decide) rfl (fun ls hl => ?_)
                    refine lv_iinc (v := v1.2.2.2.2.1 - 1) (lv' := [(6, .int (v1.2.2.2.2.1 - 1)), (4, .int v1.2.2.1), (3, .int v1.2.1), (7, .int 0), (5, .int (v1.2.2.2.1 + 1)), (2, .int (v1.1 + 1)), (0, .ref (f 0)), (1, .int p0)]) hx hb d_fcount_130 hl (k := 7) rfl (ld_m1 _) (by decide) rfl (fun ls hl => ?_)
                    refine lv_goto (tgt := 22) hx hb d_fcount_133 (by decide) ?_
                    obtain rfl := Option.some.inj hy1
                    exact ih1 (v1.1 + 1, v1.2.1, v1.2.2.1, v1.2.2.2.1 + 1, v1.2.2.2.2.1 - 1, r_63.2.1, r_63.2.2.1, r_63.2.2.2) _ _ _ g1 hP hD hS (lv_sub hl [6, 7, 5, 2, 1, 4, 0] rfl)
                  · have hy1 := (if_neg c_64).symm.trans hy1
                    refine lv_iconst (v := 1) hx hb d_fcount_96 (by decide) ?_
                    refine lv_goto (tgt := 101) hx hb d_fcount_97 (by decide) ?_
                    refine lv_istore (lv' := [(7, .int 1), (5, .int (v1.2.2.2.1 + 1)), (2, .int (v1.1 + 1)), (0, .ref (f 0)), (1, .int p0), (3, .int v1.2.1), (4, .int v1.2.2.1), (6, .int v1.2.2.2.2.1)]) hx hb d_fcount_101 hl (by decide) rfl (fun ls hl => ?_)
                    refine lv_iload hx hb d_fcount_103 (lv_at hl 0 rfl) ?_
                    refine lv_if_eq (tgt := 114) hx hb d_fcount_105 (by decide) (fun c_67 => absurd c_67 (by decide)) (fun _ => ?_)
                    refine lv_iload_n hx hb d_fcount_108 rfl (lv_at hl 5 rfl) ?_
                    refine lv_iconst (v := 1) hx hb d_fcount_109 (by decide) ?_
                    refine lv_iadd hx hb d_fcount_110 ?_
                    refine lv_goto (tgt := 115) hx hb d_fcount_111 (by decide) ?_
                    refine lv_istore_n (lv' := [(3, .int (v1.2.1 + 1)), (7, .int 1), (5, .int (v1.2.2.2.1 + 1)), (2, .int (v1.1 + 1)), (0, .ref (f 0)), (1, .int p0), (4, .int v1.2.2.1), (6, .int v1.2.2.2.2.1)]) hx hb d_fcount_115 rfl hl (by decide) rfl (fun ls hl => ?_)
                    refine lv_iload hx hb d_fcount_116 (lv_at hl 1 rfl) ?_
                    refine lv_if_eq (tgt := 126) hx hb d_fcount_118 (by decide) (fun c_68 => absurd c_68 (by decide)) (fun _ => ?_)
                    refine lv_iload hx hb d_fcount_121 (lv_at hl 7 rfl) ?_
                    refine lv_goto (tgt := 128) hx hb d_fcount_123 (by decide) ?_
                    refine lv_istore (lv' := [(4, .int v1.2.2.2.2.1), (3, .int (v1.2.1 + 1)), (7, .int 1), (5, .int (v1.2.2.2.1 + 1)), (2, .int (v1.1 + 1)), (0, .ref (f 0)), (1, .int p0), (6, .int v1.2.2.2.2.1)]) hx hb d_fcount_128 hl (by decide) rfl (fun ls hl => ?_)
                    refine lv_iinc (v := v1.2.2.2.2.1 - 1) (lv' := [(6, .int (v1.2.2.2.2.1 - 1)), (4, .int v1.2.2.2.2.1), (3, .int (v1.2.1 + 1)), (7, .int 1), (5, .int (v1.2.2.2.1 + 1)), (2, .int (v1.1 + 1)), (0, .ref (f 0)), (1, .int p0)]) hx hb d_fcount_130 hl (k := 7) rfl (ld_m1 _) (by decide) rfl (fun ls hl => ?_)
                    refine lv_goto (tgt := 22) hx hb d_fcount_133 (by decide) ?_
                    obtain rfl := Option.some.inj hy1
                    exact ih1 (v1.1 + 1, v1.2.1 + 1, v1.2.2.2.2.1, v1.2.2.2.1 + 1, v1.2.2.2.2.1 - 1, r_63.2.1, r_63.2.2.1, r_63.2.2.2) _ _ _ g1 hP hD hS (lv_sub hl [6, 7, 5, 2, 1, 4, 0] rfl)
                · have hy1 := (if_neg c_62).symm.trans hy1
                  refine lv_iload_n hx hb d_fcount_81 rfl (lv_at hl 3 rfl) ?_
                  refine lv_iconst (v := 3) hx hb d_fcount_82 (by decide) ?_
                  refine lv_icmp_ne (tgt := 100) hx hb d_fcount_83 (by decide) (fun c_69 => ?_) (fun c_69 => ?_)
                  · have hy1 := (if_neg c_69).symm.trans hy1
                    refine lv_iconst (v := 0) hx hb d_fcount_100 (by decide) ?_
                    refine lv_istore (lv' := [(7, .int 0), (5, .int (v1.2.2.2.1 + 1)), (2, .int (v1.1 + 1)), (0, .ref (f 0)), (1, .int p0), (3, .int v1.2.1), (4, .int v1.2.2.1), (6, .int v1.2.2.2.2.1)]) hx hb d_fcount_101 hl (by decide) rfl (fun ls hl => ?_)
                    refine lv_iload hx hb d_fcount_103 (lv_at hl 0 rfl) ?_
                    refine lv_if_eq (tgt := 114) hx hb d_fcount_105 (by decide) (fun _ => ?_) (fun c_70 => absurd (by decide) c_70)
                    refine lv_iload_n hx hb d_fcount_114 rfl (lv_at hl 5 rfl) ?_
                    refine lv_istore_n (lv' := [(3, .int v1.2.1), (7, .int 0), (5, .int (v1.2.2.2.1 + 1)), (2, .int (v1.1 + 1)), (0, .ref (f 0)), (1, .int p0), (4, .int v1.2.2.1), (6, .int v1.2.2.2.2.1)]) hx hb d_fcount_115 rfl hl (by decide) rfl (fun ls hl => ?_)
                    refine lv_iload hx hb d_fcount_116 (lv_at hl 1 rfl) ?_
                    refine lv_if_eq (tgt := 126) hx hb d_fcount_118 (by decide) (fun _ => ?_) (fun c_71 => absurd (by decide) c_71)
                    refine lv_iload hx hb d_fcount_126 (lv_at hl 6 rfl) ?_
                    refine lv_istore (lv' := [(4, .int v1.2.2.1), (3, .int v1.2.1), (7, .int 0), (5, .int (v1.2.2.2.1 + 1)), (2, .int (v1.1 + 1)), (0, .ref (f 0)), (1, .int p0), (6, .int v1.2.2.2.2.1)]) hx hb d_fcount_128 hl (by decide) rfl (fun ls hl => ?_)
                    refine lv_iinc (v := v1.2.2.2.2.1 - 1) (lv' := [(6, .int (v1.2.2.2.2.1 - 1)), (4, .int v1.2.2.1), (3, .int v1.2.1), (7, .int 0), (5, .int (v1.2.2.2.1 + 1)), (2, .int (v1.1 + 1)), (0, .ref (f 0)), (1, .int p0)]) hx hb d_fcount_130 hl (k := 7) rfl (ld_m1 _) (by decide) rfl (fun ls hl => ?_)
                    refine lv_goto (tgt := 22) hx hb d_fcount_133 (by decide) ?_
                    obtain rfl := Option.some.inj hy1
                    exact ih1 (v1.1 + 1, v1.2.1, v1.2.2.1, v1.2.2.2.1 + 1, v1.2.2.2.2.1 - 1, v1.2.2.2.2.2.1, v1.2.2.2.2.2.2.1, v1.2.2.2.2.2.2.2) _ _ _ g1 hP hD hS (lv_sub hl [6, 7, 5, 2, 1, 4, 0] rfl)
                  · have hy1 := (if_pos c_69).symm.trans hy1
                    refine lv_aload_n hx hb d_fcount_86 rfl (lv_at hl 2 rfl) ?_
                    refine lv_iload hx hb d_fcount_87 (lv_at hl 6 rfl) ?_
                    refine lv_iconst (v := ld_n1) hx hb d_fcount_89 (by decide) ?_
                    obtain ⟨r_72, e_72, hy1⟩ := ld_ob hy1
                    refine ld_mi (wr := ([] : List Nat).filterMap (fun i => (ld_oW f v1.2.2.2.2.2.1 ++ ld_bW f cI fb ++ ld_eW f cI cZ v1.2.2.2.2.2.2.1 ++ ld_sW f cI cZ v1.2.2.2.2.2.2.2)[i]?)) (ws2 := ld_oW f r_72.2.1 ++ ld_bW f cI fb ++ ld_eW f cI cZ r_72.2.2.1 ++ ld_sW f cI cZ r_72.2.2.2) (va_runV (As := [.int v1.2.2.2.2.1, .int ld_n1]) (rest := []) ⟨hx, hb, hml, hown, hg⟩ (lc_fmet l D cI cZ cJ f v1.2.2.2.2.2.1 fb v1.2.2.2.2.2.2.1 v1.2.2.2.2.2.2.2 v1.2.2.2.2.1 ld_n1 _ N r_72 e_72) ⟨callB_of 2 hg (ld_gd k_460) rfl rfl rfl (hg _ k_30) (hg _ k_473) hd_fmet ⟨Nat.le_of_ble_eq_true rfl, Nat.le_of_ble_eq_true rfl⟩, hg _ k_458, hg _ k_459⟩ (ld_preMV hP hK hN hD [0, 1, 2, 3, 4, 5, 6, 7, 8, 9, 10, 11] (by decide) rfl 7 0 rfl rfl) rfl rfl hl.1 rfl (lv_room (Nat.le_of_ble_eq_true rfl)) d_fcount_90 ⟨Nat.zero_le _, Nat.zero_le _⟩) hP hD hS hA [0, 1, 2, 3, 4, 5, 6, 7, 8, 9, 10, 11] [] [0, 1, 2, 3, 4, 5, 6, 7, 8, 9, 10, 11] rfl rfl (by decide) (by decide) (by decide) rfl (fun H locs hP hD hS => ?_)
                    refine lv_if_lt (tgt := 100) hx hb d_fcount_93 (by decide) (fun c_73 => ?_) (fun c_73 => ?_)
                    · have hy1 := (if_pos c_73).symm.trans hy1
                      refine lv_iconst (v := 0) hx hb d_fcount_100 (by decide) ?_
                      refine lv_istore (lv' := [(7, .int 0), (5, .int (v1.2.2.2.1 + 1)), (2, .int (v1.1 + 1)), (0, .ref (f 0)), (1, .int p0), (3, .int v1.2.1), (4, .int v1.2.2.1), (6, .int v1.2.2.2.2.1)]) hx hb d_fcount_101 hl (by decide) rfl (fun ls hl => ?_)
                      refine lv_iload hx hb d_fcount_103 (lv_at hl 0 rfl) ?_
                      refine lv_if_eq (tgt := 114) hx hb d_fcount_105 (by decide) (fun _ => ?_) (fun c_74 => absurd (by decide) c_74)
                      refine lv_iload_n hx hb d_fcount_114 rfl (lv_at hl 5 rfl) ?_
                      refine lv_istore_n (lv' := [(3, .int v1.2.1), (7, .int 0), (5, .int (v1.2.2.2.1 + 1)), (2, .int (v1.1 + 1)), (0, .ref (f 0)), (1, .int p0), (4, .int v1.2.2.1), (6, .int v1.2.2.2.2.1)]) hx hb d_fcount_115 rfl hl (by decide) rfl (fun ls hl => ?_)
                      refine lv_iload hx hb d_fcount_116 (lv_at hl 1 rfl) ?_
                      refine lv_if_eq (tgt := 126) hx hb d_fcount_118 (by decide) (fun _ => ?_) (fun c_75 => absurd (by decide) c_75)
                      refine lv_iload hx hb d_fcount_126 (lv_at hl 6 rfl) ?_
                      refine lv_istore (lv' := [(4, .int v1.2.2.1), (3, .int v1.2.1), (7, .int 0), (5, .int (v1.2.2.2.1 + 1)), (2, .int (v1.1 + 1)), (0, .ref (f 0)), (1, .int p0), (6, .int v1.2.2.2.2.1)]) hx hb d_fcount_128 hl (by decide) rfl (fun ls hl => ?_)
                      refine lv_iinc (v := v1.2.2.2.2.1 - 1) (lv' := [(6, .int (v1.2.2.2.2.1 - 1)), (4, .int v1.2.2.1), (3, .int v1.2.1), (7, .int 0), (5, .int (v1.2.2.2.1 + 1)), (2, .int (v1.1 + 1)), (0, .ref (f 0)), (1, .int p0)]) hx hb d_fcount_130 hl (k := 7) rfl (ld_m1 _) (by decide) rfl (fun ls hl => ?_)
                      refine lv_goto (tgt := 22) hx hb d_fcount_133 (by decide) ?_
                      obtain rfl := Option.some.inj hy1
                      exact ih1 (v1.1 + 1, v1.2.1, v1.2.2.1, v1.2.2.2.1 + 1, v1.2.2.2.2.1 - 1, r_72.2.1, r_72.2.2.1, r_72.2.2.2) _ _ _ g1 hP hD hS (lv_sub hl [6, 7, 5, 2, 1, 4, 0] rfl)
                    · have hy1 := (if_neg c_73).symm.trans hy1
                      refine lv_iconst (v := 1) hx hb d_fcount_96 (by decide) ?_
                      refine lv_goto (tgt := 101) hx hb d_fcount_97 (by decide) ?_
                      refine lv_istore (lv' := [(7, .int 1), (5, .int (v1.2.2.2.1 + 1)), (2, .int (v1.1 + 1)), (0, .ref (f 0)), (1, .int p0), (3, .int v1.2.1), (4, .int v1.2.2.1), (6, .int v1.2.2.2.2.1)]) hx hb d_fcount_101 hl (by decide) rfl (fun ls hl => ?_)
                      refine lv_iload hx hb d_fcount_103 (lv_at hl 0 rfl) ?_
                      refine lv_if_eq (tgt := 114) hx hb d_fcount_105 (by decide) (fun c_76 => absurd c_76 (by decide)) (fun _ => ?_)
                      refine lv_iload_n hx hb d_fcount_108 rfl (lv_at hl 5 rfl) ?_
                      refine lv_iconst (v := 1) hx hb d_fcount_109 (by decide) ?_
                      refine lv_iadd hx hb d_fcount_110 ?_
                      refine lv_goto (tgt := 115) hx hb d_fcount_111 (by decide) ?_
                      refine lv_istore_n (lv' := [(3, .int (v1.2.1 + 1)), (7, .int 1), (5, .int (v1.2.2.2.1 + 1)), (2, .int (v1.1 + 1)), (0, .ref (f 0)), (1, .int p0), (4, .int v1.2.2.1), (6, .int v1.2.2.2.2.1)]) hx hb d_fcount_115 rfl hl (by decide) rfl (fun ls hl => ?_)
                      refine lv_iload hx hb d_fcount_116 (lv_at hl 1 rfl) ?_
                      refine lv_if_eq (tgt := 126) hx hb d_fcount_118 (by decide) (fun c_77 => absurd c_77 (by decide)) (fun _ => ?_)
                      refine lv_iload hx hb d_fcount_121 (lv_at hl 7 rfl) ?_
                      refine lv_goto (tgt := 128) hx hb d_fcount_123 (by decide) ?_
                      refine lv_istore (lv' := [(4, .int v1.2.2.2.2.1), (3, .int (v1.2.1 + 1)), (7, .int 1), (5, .int (v1.2.2.2.1 + 1)), (2, .int (v1.1 + 1)), (0, .ref (f 0)), (1, .int p0), (6, .int v1.2.2.2.2.1)]) hx hb d_fcount_128 hl (by decide) rfl (fun ls hl => ?_)
                      refine lv_iinc (v := v1.2.2.2.2.1 - 1) (lv' := [(6, .int (v1.2.2.2.2.1 - 1)), (4, .int v1.2.2.2.2.1), (3, .int (v1.2.1 + 1)), (7, .int 1), (5, .int (v1.2.2.2.1 + 1)), (2, .int (v1.1 + 1)), (0, .ref (f 0)), (1, .int p0)]) hx hb d_fcount_130 hl (k := 7) rfl (ld_m1 _) (by decide) rfl (fun ls hl => ?_)
                      refine lv_goto (tgt := 22) hx hb d_fcount_133 (by decide) ?_
                      obtain rfl := Option.some.inj hy1
                      exact ih1 (v1.1 + 1, v1.2.1 + 1, v1.2.2.2.2.1, v1.2.2.2.1 + 1, v1.2.2.2.2.1 - 1, r_72.2.1, r_72.2.2.1, r_72.2.2.2) _ _ _ g1 hP hD hS (lv_sub hl [6, 7, 5, 2, 1, 4, 0] rfl)
  exact key1 N (0, 0, ld_n1, 0, r_1.1.1 - 1, r_1.1, r_1.2.1, r_1.2.2) _ _ _ eY1 hP hD hS (lv_sub hl [5, 6, 4, 3, 2, 1, 0] rfl)
