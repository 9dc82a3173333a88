def ls_flearn_5 (v4 : Int32 × (Int32 × Int32 × Int32) × ld_eT × ld_sT) (v5 : Int32 × (Int32 × Int32 × Int32) × ld_eT × ld_sT) : Option ((Int32 × (Int32 × Int32 × Int32) × ld_eT × ld_sT) ⊕ (Int32 × (Int32 × Int32 × Int32) × ld_eT × ld_sT)) := if v5.2.1.1 ≤ v5.1 then some (.inr (v5.1, v5.2.1, v5.2.2.1, v5.2.2.2)) else if ld_in ((120 * v4.1) + v5.1) 14400 = true then (some (.inl (v5.1 + 1, v5.2.1, (v5.2.2.1.1, v5.2.2.1.2.1, upd v5.2.2.1.2.2 (((120 * v4.1) + v5.1).toNatClampNeg) 0), v5.2.2.2))) else none
def ls_flearn_4 (N : Nat) (fb : ld_bT) (v4 : Int32 × (Int32 × Int32 × Int32) × ld_eT × ld_sT) : Option ((Int32 × (Int32 × Int32 × Int32) × ld_eT × ld_sT) ⊕ (Int32 × (Int32 × Int32 × Int32) × ld_eT × ld_sT)) := if v4.2.1.1 ≤ v4.1 then some (.inr (v4.1, v4.2.1, v4.2.2.1, v4.2.2.2)) else Option.bind (ld_it (ls_flearn_5 v4) N (0, v4.2.1, v4.2.2.1, v4.2.2.2)) (fun Y5 => if ld_in v4.1 120 = true then (if (fb.1 v4.1.toNatClampNeg) = 1 then Option.bind (lm_fgoAll N Y5.2.1 fb Y5.2.2.1 Y5.2.2.2 v4.1) (fun r_7 => some (.inl (v4.1 + 1, r_7.1, r_7.2.1, r_7.2.2))) else some (.inl (v4.1 + 1, Y5.2.1, Y5.2.2.1, Y5.2.2.2))) else none)
def ls_flearn_6 (N : Nat) (fb : ld_bT) (v3 : Int32 × (Int32 × Int32 × Int32) × ld_eT × ld_sT) (v6 : Int32 × (Int32 × Int32 × Int32) × ld_eT × ld_sT) : Option ((Int32 × (Int32 × Int32 × Int32) × ld_eT × ld_sT) ⊕ (Int32 × (Int32 × Int32 × Int32) × ld_eT × ld_sT)) := if 16 ≤ v6.1 then some (.inr (v6.1, v6.2.1, v6.2.2.1, v6.2.2.2)) else Option.bind (lm_fIsUsed N v6.2.1 fb v6.2.2.2 v3.1 v6.1) (fun r_12 => if r_12.1 = 0 then if ld_in v3.1 120 = true then (some (.inl (v6.1 + 1, r_12.2.1, (v6.2.2.1.1, upd v6.2.2.1.2.1 v3.1.toNatClampNeg (v6.2.2.1.2.1 v3.1.toNatClampNeg), v6.2.2.1.2.2), r_12.2.2))) else none else if ld_in v3.1 120 = true then (some (.inl (v6.1 + 1, r_12.2.1, (v6.2.2.1.1, upd v6.2.2.1.2.1 v3.1.toNatClampNeg ((v6.2.2.1.2.1 v3.1.toNatClampNeg) ||| ((1 : Int32) <<< (v6.1 &&& 31))), v6.2.2.1.2.2), r_12.2.2))) else none)
def ls_flearn_3 (N : Nat) (fb : ld_bT) (v3 : Int32 × (Int32 × Int32 × Int32) × ld_eT × ld_sT) : Option ((Int32 × (Int32 × Int32 × Int32) × ld_eT × ld_sT) ⊕ (Int32 × (Int32 × Int32 × Int32) × ld_eT × ld_sT)) := if v3.2.1.1 ≤ v3.1 then some (.inr (v3.1, v3.2.1, v3.2.2.1, v3.2.2.2)) else Option.bind (ld_it (ls_flearn_6 N fb v3) N (0, v3.2.1, v3.2.2.1, v3.2.2.2)) (fun Y6 => some (.inl (v3.1 + 1, Y6.2.1, Y6.2.2.1, Y6.2.2.2)))
def ls_flearn_2 (N : Nat) (fb : ld_bT) (v2 : (Int32 × Int32 × Int32) × ld_eT × ld_sT) : Option (((Int32 × Int32 × Int32) × ld_eT × ld_sT) ⊕ ((Int32 × Int32 × Int32) × ld_eT × ld_sT)) := if v2.1.2.2 ≤ 0 then some (.inr (v2.1, v2.2.1, v2.2.2)) else if ld_in (v2.1.2.2 - 1) 1920 = true then (if ld_in ((v2.2.2.1 (v2.1.2.2 - 1).toNatClampNeg) / 16) 120 = true then (Option.bind (lm_fmeet N (v2.1.1, v2.1.2.1, v2.1.2.2 - 1) v2.2.2 (fb.2.2.2.2.1 ((v2.2.2.1 (v2.1.2.2 - 1).toNatClampNeg) / 16).toNatClampNeg) 0) (fun r_19 => Option.bind (lm_fmeet N r_19.1 r_19.2 (fb.2.2.2.2.2 ((v2.2.2.1 (v2.1.2.2 - 1).toNatClampNeg) / 16).toNatClampNeg) 0) (fun r_20 => some (.inl (r_20.1, (upd v2.2.1.1 (((v2.2.2.1 (v2.1.2.2 - 1).toNatClampNeg) / 16).toNatClampNeg) (vp_nar .boolean 1), v2.2.1.2.1, v2.2.1.2.2), r_20.2))))) else none) else none
def ls_flearn_1 (v1 : Int32 × (Int32 × Int32 × Int32) × ld_eT × ld_sT) : Option ((Int32 × (Int32 × Int32 × Int32) × ld_eT × ld_sT) ⊕ (Int32 × (Int32 × Int32 × Int32) × ld_eT × ld_sT)) := if v1.2.1.1 ≤ v1.1 then some (.inr (v1.1, v1.2.1, v1.2.2.1, v1.2.2.2)) else if ld_in v1.1 120 = true then (some (.inl (v1.1 + 1, v1.2.1, (upd v1.2.2.1.1 v1.1.toNatClampNeg (vp_nar .boolean 0), upd v1.2.2.1.2.1 v1.1.toNatClampNeg 0, v1.2.2.1.2.2), v1.2.2.2))) else none
def lm_flearn (N : Nat) (fo : Int32 × Int32 × Int32) (fb : ld_bT) (fe : ld_eT) (fs : ld_sT) : Option ((Int32 × Int32 × Int32) × ld_eT × ld_sT) := if fo.2.1 = 0 then (Option.bind (lm_fforget N (fo.1, 1, fo.2.2) fs) (fun r_2 => Option.bind (lm_fmeet N r_2.1 r_2.2 0 0) (fun r_3 => Option.bind (ld_it (ls_flearn_1) N (0, r_3.1, fe, r_3.2)) (fun Y1 => Option.bind (ld_it (ls_flearn_2 N fb) N (Y1.2.1, Y1.2.2.1, Y1.2.2.2)) (fun Y2 => Option.bind (ld_it (ls_flearn_3 N fb) N (0, Y2.1, Y2.2.1, Y2.2.2)) (fun Y3 => Option.bind (ld_it (ls_flearn_4 N fb) N (0, Y3.2.1, Y3.2.2.1, Y3.2.2.2)) (fun Y4 => some (Y4.2.1, Y4.2.2.1, Y4.2.2.2)))))))) else some (fo, fe, fs)
set_option maxHeartbeats 4000000 in
set_option maxRecDepth 100000 in
theorem lc_flearn (l : Launch) (D : va_G) (cI cZ cJ : ClassId) (f : Nat → Nat) (fo : Int32 × Int32 × Int32) (fb : ld_bT) (fe : ld_eT) (fs : ld_sT) (sz : Nat) (N : Nat) (R : (Int32 × Int32 × Int32) × ld_eT × ld_sT) (h : lm_flearn N fo fb fe fs = some R) : Met l y_flearn (Cond.code y_flearn prog_9_method_14_code 3 none :: bgT) ({ frames := 4, cells := 0, slots := 0, locals := 88 }) (ld_PM D cI cZ cJ (ld_oW f fo ++ ld_bW f cI fb ++ ld_eW f cI cZ fe ++ ld_sW f cI cZ fs) sz [.ref (f 0)]) (ld_QV D (ld_oW f R.1 ++ ld_bW f cI fb ++ ld_eW f cI cZ R.2.1 ++ ld_sW f cI cZ R.2.2) (va_A (ld_oW f fo ++ ld_bW f cI fb ++ ld_eW f cI cZ fe ++ ld_sW f cI cZ fs) sz)) 0 0 ((va_A (ld_oW f fo ++ ld_bW f cI fb ++ ld_eW f cI cZ fe ++ ld_sW f cI cZ fs) sz)) := by
  refine Met.ofW (cc := prog_9_method_14_code) (maxL := 3) (ret := none) (by decide) rfl ?_
  intro p e s m args below meth c s₁ B hml hv
  obtain ⟨rfl, hsz, hP, hK, hD0, hN⟩ := hv
  have hx := B.exec
  have hb := B.bytes
  have hr := B.returns
  have hg : ∀ w ∈ bgT, w.before _ s = true := fun w h => atoms_spec (ws := (Cond.code y_flearn prog_9_method_14_code 3 none :: bgT)) B.pre w (List.mem_cons_of_mem _ h)
  have hown : s.vm.findClass "LoanDeskModel" = some m.cls := findClass_of_methodNamed B.named
  have hlocks := B.notSynchronized
  subst hsz
  have hD := hD0.self (sz := s.heap.size)
  generalize hAe : va_A (ld_oW f fo ++ ld_bW f cI fb ++ ld_eW f cI cZ fe ++ ld_sW f cI cZ fs) s.heap.size = A at hD ⊢
  have hA : ∀ q : Nat, s.heap.size ≤ q → A q := fun q h => by rw [← hAe]; exact Or.inr h
  have hS : va_S A s.heap s.heap [] := va_S.rf
  have hl := lv_entry ([.ref (f 0)]) (n := 3) (Nat.le_of_ble_eq_true rfl)
  rw [lg_entry_eq]
  generalize (lg_sl ([.ref (f 0)]) ++ List.replicate (3 - (lg_sl ([.ref (f 0)])).length) Slot.unset).toArray = ls at hl ⊢
  have hl : lv_has ls 3 [(0, .ref (f 0))] := hl
  refine lv_aload_n hx hb d_flearn_0 rfl (lv_at hl 0 rfl) ?_
  refine va_get (D := D) (ci := 7) (v := .int fo.2.1) (C := "LoanDeskModel") (T := T_Ref) (N := 14) hx hb hg u_Ref hown hK hP 0 rfl rfl 7 (by decide) (hg _ k_377) (fun _ h9 => h9) rfl d_flearn_1 ?_
  refine lv_if_eq (tgt := 8) hx hb d_flearn_4 (by decide) (fun c_1 => ?_) (fun c_1 => ?_)
  · have h := (if_pos c_1).symm.trans h
    refine lv_aload_n hx hb d_flearn_8 rfl (lv_at hl 0 rfl) ?_
    refine lv_iconst (v := 1) hx hb d_flearn_9 (by decide) ?_
    refine va_put (D := D) (ci := 7) (v := .int 1) (ty := .boolean) (C := "LoanDeskModel") (T := T_Ref) (N := 14) hx hb hg u_Ref t_Ref tk_Ref n_Ref hown hK hP hD hS 0 rfl rfl 7 (by decide) (hg _ k_377) (fun _ h9 => h9) rfl (by decide +kernel) rfl rfl (Nat.le_of_ble_eq_true rfl) d_flearn_10 (fun H locs hP hD hS => ?_)
    have hP : va_P D vwCl (ld_oW f (fo.1, 1, fo.2.2) ++ ld_bW f cI fb ++ ld_eW f cI cZ fe ++ ld_sW f cI cZ fs) H := hP
    have hD : va_D A (ld_oW f (fo.1, 1, fo.2.2) ++ ld_bW f cI fb ++ ld_eW f cI cZ fe ++ ld_sW f cI cZ fs) := hD
    refine lv_aload_n hx hb d_flearn_13 rfl (lv_at hl 0 rfl) ?_
    obtain ⟨r_2, e_2, h⟩ := ld_ob h
    refine ld_mv (wr := ([1, 2, 3, 4, 5, 6, 7, 8, 9] : List Nat).filterMap (fun i => (ld_oW f (fo.1, 1, fo.2.2) ++ ld_bW f cI fb ++ ld_eW f cI cZ fe ++ ld_sW f cI cZ fs)[i]?)) (ws2 := ld_oW f r_2.1 ++ ld_bW f cI fb ++ ld_eW f cI cZ fe ++ ld_sW f cI cZ r_2.2) (va_runV (As := []) (rest := []) ⟨hx, hb, hml, hown, hg⟩ (lc_fforget l D cI cZ cJ f (fo.1, 1, fo.2.2) fs _ N r_2 e_2) ⟨callB_of 0 hg (ld_gd k_421) rfl rfl rfl (hg _ k_30) (hg _ k_419) hd_fforget ⟨Nat.le_of_ble_eq_true rfl, Nat.le_of_ble_eq_true rfl⟩, hg _ k_420, hg _ k_13⟩ (ld_preMV hP hK hN hD [0, 10, 11] (by decide) rfl 7 0 rfl rfl) rfl rfl hl.1 rfl (lv_room (Nat.le_of_ble_eq_true rfl)) d_flearn_14 ⟨Nat.zero_le _, Nat.zero_le _⟩) hP hD hS hA [0, 10, 11] [1, 2, 3, 4, 5, 6, 7, 8, 9] [9, 0, 1, 2, 3, 4, 5, 6, 7, 8, 10, 11] rfl rfl (by decide) (by decide) (by decide) rfl (fun H locs hP hD hS => ?_)
    refine lv_aload_n hx hb d_flearn_17 rfl (lv_at hl 0 rfl) ?_
    refine lv_iconst (v := 0) hx hb d_flearn_18 (by decide) ?_
    refine lv_iconst (v := 0) hx hb d_flearn_19 (by decide) ?_
    obtain ⟨r_3, e_3, h⟩ := ld_ob h
    refine ld_mv (wr := ([1, 2, 3, 4, 5, 6, 7, 8, 9] : List Nat).filterMap (fun i => (ld_oW f r_2.1 ++ ld_bW f cI fb ++ ld_eW f cI cZ fe ++ ld_sW f cI cZ r_2.2)[i]?)) (ws2 := ld_oW f r_3.1 ++ ld_bW f cI fb ++ ld_eW f cI cZ fe ++ ld_sW f cI cZ r_3.2) (va_runV (As := [.int 0, .int 0]) (rest := []) ⟨hx, hb, hml, hown, hg⟩ (lc_fmeet l D cI cZ cJ f r_2.1 r_2.2 0 0 _ N r_3 e_3) ⟨callB_of 2 hg (ld_gd k_424) rfl rfl rfl (hg _ k_30) (hg _ k_422) hd_fmeet ⟨Nat.le_of_ble_eq_true rfl, Nat.le_of_ble_eq_true rfl⟩, hg _ k_423, hg _ k_14⟩ (ld_preMV hP hK hN hD [0, 10, 11] (by decide) rfl 7 0 rfl rfl) rfl rfl hl.1 rfl (lv_room (Nat.le_of_ble_eq_true rfl)) d_flearn_20 ⟨Nat.zero_le _, Nat.zero_le _⟩) hP hD hS hA [0, 10, 11] [1, 2, 3, 4, 5, 6, 7, 8, 9] [9, 0, 1, 2, 3, 4, 5, 6, 7, 8, 10, 11] rfl rfl (by decide) (by decide) (by decide) rfl (fun H locs hP hD hS => ?_)
    refine lv_iconst (v := 0) hx hb d_flearn_23 (by decide) ?_
    refine lv_istore_n (lv' := [(1, .int 0), (0, .ref (f 0))]) hx hb d_flearn_24 rfl hl (by decide) rfl (fun ls hl => ?_)
    obtain ⟨Y1, eY1, h⟩ := ld_ob h
    have kont1 : ∀ (H : Heap) (locs : List Loc) (ls : Array Slot), va_P D vwCl (ld_oW f Y1.2.1 ++ ld_bW f cI fb ++ ld_eW f cI cZ Y1.2.2.1 ++ ld_sW f cI cZ Y1.2.2.2) H → va_D A (ld_oW f Y1.2.1 ++ ld_bW f cI fb ++ ld_eW f cI cZ Y1.2.2.1 ++ ld_sW f cI cZ Y1.2.2.2) → va_S A s.heap H locs → lv_has ls 3 [(0, .ref (f 0))] → W p l e (headSpec (Cond.code y_flearn prog_9_method_14_code 3 none :: bgT) ({ frames := 4, cells := 0, slots := 0, locals := 88 })).room s m ([.ref (f 0)] : List Value).toArray below meth c H locs 0 0 (MQ below (ld_QV D (ld_oW f R.1 ++ ld_bW f cI fb ++ ld_eW f cI cZ R.2.1 ++ ld_sW f cI cZ R.2.2) A) ([.ref (f 0)] : List Value).toArray s 0 0 (A)) (F0 m 53 ls []) := by
      intro H locs ls hP hD hS hl
      obtain ⟨Y2, eY2, h⟩ := ld_ob h
      have kont2 : ∀ (H : Heap) (locs : List Loc) (ls : Array Slot), va_P D vwCl (ld_oW f Y2.1 ++ ld_bW f cI fb ++ ld_eW f cI cZ Y2.2.1 ++ ld_sW f cI cZ Y2.2.2) H → va_D A (ld_oW f Y2.1 ++ ld_bW f cI fb ++ ld_eW f cI cZ Y2.2.1 ++ ld_sW f cI cZ Y2.2.2) → va_S A s.heap H locs → lv_has ls 3 [(0, .ref (f 0))] → W p l e (headSpec (Cond.code y_flearn prog_9_method_14_code 3 none :: bgT) ({ frames := 4, cells := 0, slots := 0, locals := 88 })).room s m ([.ref (f 0)] : List Value).toArray below meth c H locs 0 0 (MQ below (ld_QV D (ld_oW f R.1 ++ ld_bW f cI fb ++ ld_eW f cI cZ R.2.1 ++ ld_sW f cI cZ R.2.2) A) ([.ref (f 0)] : List Value).toArray s 0 0 (A)) (F0 m 115 ls []) := by
        intro H locs ls hP hD hS hl
        refine lv_iconst (v := 0) hx hb d_flearn_115 (by decide) ?_
        refine lv_istore_n (lv' := [(1, .int 0), (0, .ref (f 0))]) hx hb d_flearn_116 rfl hl (by decide) rfl (fun ls hl => ?_)
        obtain ⟨Y3, eY3, h⟩ := ld_ob h
        have kont3 : ∀ (H : Heap) (locs : List Loc) (ls : Array Slot), va_P D vwCl (ld_oW f Y3.2.1 ++ ld_bW f cI fb ++ ld_eW f cI cZ Y3.2.2.1 ++ ld_sW f cI cZ Y3.2.2.2) H → va_D A (ld_oW f Y3.2.1 ++ ld_bW f cI fb ++ ld_eW f cI cZ Y3.2.2.1 ++ ld_sW f cI cZ Y3.2.2.2) → va_S A s.heap H locs → lv_has ls 3 [(0, .ref (f 0))] → W p l e (headSpec (Cond.code y_flearn prog_9_method_14_code 3 none :: bgT) ({ frames := 4, cells := 0, slots := 0, locals := 88 })).room s m ([.ref (f 0)] : List Value).toArray below meth c H locs 0 0 (MQ below (ld_QV D (ld_oW f R.1 ++ ld_bW f cI fb ++ ld_eW f cI cZ R.2.1 ++ ld_sW f cI cZ R.2.2) A) ([.ref (f 0)] : List Value).toArray s 0 0 (A)) (F0 m 179 ls []) := by
          intro H locs ls hP hD hS hl
          refine lv_iconst (v := 0) hx hb d_flearn_179 (by decide) ?_
          refine lv_istore_n (lv' := [(1, .int 0), (0, .ref (f 0))]) hx hb d_flearn_180 rfl hl (by decide) rfl (fun ls hl => ?_)
          obtain ⟨Y4, eY4, h⟩ := ld_ob h
          have kont4 : ∀ (H : Heap) (locs : List Loc) (ls : Array Slot), va_P D vwCl (ld_oW f Y4.2.1 ++ ld_bW f cI fb ++ ld_eW f cI cZ Y4.2.2.1 ++ ld_sW f cI cZ Y4.2.2.2) H → va_D A (ld_oW f Y4.2.1 ++ ld_bW f cI fb ++ ld_eW f cI cZ Y4.2.2.1 ++ ld_sW f cI cZ Y4.2.2.2) → va_S A s.heap H locs → lv_has ls 3 [] → W p l e (headSpec (Cond.code y_flearn prog_9_method_14_code 3 none :: bgT) ({ frames := 4, cells := 0, slots := 0, locals := 88 })).room s m ([.ref (f 0)] : List Value).toArray below meth c H locs 0 0 (MQ below (ld_QV D (ld_oW f R.1 ++ ld_bW f cI fb ++ ld_eW f cI cZ R.2.1 ++ ld_sW f cI cZ R.2.2) A) ([.ref (f 0)] : List Value).toArray s 0 0 (A)) (F0 m 238 ls []) := by
            intro H locs ls hP hD hS hl
            have h := Option.some.inj h
            subst h
            exact W.vret hx hb hr (fun t ht hW => ⟨⟨(), rfl, trivial, by rw [ht]; exact hP, hD⟩, hS.F ht⟩) hS.2.2 d_flearn_238
          have key4 : ∀ (n : Nat) (v4 : Int32 × (Int32 × Int32 × Int32) × ld_eT × ld_sT) (H : Heap) (locs : List Loc) (ls : Array Slot), ld_it (ls_flearn_4 N fb) n v4 = some Y4 → va_P D vwCl (ld_oW f v4.2.1 ++ ld_bW f cI fb ++ ld_eW f cI cZ v4.2.2.1 ++ ld_sW f cI cZ v4.2.2.2) H → va_D A (ld_oW f v4.2.1 ++ ld_bW f cI fb ++ ld_eW f cI cZ v4.2.2.1 ++ ld_sW f cI cZ v4.2.2.2) → va_S A s.heap H locs → lv_has ls 3 [(0, .ref (f 0)), (1, .int v4.1)] → W p l e (headSpec (Cond.code y_flearn prog_9_method_14_code 3 none :: bgT) ({ frames := 4, cells := 0, slots := 0, locals := 88 })).room s m ([.ref (f 0)] : List Value).toArray below meth c H locs 0 0 (MQ below (ld_QV D (ld_oW f R.1 ++ ld_bW f cI fb ++ ld_eW f cI cZ R.2.1 ++ ld_sW f cI cZ R.2.2) A) ([.ref (f 0)] : List Value).toArray s 0 0 (A)) (F0 m 181 ls []) := by
            intro n
            induction n with
            | zero => intro v4 H locs ls g4 hP hD hS hl; cases g4
            | succ n ih4 =>
              intro v4 H locs ls g4 hP hD hS hl
              obtain ⟨z4, hy4, g4⟩ := ld_its g4
              refine lv_iload_n hx hb d_flearn_181 rfl (lv_at hl 1 rfl) ?_
              refine lv_aload_n hx hb d_flearn_182 rfl (lv_at hl 0 rfl) ?_
              refine va_get (D := D) (ci := 7) (v := .int v4.2.1.1) (C := "LoanDeskModel") (T := T_Ref) (N := 14) hx hb hg u_Ref hown hK hP 0 rfl rfl 0 (by decide) (hg _ k_370) (fun _ h9 => h9) rfl d_flearn_183 ?_
              refine lv_icmp_ge (tgt := 238) hx hb d_flearn_186 (by decide) (fun c_4 => ?_) (fun c_4 => ?_)
              · have hy4 := (if_pos c_4).symm.trans hy4
                obtain rfl := Option.some.inj hy4
                obtain rfl := Option.some.inj g4
                exact kont4 _ _ _ hP hD hS (lv_sub hl [] rfl)
              · have hy4 := (if_neg c_4).symm.trans hy4
                refine lv_iconst (v := 0) hx hb d_flearn_189 (by decide) ?_
                refine lv_istore_n (lv' := [(2, .int 0), (0, .ref (f 0)), (1, .int v4.1)]) hx hb d_flearn_190 rfl hl (by decide) rfl (fun ls hl => ?_)
                obtain ⟨Y5, eY5, hy4⟩ := ld_ob hy4
                have kont5 : ∀ (H : Heap) (locs : List Loc) (ls : Array Slot), va_P D vwCl (ld_oW f Y5.2.1 ++ ld_bW f cI fb ++ ld_eW f cI cZ Y5.2.2.1 ++ ld_sW f cI cZ Y5.2.2.2) H → va_D A (ld_oW f Y5.2.1 ++ ld_bW f cI fb ++ ld_eW f cI cZ Y5.2.2.1 ++ ld_sW f cI cZ Y5.2.2.2) → va_S A s.heap H locs → lv_has ls 3 [(0, .ref (f 0)), (1, .int v4.1)] → W p l e (headSpec (Cond.code y_flearn prog_9_method_14_code 3 none :: bgT) ({ frames := 4, cells := 0, slots := 0, locals := 88 })).room s m ([.ref (f 0)] : List Value).toArray below meth c H locs 0 0 (MQ below (ld_QV D (ld_oW f R.1 ++ ld_bW f cI fb ++ ld_eW f cI cZ R.2.1 ++ ld_sW f cI cZ R.2.2) A) ([.ref (f 0)] : List Value).toArray s 0 0 (A)) (F0 m 217 ls []) := by
                  intro H locs ls hP hD hS hl
                  refine lv_aload_n hx hb d_flearn_217 rfl (lv_at hl 0 rfl) ?_
                  refine va_get (D := D) (ci := 7) (v := .ref (f 1)) (C := "LoanDeskModel") (T := T_Ref) (N := 14) hx hb hg u_Ref hown hK hP 0 rfl rfl 1 (by decide) (hg _ k_371) (fun _ h9 => h9) rfl d_flearn_218 ?_
                  refine lv_iload_n hx hb d_flearn_221 rfl (lv_at hl 1 rfl) ?_
                  obtain ⟨i_5, hy4⟩ := ld_grd hy4
                  refine va_iald hx hb hK hP 1 0 rfl rfl (i := v4.1) i_5 d_flearn_222 ?_
                  refine lv_iconst (v := 1) hx hb d_flearn_223 (by decide) ?_
                  refine lv_icmp_ne (tgt := 232) hx hb d_flearn_224 (by decide) (fun c_6 => ?_) (fun c_6 => ?_)
                  · have hy4 := (if_neg c_6).symm.trans hy4
                    refine lv_iinc (v := v4.1 + 1) (lv' := [(1, .int (v4.1 + 1)), (0, .ref (f 0))]) hx hb d_flearn_232 hl (k := 1) rfl rfl (by decide) rfl (fun ls hl => ?_)
                    refine lv_goto (tgt := 181) hx hb d_flearn_235 (by decide) ?_
                    obtain rfl := Option.some.inj hy4
                    exact ih4 (v4.1 + 1, Y5.2.1, Y5.2.2.1, Y5.2.2.2) _ _ _ g4 hP hD hS (lv_sub hl [1, 0] rfl)
                  · have hy4 := (if_pos c_6).symm.trans hy4
                    refine lv_aload_n hx hb d_flearn_227 rfl (lv_at hl 0 rfl) ?_
                    refine lv_iload_n hx hb d_flearn_228 rfl (lv_at hl 1 rfl) ?_
                    obtain ⟨r_7, e_7, hy4⟩ := ld_ob hy4
                    refine ld_mv (wr := ([] : List Nat).filterMap (fun i => (ld_oW f Y5.2.1 ++ ld_bW f cI fb ++ ld_eW f cI cZ Y5.2.2.1 ++ ld_sW f cI cZ Y5.2.2.2)[i]?)) (ws2 := ld_oW f r_7.1 ++ ld_bW f cI fb ++ ld_eW f cI cZ r_7.2.1 ++ ld_sW f cI cZ r_7.2.2) (va_runV (As := [.int v4.1]) (rest := []) ⟨hx, hb, hml, hown, hg⟩ (lc_fgoAll l D cI cZ cJ f Y5.2.1 fb Y5.2.2.1 Y5.2.2.2 v4.1 _ N r_7 e_7) ⟨callB_of 1 hg (ld_gd k_439) rfl rfl rfl (hg _ k_30) (hg _ k_437) hd_fgoAll ⟨Nat.le_of_ble_eq_true rfl, Nat.le_of_ble_eq_true rfl⟩, hg _ k_438, hg _ k_19⟩ (ld_preMV hP hK hN hD [0, 1, 2, 3, 4, 5, 6, 7, 8, 9, 10, 11] (by decide) rfl 7 0 rfl rfl) rfl rfl hl.1 rfl (lv_room (Nat.le_of_ble_eq_true rfl)) d_flearn_229 ⟨Nat.zero_le _, Nat.zero_le _⟩) hP hD hS hA [0, 1, 2, 3, 4, 5, 6, 7, 8, 9, 10, 11] [] [0, 1, 2, 3, 4, 5, 6, 7, 8, 9, 10, 11] rfl rfl (by decide) (by decide) (by decide) rfl (fun H locs hP hD hS => ?_)
                    refine lv_iinc (v := v4.1 + 1) (lv' := [(1, .int (v4.1 + 1)), (0, .ref (f 0))]) hx hb d_flearn_232 hl (k := 1) rfl rfl (by decide) rfl (fun ls hl => ?_)
                    refine lv_goto (tgt := 181) hx hb d_flearn_235 (by decide) ?_
                    obtain rfl := Option.some.inj hy4
                    exact ih4 (v4.1 + 1, r_7.1, r_7.2.1, r_7.2.2) _ _ _ g4 hP hD hS (lv_sub hl [1, 0] rfl)
                have key5 : ∀ (n : Nat) (v5 : Int32 × (Int32 × Int32 × Int32) × ld_eT × ld_sT) (H : Heap) (locs : List Loc) (ls : Array Slot), ld_it (ls_flearn_5 v4) n v5 = some Y5 → va_P D vwCl (ld_oW f v5.2.1 ++ ld_bW f cI fb ++ ld_eW f cI cZ v5.2.2.1 ++ ld_sW f cI cZ v5.2.2.2) H → va_D A (ld_oW f v5.2.1 ++ ld_bW f cI fb ++ ld_eW f cI cZ v5.2.2.1 ++ ld_sW f cI cZ v5.2.2.2) → va_S A s.heap H locs → lv_has ls 3 [(0, .ref (f 0)), (1, .int v4.1), (2, .int v5.1)] → W p l e (headSpec (Cond.code y_flearn prog_9_method_14_code 3 none :: bgT) ({ frames := 4, cells := 0, slots := 0, locals := 88 })).room s m ([.ref (f 0)] : List Value).toArray below meth c H locs 0 0 (MQ below (ld_QV D (ld_oW f R.1 ++ ld_bW f cI fb ++ ld_eW f cI cZ R.2.1 ++ ld_sW f cI cZ R.2.2) A) ([.ref (f 0)] : List Value).toArray s 0 0 (A)) (F0 m 191 ls []) := by
                  intro n
                  induction n with
                  | zero => intro v5 H locs ls g5 hP hD hS hl; cases g5
                  | succ n ih5 =>
                    intro v5 H locs ls g5 hP hD hS hl
                    obtain ⟨z5, hy5, g5⟩ := ld_its g5
                    refine lv_iload_n hx hb d_flearn_191 rfl (lv_at hl 2 rfl) ?_
                    refine lv_aload_n hx hb d_flearn_192 rfl (lv_at hl 0 rfl) ?_
                    refine va_get (D := D) (ci := 7) (v := .int v5.2.1.1) (C := "LoanDeskModel") (T := T_Ref) (N := 14) hx hb hg u_Ref hown hK hP 0 rfl rfl 0 (by decide) (hg _ k_370) (fun _ h9 => h9) rfl d_flearn_193 ?_
                    refine lv_icmp_ge (tgt := 217) hx hb d_flearn_196 (by decide) (fun c_8 => ?_) (fun c_8 => ?_)
                    · have hy5 := (if_pos c_8).symm.trans hy5
                      obtain rfl := Option.some.inj hy5
                      obtain rfl := Option.some.inj g5
                      exact kont5 _ _ _ hP hD hS (lv_sub hl [0, 1] rfl)
                    · have hy5 := (if_neg c_8).symm.trans hy5
                      refine lv_aload_n hx hb d_flearn_199 rfl (lv_at hl 0 rfl) ?_
                      refine va_get (D := D) (ci := 7) (v := .ref (f 9)) (C := "LoanDeskModel") (T := T_Ref) (N := 14) hx hb hg u_Ref hown hK hP 0 rfl rfl 10 (by decide) (hg _ k_380) (fun _ h9 => h9) rfl d_flearn_200 ?_
                      refine lv_bipush (v := 120) hx hb d_flearn_203 (by decide) ?_
                      refine lv_iload_n hx hb d_flearn_205 rfl (lv_at hl 1 rfl) ?_
                      refine lv_imul hx hb d_flearn_206 ?_
                      refine lv_iload_n hx hb d_flearn_207 rfl (lv_at hl 2 rfl) ?_
                      refine lv_iadd hx hb d_flearn_208 ?_
                      refine lv_iconst (v := 0) hx hb d_flearn_209 (by decide) ?_
                      obtain ⟨i_9, hy5⟩ := ld_grd hy5
                      refine va_iast hx hb hK hP hD hS 9 0 rfl rfl (i := (120 * v4.1) + v5.1) i_9 d_flearn_210 (fun H locs hP hD hS => ?_)
                      have hP : va_P D vwCl (ld_oW f v5.2.1 ++ ld_bW f cI fb ++ ld_eW f cI cZ (v5.2.2.1.1, v5.2.2.1.2.1, upd v5.2.2.1.2.2 (((120 * v4.1) + v5.1).toNatClampNeg) 0) ++ ld_sW f cI cZ v5.2.2.2) H := hP
                      have hD : va_D A (ld_oW f v5.2.1 ++ ld_bW f cI fb ++ ld_eW f cI cZ (v5.2.2.1.1, v5.2.2.1.2.1, upd v5.2.2.1.2.2 (((120 * v4.1) + v5.1).toNatClampNeg) 0) ++ ld_sW f cI cZ v5.2.2.2) := hD
                      refine lv_iinc (v := v5.1 + 1) (lv' := [(2, .int (v5.1 + 1)), (0, .ref (f 0)), (1, .int v4.1)]) hx hb d_flearn_211 hl (k := 2) rfl rfl (by decide) rfl (fun ls hl => ?_)
                      refine lv_goto (tgt := 191) hx hb d_flearn_214 (by decide) ?_
                      obtain rfl := Option.some.inj hy5
                      exact ih5 (v5.1 + 1, v5.2.1, (v5.2.2.1.1, v5.2.2.1.2.1, upd v5.2.2.1.2.2 (((120 * v4.1) + v5.1).toNatClampNeg) 0), v5.2.2.2) _ _ _ g5 hP hD hS (lv_sub hl [1, 2, 0] rfl)
                exact key5 N (0, v4.2.1, v4.2.2.1, v4.2.2.2) _ _ _ eY5 hP hD hS (lv_sub hl [1, 2, 0] rfl)
          exact key4 N (0, Y3.2.1, Y3.2.2.1, Y3.2.2.2) _ _ _ eY4 hP hD hS (lv_sub hl [1, 0] rfl)
        have key3 : ∀ (n : Nat) (v3 : Int32 × (Int32 × Int32 × Int32) × ld_eT × ld_sT) (H : Heap) (locs : List Loc) (ls : Array Slot), ld_it (ls_flearn_3 N fb) n v3 = some Y3 → va_P D vwCl (ld_oW f v3.2.1 ++ ld_bW f cI fb ++ ld_eW f cI cZ v3.2.2.1 ++ ld_sW f cI cZ v3.2.2.2) H → va_D A (ld_oW f v3.2.1 ++ ld_bW f cI fb ++ ld_eW f cI cZ v3.2.2.1 ++ ld_sW f cI cZ v3.2.2.2) → va_S A s.heap H locs → lv_has ls 3 [(0, .ref (f 0)), (1, .int v3.1)] → W p l e (headSpec (Cond.code y_flearn prog_9_method_14_code 3 none :: bgT) ({ frames := 4, cells := 0, slots := 0, locals := 88 })).room s m ([.ref (f 0)] : List Value).toArray below meth c H locs 0 0 (MQ below (ld_QV D (ld_oW f R.1 ++ ld_bW f cI fb ++ ld_eW f cI cZ R.2.1 ++ ld_sW f cI cZ R.2.2) A) ([.ref (f 0)] : List Value).toArray s 0 0 (A)) (F0 m 117 ls []) := by
          intro n
          induction n with
          | zero => intro v3 H locs ls g3 hP hD hS hl; cases g3
          | succ n ih3 =>
            intro v3 H locs ls g3 hP hD hS hl
            obtain ⟨z3, hy3, g3⟩ := ld_its g3
            refine lv_iload_n hx hb d_flearn_117 rfl (lv_at hl 1 rfl) ?_
            refine lv_aload_n hx hb d_flearn_118 rfl (lv_at hl 0 rfl) ?_
            refine va_get (D := D) (ci := 7) (v := .int v3.2.1.1) (C := "LoanDeskModel") (T := T_Ref) (N := 14) hx hb hg u_Ref hown hK hP 0 rfl rfl 0 (by decide) (hg _ k_370) (fun _ h9 => h9) rfl d_flearn_119 ?_
            refine lv_icmp_ge (tgt := 179) hx hb d_flearn_122 (by decide) (fun c_10 => ?_) (fun c_10 => ?_)
            · have hy3 := (if_pos c_10).symm.trans hy3
              obtain rfl := Option.some.inj hy3
              obtain rfl := Option.some.inj g3
              exact kont3 _ _ _ hP hD hS (lv_sub hl [0] rfl)
            · have hy3 := (if_neg c_10).symm.trans hy3
              refine lv_iconst (v := 0) hx hb d_flearn_125 (by decide) ?_
              refine lv_istore_n (lv' := [(2, .int 0), (0, .ref (f 0)), (1, .int v3.1)]) hx hb d_flearn_126 rfl hl (by decide) rfl (fun ls hl => ?_)
              obtain ⟨Y6, eY6, hy3⟩ := ld_ob hy3
              have kont6 : ∀ (H : Heap) (locs : List Loc) (ls : Array Slot), va_P D vwCl (ld_oW f Y6.2.1 ++ ld_bW f cI fb ++ ld_eW f cI cZ Y6.2.2.1 ++ ld_sW f cI cZ Y6.2.2.2) H → va_D A (ld_oW f Y6.2.1 ++ ld_bW f cI fb ++ ld_eW f cI cZ Y6.2.2.1 ++ ld_sW f cI cZ Y6.2.2.2) → va_S A s.heap H locs → lv_has ls 3 [(0, .ref (f 0)), (1, .int v3.1)] → W p l e (headSpec (Cond.code y_flearn prog_9_method_14_code 3 none :: bgT) ({ frames := 4, cells := 0, slots := 0, locals := 88 })).room s m ([.ref (f 0)] : List Value).toArray below meth c H locs 0 0 (MQ below (ld_QV D (ld_oW f R.1 ++ ld_bW f cI fb ++ ld_eW f cI cZ R.2.1 ++ ld_sW f cI cZ R.2.2) A) ([.ref (f 0)] : List Value).toArray s 0 0 (A)) (F0 m 173 ls []) := by
                intro H locs ls hP hD hS hl
                refine lv_iinc (v := v3.1 + 1) (lv' := [(1, .int (v3.1 + 1)), (0, .ref (f 0))]) hx hb d_flearn_173 hl (k := 1) rfl rfl (by decide) rfl (fun ls hl => ?_)
                refine lv_goto (tgt := 117) hx hb d_flearn_176 (by decide) ?_
                obtain rfl := Option.some.inj hy3
                exact ih3 (v3.1 + 1, Y6.2.1, Y6.2.2.1, Y6.2.2.2) _ _ _ g3 hP hD hS (lv_sub hl [1, 0] rfl)
              have key6 : ∀ (n : Nat) (v6 : Int32 × (Int32 × Int32 × Int32) × ld_eT × ld_sT) (H : Heap) (locs : List Loc) (ls : Array Slot), ld_it (ls_flearn_6 N fb v3) n v6 = some Y6 → va_P D vwCl (ld_oW f v6.2.1 ++ ld_bW f cI fb ++ ld_eW f cI cZ v6.2.2.1 ++ ld_sW f cI cZ v6.2.2.2) H → va_D A (ld_oW f v6.2.1 ++ ld_bW f cI fb ++ ld_eW f cI cZ v6.2.2.1 ++ ld_sW f cI cZ v6.2.2.2) → va_S A s.heap H locs → lv_has ls 3 [(0, .ref (f 0)), (1, .int v3.1), (2, .int v6.1)] → W p l e (headSpec (Cond.code y_flearn prog_9_method_14_code 3 none :: bgT) ({ frames := 4, cells := 0, slots := 0, locals := 88 })).room s m ([.ref (f 0)] : List Value).toArray below meth c H locs 0 0 (MQ below (ld_QV D (ld_oW f R.1 ++ ld_bW f cI fb ++ ld_eW f cI cZ R.2.1 ++ ld_sW f cI cZ R.2.2) A) ([.ref (f 0)] : List Value).toArray s 0 0 (A)) (F0 m 127 ls []) := by
                intro n
                induction n with
                | zero => intro v6 H locs ls g6 hP hD hS hl; cases g6
                | succ n ih6 =>
                  intro v6 H locs ls g6 hP hD hS hl
                  obtain ⟨z6, hy6, g6⟩ := ld_its g6
                  refine lv_iload_n hx hb d_flearn_127 rfl (lv_at hl 2 rfl) ?_
                  refine lv_bipush (v := 16) hx hb d_flearn_128 (by decide) ?_
                  refine lv_icmp_ge (tgt := 173) hx hb d_flearn_130 (by decide) (fun c_11 => ?_) (fun c_11 => ?_)
                  · have hy6 := (if_pos c_11).symm.trans hy6
                    obtain rfl := Option.some.inj hy6
                    obtain rfl := Option.some.inj g6
                    exact kont6 _ _ _ hP hD hS (lv_sub hl [0, 1] rfl)
                  · have hy6 := (if_neg c_11).symm.trans hy6
                    refine lv_aload_n hx hb d_flearn_133 rfl (lv_at hl 0 rfl) ?_
                    refine va_get (D := D) (ci := 7) (v := .ref (f 8)) (C := "LoanDeskModel") (T := T_Ref) (N := 14) hx hb hg u_Ref hown hK hP 0 rfl rfl 9 (by decide) (hg _ k_379) (fun _ h9 => h9) rfl d_flearn_134 ?_
                    refine lv_iload_n hx hb d_flearn_137 rfl (lv_at hl 1 rfl) ?_
                    refine lv_aload_n hx hb d_flearn_138 rfl (lv_at hl 0 rfl) ?_
                    refine lv_iload_n hx hb d_flearn_139 rfl (lv_at hl 1 rfl) ?_
                    refine lv_iload_n hx hb d_flearn_140 rfl (lv_at hl 2 rfl) ?_
                    obtain ⟨r_12, e_12, hy6⟩ := ld_ob hy6
                    refine ld_mi (wr := ([7, 8, 9] : List Nat).filterMap (fun i => (ld_oW f v6.2.1 ++ ld_bW f cI fb ++ ld_eW f cI cZ v6.2.2.1 ++ ld_sW f cI cZ v6.2.2.2)[i]?)) (ws2 := ld_oW f r_12.2.1 ++ ld_bW f cI fb ++ ld_eW f cI cZ v6.2.2.1 ++ ld_sW f cI cZ r_12.2.2) (va_runV (As := [.int v3.1, .int v6.1]) (rest := [.int v3.1, .ref (f 8)]) ⟨hx, hb, hml, hown, hg⟩ (lc_fIsUsed l D cI cZ cJ f v6.2.1 fb v6.2.2.2 v3.1 v6.1 _ N r_12 e_12) ⟨callB_of 2 hg (ld_gd k_430) rfl rfl rfl (hg _ k_30) (hg _ k_428) hd_fIsUsed ⟨Nat.le_of_ble_eq_true rfl, Nat.le_of_ble_eq_true rfl⟩, hg _ k_429, hg _ k_16⟩ (ld_preMV hP hK hN hD [0, 1, 2, 3, 4, 5, 6, 10, 11] (by decide) rfl 7 0 rfl rfl) rfl rfl hl.1 rfl (lv_room (Nat.le_of_ble_eq_true rfl)) d_flearn_141 ⟨Nat.zero_le _, Nat.zero_le _⟩) hP hD hS hA [0, 1, 2, 3, 4, 5, 6, 10, 11] [7, 8, 9] [3, 4, 5, 6, 7, 8, 9, 0, 1, 2, 10, 11] rfl rfl (by decide) (by decide) (by decide) rfl (fun H locs hP hD hS => ?_)
                    refine lv_if_eq (tgt := 160) hx hb d_flearn_144 (by decide) (fun c_13 => ?_) (fun c_13 => ?_)
                    · have hy6 := (if_pos c_13).symm.trans hy6
                      refine lv_aload_n hx hb d_flearn_160 rfl (lv_at hl 0 rfl) ?_
                      refine va_get (D := D) (ci := 7) (v := .ref (f 8)) (C := "LoanDeskModel") (T := T_Ref) (N := 14) hx hb hg u_Ref hown hK hP 0 rfl rfl 9 (by decide) (hg _ k_379) (fun _ h9 => h9) rfl d_flearn_161 ?_
                      refine lv_iload_n hx hb d_flearn_164 rfl (lv_at hl 1 rfl) ?_
                      obtain ⟨i_14, hy6⟩ := ld_grd hy6
                      refine va_iald hx hb hK hP 8 0 rfl rfl (i := v3.1) i_14 d_flearn_165 ?_
                      refine va_iast hx hb hK hP hD hS 8 0 rfl rfl (i := v3.1) i_14 d_flearn_166 (fun H locs hP hD hS => ?_)
                      have hP : va_P D vwCl (ld_oW f r_12.2.1 ++ ld_bW f cI fb ++ ld_eW f cI cZ (v6.2.2.1.1, upd v6.2.2.1.2.1 v3.1.toNatClampNeg (v6.2.2.1.2.1 v3.1.toNatClampNeg), v6.2.2.1.2.2) ++ ld_sW f cI cZ r_12.2.2) H := hP
                      have hD : va_D A (ld_oW f r_12.2.1 ++ ld_bW f cI fb ++ ld_eW f cI cZ (v6.2.2.1.1, upd v6.2.2.1.2.1 v3.1.toNatClampNeg (v6.2.2.1.2.1 v3.1.toNatClampNeg), v6.2.2.1.2.2) ++ ld_sW f cI cZ r_12.2.2) := hD
                      refine lv_iinc (v := v6.1 + 1) (lv' := [(2, .int (v6.1 + 1)), (0, .ref (f 0)), (1, .int v3.1)]) hx hb d_flearn_167 hl (k := 2) rfl rfl (by decide) rfl (fun ls hl => ?_)
                      refine lv_goto (tgt := 127) hx hb d_flearn_170 (by decide) ?_
                      obtain rfl := Option.some.inj hy6
                      exact ih6 (v6.1 + 1, r_12.2.1, (v6.2.2.1.1, upd v6.2.2.1.2.1 v3.1.toNatClampNeg (v6.2.2.1.2.1 v3.1.toNatClampNeg), v6.2.2.1.2.2), r_12.2.2) _ _ _ g6 hP hD hS (lv_sub hl [1, 2, 0] rfl)
                    · have hy6 := (if_neg c_13).symm.trans hy6
                      refine lv_aload_n hx hb d_flearn_147 rfl (lv_at hl 0 rfl) ?_
                      refine va_get (D := D) (ci := 7) (v := .ref (f 8)) (C := "LoanDeskModel") (T := T_Ref) (N := 14) hx hb hg u_Ref hown hK hP 0 rfl rfl 9 (by decide) (hg _ k_379) (fun _ h9 => h9) rfl d_flearn_148 ?_
                      refine lv_iload_n hx hb d_flearn_151 rfl (lv_at hl 1 rfl) ?_
                      obtain ⟨i_15, hy6⟩ := ld_grd hy6
                      refine va_iald hx hb hK hP 8 0 rfl rfl (i := v3.1) i_15 d_flearn_152 ?_
                      refine lv_iconst (v := 1) hx hb d_flearn_153 (by decide) ?_
                      refine lv_iload_n hx hb d_flearn_154 rfl (lv_at hl 2 rfl) ?_
                      refine lv_ishl hx hb d_flearn_155 ?_
                      refine lv_ior hx hb d_flearn_156 ?_
                      refine lv_goto (tgt := 166) hx hb d_flearn_157 (by decide) ?_
                      refine va_iast hx hb hK hP hD hS 8 0 rfl rfl (i := v3.1) i_15 d_flearn_166 (fun H locs hP hD hS => ?_)
                      have hP : va_P D vwCl (ld_oW f r_12.2.1 ++ ld_bW f cI fb ++ ld_eW f cI cZ (v6.2.2.1.1, upd v6.2.2.1.2.1 v3.1.toNatClampNeg ((v6.2.2.1.2.1 v3.1.toNatClampNeg) ||| ((1 : Int32) <<< (v6.1 &&& 31))), v6.2.2.1.2.2) ++ ld_sW f cI cZ r_12.2.2) H := hP
                      have hD : va_D A (ld_oW f r_12.2.1 ++ ld_bW f cI fb ++ ld_eW f cI cZ (v6.2.2.1.1, upd v6.2.2.1.2.1 v3.1.toNatClampNeg ((v6.2.2.1.2.1 v3.1.toNatClampNeg) ||| ((1 : Int32) <<< (v6.1 &&& 31))), v6.2.2.1.2.2) ++ ld_sW f cI cZ r_12.2.2) := hD
                      refine lv_iinc (v := v6.1 + 1) (lv' := [(2, .int (v6.1 + 1)), (0, .ref (f 0)), (1, .int v3.1)]) hx hb d_flearn_167 hl (k := 2) rfl rfl (by decide) rfl (fun ls hl => ?_)
                      refine lv_goto (tgt := 127) hx hb d_flearn_170 (by decide) ?_
                      obtain rfl := Option.some.inj hy6
                      exact ih6 (v6.1 + 1, r_12.2.1, (v6.2.2.1.1, upd v6.2.2.1.2.1 v3.1.toNatClampNeg ((v6.2.2.1.2.1 v3.1.toNatClampNeg) ||| ((1 : Int32) <<< (v6.1 &&& 31))), v6.2.2.1.2.2), r_12.2.2) _ _ _ g6 hP hD hS (lv_sub hl [1, 2, 0] rfl)
              exact key6 N (0, v3.2.1, v3.2.2.1, v3.2.2.2) _ _ _ eY6 hP hD hS (lv_sub hl [1, 2, 0] rfl)
        exact key3 N (0, Y2.1, Y2.2.1, Y2.2.2) _ _ _ eY3 hP hD hS (lv_sub hl [1, 0] rfl)
      have key2 : ∀ (n : Nat) (v2 : (Int32 × Int32 × Int32) × ld_eT × ld_sT) (H : Heap) (locs : List Loc) (ls : Array Slot), ld_it (ls_flearn_2 N fb) n v2 = some Y2 → va_P D vwCl (ld_oW f v2.1 ++ ld_bW f cI fb ++ ld_eW f cI cZ v2.2.1 ++ ld_sW f cI cZ v2.2.2) H → va_D A (ld_oW f v2.1 ++ ld_bW f cI fb ++ ld_eW f cI cZ v2.2.1 ++ ld_sW f cI cZ v2.2.2) → va_S A s.heap H locs → lv_has ls 3 [(0, .ref (f 0))] → W p l e (headSpec (Cond.code y_flearn prog_9_method_14_code 3 none :: bgT) ({ frames := 4, cells := 0, slots := 0, locals := 88 })).room s m ([.ref (f 0)] : List Value).toArray below meth c H locs 0 0 (MQ below (ld_QV D (ld_oW f R.1 ++ ld_bW f cI fb ++ ld_eW f cI cZ R.2.1 ++ ld_sW f cI cZ R.2.2) A) ([.ref (f 0)] : List Value).toArray s 0 0 (A)) (F0 m 53 ls []) := by
        intro n
        induction n with
        | zero => intro v2 H locs ls g2 hP hD hS hl; cases g2
        | succ n ih2 =>
          intro v2 H locs ls g2 hP hD hS hl
          obtain ⟨z2, hy2, g2⟩ := ld_its g2
          refine lv_aload_n hx hb d_flearn_53 rfl (lv_at hl 0 rfl) ?_
          refine va_get (D := D) (ci := 7) (v := .int v2.1.2.2) (C := "LoanDeskModel") (T := T_Ref) (N := 14) hx hb hg u_Ref hown hK hP 0 rfl rfl 13 (by decide) (hg _ k_383) (fun _ h9 => h9) rfl d_flearn_54 ?_
          refine lv_if_le (tgt := 115) hx hb d_flearn_57 (by decide) (fun c_16 => ?_) (fun c_16 => ?_)
          · have hy2 := (if_pos c_16).symm.trans hy2
            obtain rfl := Option.some.inj hy2
            obtain rfl := Option.some.inj g2
            exact kont2 _ _ _ hP hD hS (lv_sub hl [0] rfl)
          · have hy2 := (if_neg c_16).symm.trans hy2
            refine lv_aload_n hx hb d_flearn_60 rfl (lv_at hl 0 rfl) ?_
            refine lv_dup hx hb d_flearn_61 rfl ?_
            refine va_get (D := D) (ci := 7) (v := .int v2.1.2.2) (C := "LoanDeskModel") (T := T_Ref) (N := 14) hx hb hg u_Ref hown hK hP 0 rfl rfl 13 (by decide) (hg _ k_383) (fun _ h9 => h9) rfl d_flearn_62 ?_
            refine lv_iconst (v := 1) hx hb d_flearn_65 (by decide) ?_
            refine lv_isub hx hb d_flearn_66 ?_
            refine va_put (D := D) (ci := 7) (v := .int (v2.1.2.2 - 1)) (ty := .int) (C := "LoanDeskModel") (T := T_Ref) (N := 14) hx hb hg u_Ref t_Ref tk_Ref n_Ref hown hK hP hD hS 0 rfl rfl 13 (by decide) (hg _ k_383) (fun _ h9 => h9) rfl (by decide +kernel) rfl rfl (Nat.le_of_ble_eq_true rfl) d_flearn_67 (fun H locs hP hD hS => ?_)
            have hP : va_P D vwCl (ld_oW f (v2.1.1, v2.1.2.1, v2.1.2.2 - 1) ++ ld_bW f cI fb ++ ld_eW f cI cZ v2.2.1 ++ ld_sW f cI cZ v2.2.2) H := hP
            have hD : va_D A (ld_oW f (v2.1.1, v2.1.2.1, v2.1.2.2 - 1) ++ ld_bW f cI fb ++ ld_eW f cI cZ v2.2.1 ++ ld_sW f cI cZ v2.2.2) := hD
            refine lv_aload_n hx hb d_flearn_70 rfl (lv_at hl 0 rfl) ?_
            refine va_get (D := D) (ci := 7) (v := .ref (f 10)) (C := "LoanDeskModel") (T := T_Ref) (N := 14) hx hb hg u_Ref hown hK hP 0 rfl rfl 11 (by decide) (hg _ k_381) (fun _ h9 => h9) rfl d_flearn_71 ?_
            refine lv_aload_n hx hb d_flearn_74 rfl (lv_at hl 0 rfl) ?_
            refine va_get (D := D) (ci := 7) (v := .int (v2.1.2.2 - 1)) (C := "LoanDeskModel") (T := T_Ref) (N := 14) hx hb hg u_Ref hown hK hP 0 rfl rfl 13 (by decide) (hg _ k_383) (fun _ h9 => h9) rfl d_flearn_75 ?_
            obtain ⟨i_17, hy2⟩ := ld_grd hy2
            refine va_iald hx hb hK hP 10 0 rfl rfl (i := v2.1.2.2 - 1) i_17 d_flearn_78 ?_
            refine lv_bipush (v := 16) hx hb d_flearn_79 (by decide) ?_
            refine lv_idiv hx hb d_flearn_81 (by decide) ?_
            refine lv_istore_n (lv' := [(1, .int ((v2.2.2.1 (v2.1.2.2 - 1).toNatClampNeg) / 16)), (0, .ref (f 0))]) hx hb d_flearn_82 rfl hl (by decide) rfl (fun ls hl => ?_)
            refine lv_aload_n hx hb d_flearn_83 rfl (lv_at hl 1 rfl) ?_
            refine va_get (D := D) (ci := 7) (v := .ref (f 7)) (C := "LoanDeskModel") (T := T_Ref) (N := 14) hx hb hg u_Ref hown hK hP 0 rfl rfl 8 (by decide) (hg _ k_378) (fun _ h9 => h9) rfl d_flearn_84 ?_
            refine lv_iload_n hx hb d_flearn_87 rfl (lv_at hl 0 rfl) ?_
            refine lv_iconst (v := 1) hx hb d_flearn_88 (by decide) ?_
            obtain ⟨i_18, hy2⟩ := ld_grd hy2
            refine va_zast hx hb hK hP hD hS 7 1 rfl rfl (i := (v2.2.2.1 (v2.1.2.2 - 1).toNatClampNeg) / 16) i_18 d_flearn_89 (fun H locs hP hD hS => ?_)
            have hP : va_P D vwCl (ld_oW f (v2.1.1, v2.1.2.1, v2.1.2.2 - 1) ++ ld_bW f cI fb ++ ld_eW f cI cZ (upd v2.2.1.1 (((v2.2.2.1 (v2.1.2.2 - 1).toNatClampNeg) / 16).toNatClampNeg) (vp_nar .boolean 1), v2.2.1.2.1, v2.2.1.2.2) ++ ld_sW f cI cZ v2.2.2) H := hP
            have hD : va_D A (ld_oW f (v2.1.1, v2.1.2.1, v2.1.2.2 - 1) ++ ld_bW f cI fb ++ ld_eW f cI cZ (upd v2.2.1.1 (((v2.2.2.1 (v2.1.2.2 - 1).toNatClampNeg) / 16).toNatClampNeg) (vp_nar .boolean 1), v2.2.1.2.1, v2.2.1.2.2) ++ ld_sW f cI cZ v2.2.2) := hD
            refine lv_aload_n hx hb d_flearn_90 rfl (lv_at hl 1 rfl) ?_
            refine lv_aload_n hx hb d_flearn_91 rfl (lv_at hl 1 rfl) ?_
            refine va_get (D := D) (ci := 7) (v := .ref (f 5)) (C := "LoanDeskModel") (T := T_Ref) (N := 14) hx hb hg u_Ref hown hK hP 0 rfl rfl 5 (by decide) (hg _ k_375) (fun _ h9 => h9) rfl d_flearn_92 ?_
            refine lv_iload_n hx hb d_flearn_95 rfl (lv_at hl 0 rfl) ?_
            refine va_iald hx hb hK hP 5 0 rfl rfl (i := (v2.2.2.1 (v2.1.2.2 - 1).toNatClampNeg) / 16) i_18 d_flearn_96 ?_
            refine lv_iconst (v := 0) hx hb d_flearn_97 (by decide) ?_
            obtain ⟨r_19, e_19, hy2⟩ := ld_ob hy2
            refine ld_mv (wr := ([1, 2, 3, 4, 5, 6, 7, 8, 9] : List Nat).filterMap (fun i => (ld_oW f (v2.1.1, v2.1.2.1, v2.1.2.2 - 1) ++ ld_bW f cI fb ++ ld_eW f cI cZ (upd v2.2.1.1 (((v2.2.2.1 (v2.1.2.2 - 1).toNatClampNeg) / 16).toNatClampNeg) (vp_nar .boolean 1), v2.2.1.2.1, v2.2.1.2.2) ++ ld_sW f cI cZ v2.2.2)[i]?)) (ws2 := ld_oW f r_19.1 ++ ld_bW f cI fb ++ ld_eW f cI cZ (upd v2.2.1.1 (((v2.2.2.1 (v2.1.2.2 - 1).toNatClampNeg) / 16).toNatClampNeg) (vp_nar .boolean 1), v2.2.1.2.1, v2.2.1.2.2) ++ ld_sW f cI cZ r_19.2) (va_runV (As := [.int (fb.2.2.2.2.1 ((v2.2.2.1 (v2.1.2.2 - 1).toNatClampNeg) / 16).toNatClampNeg), .int 0]) (rest := []) ⟨hx, hb, hml, hown, hg⟩ (lc_fmeet l D cI cZ cJ f (v2.1.1, v2.1.2.1, v2.1.2.2 - 1) v2.2.2 (fb.2.2.2.2.1 ((v2.2.2.1 (v2.1.2.2 - 1).toNatClampNeg) / 16).toNatClampNeg) 0 _ N r_19 e_19) ⟨callB_of 2 hg (ld_gd k_424) rfl rfl rfl (hg _ k_30) (hg _ k_422) hd_fmeet ⟨Nat.le_of_ble_eq_true rfl, Nat.le_of_ble_eq_true rfl⟩, hg _ k_423, hg _ k_14⟩ (ld_preMV hP hK hN hD [0, 10, 11] (by decide) rfl 7 0 rfl rfl) rfl rfl hl.1 rfl (lv_room (Nat.le_of_ble_eq_true rfl)) d_flearn_98 ⟨Nat.zero_le _, Nat.zero_le _⟩) hP hD hS hA [0, 10, 11] [1, 2, 3, 4, 5, 6, 7, 8, 9] [9, 0, 1, 2, 3, 4, 5, 6, 7, 8, 10, 11] rfl rfl (by decide) (by decide) (by decide) rfl (fun H locs hP hD hS => ?_)
            refine lv_aload_n hx hb d_flearn_101 rfl (lv_at hl 1 rfl) ?_
            refine lv_aload_n hx hb d_flearn_102 rfl (lv_at hl 1 rfl) ?_
            refine va_get (D := D) (ci := 7) (v := .ref (f 6)) (C := "LoanDeskModel") (T := T_Ref) (N := 14) hx hb hg u_Ref hown hK hP 0 rfl rfl 6 (by decide) (hg _ k_376) (fun _ h9 => h9) rfl d_flearn_103 ?_
            refine lv_iload_n hx hb d_flearn_106 rfl (lv_at hl 0 rfl) ?_
            refine va_iald hx hb hK hP 6 0 rfl rfl (i := (v2.2.2.1 (v2.1.2.2 - 1).toNatClampNeg) / 16) i_18 d_flearn_107 ?_
            refine lv_iconst (v := 0) hx hb d_flearn_108 (by decide) ?_
            obtain ⟨r_20, e_20, hy2⟩ := ld_ob hy2
            refine ld_mv (wr := ([1, 2, 3, 4, 5, 6, 7, 8, 9] : List Nat).filterMap (fun i => (ld_oW f r_19.1 ++ ld_bW f cI fb ++ ld_eW f cI cZ (upd v2.2.1.1 (((v2.2.2.1 (v2.1.2.2 - 1).toNatClampNeg) / 16).toNatClampNeg) (vp_nar .boolean 1), v2.2.1.2.1, v2.2.1.2.2) ++ ld_sW f cI cZ r_19.2)[i]?)) (ws2 := ld_oW f r_20.1 ++ ld_bW f cI fb ++ ld_eW f cI cZ (upd v2.2.1.1 (((v2.2.2.1 (v2.1.2.2 - 1).toNatClampNeg) / 16).toNatClampNeg) (vp_nar .boolean 1), v2.2.1.2.1, v2.2.1.2.2) ++ ld_sW f cI cZ r_20.2) (va_runV (As := [.int (fb.2.2.2.2.2 ((v2.2.2.1 (v2.1.2.2 - 1).toNatClampNeg) / 16).toNatClampNeg), .int 0]) (rest := []) ⟨hx, hb, hml, hown, hg⟩ (lc_fmeet l D cI cZ cJ f r_19.1 r_19.2 (fb.2.2.2.2.2 ((v2.2.2.1 (v2.1.2.2 - 1).toNatClampNeg) / 16).toNatClampNeg) 0 _ N r_20 e_20) ⟨callB_of 2 hg (ld_gd k_424) rfl rfl rfl (hg _ k_30) (hg _ k_422) hd_fmeet ⟨Nat.le_of_ble_eq_true rfl, Nat.le_of_ble_eq_true rfl⟩, hg _ k_423, hg _ k_14⟩ (ld_preMV hP hK hN hD [0, 10, 11] (by decide) rfl 7 0 rfl rfl) rfl rfl hl.1 rfl (lv_room (Nat.le_of_ble_eq_true rfl)) d_flearn_109 ⟨Nat.zero_le _, Nat.zero_le _⟩) hP hD hS hA [0, 10, 11] [1, 2, 3, 4, 5, 6, 7, 8, 9] [9, 0, 1, 2, 3, 4, 5, 6, 7, 8, 10, 11] rfl rfl (by decide) (by decide) (by decide) rfl (fun H locs hP hD hS => ?_)
            refine lv_goto (tgt := 53) hx hb d_flearn_112 (by decide) ?_
            obtain rfl := Option.some.inj hy2
            exact ih2 (r_20.1, (upd v2.2.1.1 (((v2.2.2.1 (v2.1.2.2 - 1).toNatClampNeg) / 16).toNatClampNeg) (vp_nar .boolean 1), v2.2.1.2.1, v2.2.1.2.2), r_20.2) _ _ _ g2 hP hD hS (lv_sub hl [1] rfl)
      exact key2 N (Y1.2.1, Y1.2.2.1, Y1.2.2.2) _ _ _ eY2 hP hD hS (lv_sub hl [0] rfl)
    have key1 : ∀ (n : Nat) (v1 : Int32 × (Int32 × Int32 × Int32) × ld_eT × ld_sT) (H : Heap) (locs : List Loc) (ls : Array Slot), ld_it (ls_flearn_1) n v1 = some Y1 → va_P D vwCl (ld_oW f v1.2.1 ++ ld_bW f cI fb ++ ld_eW f cI cZ v1.2.2.1 ++ ld_sW f cI cZ v1.2.2.2) H → va_D A (ld_oW f v1.2.1 ++ ld_bW f cI fb ++ ld_eW f cI cZ v1.2.2.1 ++ ld_sW f cI cZ v1.2.2.2) → va_S A s.heap H locs → lv_has ls 3 [(0, .ref (f 0)), (1, .int v1.1)] → W p l e (headSpec (Cond.code y_flearn prog_9_method_14_code 3 none :: bgT) ({ frames := 4, cells := 0, slots := 0, locals := 88 })).room s m ([.ref (f 0)] : List Value).toArray below meth c H locs 0 0 (MQ below (ld_QV D (ld_oW f R.1 ++ ld_bW f cI fb ++ ld_eW f cI cZ R.2.1 ++ ld_sW f cI cZ R.2.2) A) ([.ref (f 0)] : List Value).toArray s 0 0 (A)) (F0 m 25 ls []) := by
      intro n
      induction n with
      | zero => intro v1 H locs ls g1 hP hD hS hl; cases g1
      | succ n ih1 =>
        intro v1 H locs ls g1 hP hD hS hl
        obtain ⟨z1, hy1, g1⟩ := ld_its g1
        refine lv_iload_n hx hb d_flearn_25 rfl (lv_at hl 1 rfl) ?_
        refine lv_aload_n hx hb d_flearn_26 rfl (lv_at hl 0 rfl) ?_
        refine va_get (D := D) (ci := 7) (v := .int v1.2.1.1) (C := "LoanDeskModel") (T := T_Ref) (N := 14) hx hb hg u_Ref hown hK hP 0 rfl rfl 0 (by decide) (hg _ k_370) (fun _ h9 => h9) rfl d_flearn_27 ?_
        refine lv_icmp_ge (tgt := 53) hx hb d_flearn_30 (by decide) (fun c_21 => ?_) (fun c_21 => ?_)
        · have hy1 := (if_pos c_21).symm.trans hy1
          obtain rfl := Option.some.inj hy1
          obtain rfl := Option.some.inj g1
          exact kont1 _ _ _ hP hD hS (lv_sub hl [0] rfl)
        · have hy1 := (if_neg c_21).symm.trans hy1
          refine lv_aload_n hx hb d_flearn_33 rfl (lv_at hl 0 rfl) ?_
          refine va_get (D := D) (ci := 7) (v := .ref (f 7)) (C := "LoanDeskModel") (T := T_Ref) (N := 14) hx hb hg u_Ref hown hK hP 0 rfl rfl 8 (by decide) (hg _ k_378) (fun _ h9 => h9) rfl d_flearn_34 ?_
          refine lv_iload_n hx hb d_flearn_37 rfl (lv_at hl 1 rfl) ?_
          refine lv_iconst (v := 0) hx hb d_flearn_38 (by decide) ?_
          obtain ⟨i_22, hy1⟩ := ld_grd hy1
          refine va_zast hx hb hK hP hD hS 7 1 rfl rfl (i := v1.1) i_22 d_flearn_39 (fun H locs hP hD hS => ?_)
          have hP : va_P D vwCl (ld_oW f v1.2.1 ++ ld_bW f cI fb ++ ld_eW f cI cZ (upd v1.2.2.1.1 v1.1.toNatClampNeg (vp_nar .boolean 0), v1.2.2.1.2.1, v1.2.2.1.2.2) ++ ld_sW f cI cZ v1.2.2.2) H := hP
          have hD : va_D A (ld_oW f v1.2.1 ++ ld_bW f cI fb ++ ld_eW f cI cZ (upd v1.2.2.1.1 v1.1.toNatClampNeg (vp_nar .boolean 0), v1.2.2.1.2.1, v1.2.2.1.2.2) ++ ld_sW f cI cZ v1.2.2.2) := hD
          refine lv_aload_n hx hb d_flearn_40 rfl (lv_at hl 0 rfl) ?_
          refine va_get (D := D) (ci := 7) (v := .ref (f 8)) (C := "LoanDeskModel") (T := T_Ref) (N := 14) hx hb hg u_Ref hown hK hP 0 rfl rfl 9 (by decide) (hg _ k_379) (fun _ h9 => h9) rfl d_flearn_41 ?_
          refine lv_iload_n hx hb d_flearn_44 rfl (lv_at hl 1 rfl) ?_
          refine lv_iconst (v := 0) hx hb d_flearn_45 (by decide) ?_
          refine va_iast hx hb hK hP hD hS 8 0 rfl rfl (i := v1.1) i_22 d_flearn_46 (fun H locs hP hD hS => ?_)
          have hP : va_P D vwCl (ld_oW f v1.2.1 ++ ld_bW f cI fb ++ ld_eW f cI cZ (upd v1.2.2.1.1 v1.1.toNatClampNeg (vp_nar .boolean 0), upd v1.2.2.1.2.1 v1.1.toNatClampNeg 0, v1.2.2.1.2.2) ++ ld_sW f cI cZ v1.2.2.2) H := hP
          have hD : va_D A (ld_oW f v1.2.1 ++ ld_bW f cI fb ++ ld_eW f cI cZ (upd v1.2.2.1.1 v1.1.toNatClampNeg (vp_nar .boolean 0), upd v1.2.2.1.2.1 v1.1.toNatClampNeg 0, v1.2.2.1.2.2) ++ ld_sW f cI cZ v1.2.2.2) := hD
          refine lv_iinc (v := v1.1 + 1) (lv' := [(1, .int (v1.1 + 1)), (0, .ref (f 0))]) hx hb d_flearn_47 hl (k := 1) rfl rfl (by decide) rfl (fun ls hl => ?_)
          refine lv_goto (tgt := 25) hx hb d_flearn_50 (by decide) ?_
          obtain rfl := Option.some.inj hy1
          exact ih1 (v1.1 + 1, v1.2.1, (upd v1.2.2.1.1 v1.1.toNatClampNeg (vp_nar .boolean 0), upd v1.2.2.1.2.1 v1.1.toNatClampNeg 0, v1.2.2.1.2.2), v1.2.2.2) _ _ _ g1 hP hD hS (lv_sub hl [1, 0] rfl)
    exact key1 N (0, r_3.1, fe, r_3.2) _ _ _ eY1 hP hD hS (lv_sub hl [1, 0] rfl)
  · have h := (if_neg c_1).symm.trans h
    have h := Option.some.inj h
    subst h
    exact W.vret hx hb hr (fun t ht hW => ⟨⟨(), rfl, trivial, by rw [ht]; exact hP, hD⟩, hS.F ht⟩) hS.2.2 d_flearn_7
