theorem ld_m1 (x : Int32) : x + Int32.ofInt (-1) = x - 1 := by
  rw [Int32.sub_eq_add_neg, show Int32.ofInt (-1) = -(1 : Int32) from by decide +kernel]
def lf_ubehind (u : Nat → Int32) (p0 : Int32) : Int32 := ld_lt (lf_isIndex p0) (fun r_1 => if r_1 = 0 then 0 else u p0.toNatClampNeg)
set_option maxHeartbeats 4000000 in
set_option maxRecDepth 100000 in
theorem lc_ubehind (l : Launch) (D : va_G) (cI cZ cJ : ClassId) (a : Nat → Nat) (u : Nat → Int32) (p0 : Int32) (R : Int32) (h : lf_ubehind u p0 = R) : Met l y_ubehind (Cond.code y_ubehind prog_7_method_2_code 2 (some .int) :: bgT) ({ frames := 1, cells := 0, slots := 0, locals := 20 }) (ld_PR D cI cZ cJ (ld_uW a cI u) [.ref (a 13), .int p0]) (vp_Si (fun z => z = R)) 0 0 (fun _ => False) := by
  refine Met.ofW (cc := prog_7_method_2_code) (maxL := 2) (ret := (some .int)) (by decide) rfl ?_
  intro p e s m args below meth c s₁ B hml hv
  obtain ⟨rfl, hP, hK, hN⟩ := hv
  have hx := B.exec
  have hb := B.bytes
  have hr := B.returns
  have hg : ∀ w ∈ bgT, w.before _ s = true := fun w h => atoms_spec (ws := (Cond.code y_ubehind prog_7_method_2_code 2 (some .int) :: bgT)) B.pre w (List.mem_cons_of_mem _ h)
  have hown : s.vm.findClass "LoanDesk$Uses" = some m.cls := findClass_of_methodNamed B.named
  have hlocks := B.notSynchronized
  have hl := lv_entry ([.ref (a 13), .int p0]) (n := 2) (Nat.le_of_ble_eq_true rfl)
  rw [lg_entry_eq]
  generalize (lg_sl ([.ref (a 13), .int p0]) ++ List.replicate (2 - (lg_sl ([.ref (a 13), .int p0])).length) Slot.unset).toArray = ls at hl ⊢
  have hl : lv_has ls 2 [(0, .ref (a 13)), (1, .int p0)] := hl
  refine lv_iload_n hx hb d_ubehind_0 rfl (lv_at hl 1 rfl) ?_
  obtain ⟨r_1, e_1, h⟩ := ld_nm h
  refine ld_rd ((va_runSN (As := [.int p0]) (rest := []) ⟨hx, hb, hml, hown, hg⟩ (lc_isIndex l D cI cZ cJ p0 r_1 e_1) ⟨va_cnB 1 hg (ld_gd k_161) rfl rfl rfl (hN _ (ld_nwm 9 rfl)) (hg _ k_23) hd_isIndex ⟨Nat.le_of_ble_eq_true rfl, Nat.le_of_ble_eq_true rfl⟩, hg _ k_160, trivial⟩ (ld_preR hP hK hN [] rfl) rfl rfl hl.1 rfl (lv_room (Nat.le_of_ble_eq_true rfl)) d_ubehind_1 ⟨Nat.zero_le _, Nat.zero_le _⟩).run) ?_
  refine lv_if_eq (tgt := 16) hx hb d_ubehind_4 (by decide) (fun c_2 => ?_) (fun c_2 => ?_)
  · have h := (if_pos c_2).symm.trans h
    refine lv_iconst (v := 0) hx hb d_ubehind_16 (by decide) ?_
    exact W.iret (v := 0) hx hb hr (fun t ht hW => ⟨_, rfl, h, ht⟩) (fun _ q => by cases q) d_ubehind_17
  · have h := (if_neg c_2).symm.trans h
    refine lv_aload_n hx hb d_ubehind_7 rfl (lv_at hl 0 rfl) ?_
    refine va_get (D := D) (ci := 3) (v := .ref (a 14)) (C := "LoanDesk$Uses") (T := T_Uses) (N := 1) hx hb hg u_Uses hown hK hP 0 rfl rfl 0 (by decide) (hg _ k_87) (fun _ h9 => h9) rfl d_ubehind_8 ?_
    refine lv_iload_n hx hb d_ubehind_11 rfl (lv_at hl 1 rfl) ?_
    refine va_iald hx hb hK hP 1 0 rfl rfl (i := p0) (ld_ix e_1 c_2) d_ubehind_12 ?_
    refine lv_goto (tgt := 17) hx hb d_ubehind_13 (by decide) ?_
    exact W.iret (v := u p0.toNatClampNeg) hx hb hr (fun t ht hW => ⟨_, rfl, h, ht⟩) (fun _ q => by cases q) d_ubehind_17
def ls_growAll_1 (G : ld_gT) (v1 : Int32 × Int32 × (Nat → Int32)) : Option ((Int32 × Int32 × (Nat → Int32)) ⊕ (Int32 × Int32 × (Nat → Int32))) := if v1.2.1 < 0 then some (.inr (v1.1, v1.2.1, v1.2.2)) else ld_lt (lf_firstNext G v1.2.1) (fun r_3 => ld_lt (lf_secondNext G v1.2.1) (fun r_4 => if ld_in v1.2.1 120 = true then (ld_lt (lf_ubehind v1.2.2 r_3) (fun r_6 => ld_lt (lf_usedFrom G r_3 r_6) (fun r_7 => ld_lt (lf_ubehind v1.2.2 r_4) (fun r_8 => ld_lt (lf_usedFrom G r_4 r_8) (fun r_9 => if (((v1.2.2 v1.2.1.toNatClampNeg) ||| r_7) ||| r_9) = (v1.2.2 v1.2.1.toNatClampNeg) then some (.inl (v1.1, v1.2.1 - 1, v1.2.2)) else some (.inl (1, v1.2.1 - 1, (upd v1.2.2 v1.2.1.toNatClampNeg (((v1.2.2 v1.2.1.toNatClampNeg) ||| r_7) ||| r_9))))))))) else none))
def lm_growAll (N : Nat) (G : ld_gT) (u : Nat → Int32) : Option (Int32 × (Nat → Int32)) := ld_lt (lf_gsize G) (fun r_1 => Option.bind (ld_it (ls_growAll_1 G) N (0, (if 120 < r_1 then 120 else r_1) - 1, u)) (fun Y1 => some (Y1.1, Y1.2.2)))
theorem nbl_growAll {G : ld_gT} {N : Nat} {x : Int32 × Int32 × (Nat → Int32)} {Y : Int32 × Int32 × (Nat → Int32)} (hx : x.1 = 0) (h : ld_it (ls_growAll_1 G) N x = some Y) : Y.1 = 0 ∨ Y.1 = 1 := by
  refine ld_inv (f := ls_growAll_1 G) (fun v => v.1 = 0 ∨ v.1 = 1) (fun v => v.1 = 0 ∨ v.1 = 1) ?_ ?_ N x Y (Or.inl hx) h
  · intro v v' hv hf
    unfold ls_growAll_1 at hf
    split at hf
    · cases hf
    · simp only [ld_lt] at hf
      split at hf
      · split at hf
        · cases hf; exact hv
        · cases hf; exact Or.inr rfl
      · cases hf
  · intro v v' hv hf
    unfold ls_growAll_1 at hf
    split at hf
    · cases hf; exact hv
    · simp only [ld_lt] at hf
      split at hf
      · split at hf
        · cases hf
        · cases hf
      · cases hf
set_option maxHeartbeats 4000000 in
set_option maxRecDepth 100000 in
theorem lc_growAll (l : Launch) (D : va_G) (cI cZ cJ : ClassId) (a : Nat → Nat) (G : ld_gT) (u : Nat → Int32) (sz : Nat) (N : Nat) (R : Int32 × (Nat → Int32)) (h : lm_growAll N G u = some R) : Met l y_growAll (Cond.code y_growAll prog_7_method_4_code 7 (some .boolean) :: bgT) ({ frames := 2, cells := 0, slots := 0, locals := 43 }) (ld_PM D cI cZ cJ (ld_gW a cI G ++ ld_uW a cI u) sz [.ref (a 13), .ref (a 1)]) (ld_QI D (ld_gW a cI G ++ ld_uW a cI R.2) (va_A (ld_gW a cI G ++ ld_uW a cI u) sz) R.1) 0 0 ((va_A (ld_gW a cI G ++ ld_uW a cI u) sz)) := by
  refine Met.ofW (cc := prog_7_method_4_code) (maxL := 7) (ret := (some .boolean)) (by decide) rfl ?_
  intro p e s m args below meth c s₁ B hml hv
  obtain ⟨rfl, hsz, hP, hK, hD0, hN⟩ := hv
  have hx := B.exec
  have hb := B.bytes
  have hr := B.returns
  have hg : ∀ w ∈ bgT, w.before _ s = true := fun w h => atoms_spec (ws := (Cond.code y_growAll prog_7_method_4_code 7 (some .boolean) :: bgT)) B.pre w (List.mem_cons_of_mem _ h)
  have hown : s.vm.findClass "LoanDesk$Uses" = some m.cls := findClass_of_methodNamed B.named
  have hlocks := B.notSynchronized
  subst hsz
  have hD := hD0.self (sz := s.heap.size)
  generalize hAe : va_A (ld_gW a cI G ++ ld_uW a cI u) s.heap.size = A at hD ⊢
  have hA : ∀ q : Nat, s.heap.size ≤ q → A q := fun q h => by rw [← hAe]; exact Or.inr h
  have hS : va_S A s.heap s.heap [] := va_S.rf
  have hl := lv_entry ([.ref (a 13), .ref (a 1)]) (n := 7) (Nat.le_of_ble_eq_true rfl)
  rw [lg_entry_eq]
  generalize (lg_sl ([.ref (a 13), .ref (a 1)]) ++ List.replicate (7 - (lg_sl ([.ref (a 13), .ref (a 1)])).length) Slot.unset).toArray = ls at hl ⊢
  have hl : lv_has ls 7 [(0, .ref (a 13)), (1, .ref (a 1))] := hl
  refine lv_iconst (v := 0) hx hb d_growAll_0 (by decide) ?_
  refine lv_istore_n (lv' := [(2, .int 0), (0, .ref (a 13)), (1, .ref (a 1))]) hx hb d_growAll_1 rfl hl (by decide) rfl (fun ls hl => ?_)
  refine lv_aload_n hx hb d_growAll_2 rfl (lv_at hl 2 rfl) ?_
  obtain ⟨r_1, e_1, h⟩ := ld_nm h
  refine ld_rd (W.runV (As := []) (rest := []) ⟨hx, hb, hml, hown, hg⟩ (lc_gsize l D cI cZ cJ a G r_1 e_1) ⟨callB_of 0 hg (ld_gd k_220) rfl rfl rfl (hg _ k_24) (hg _ k_217) hd_gsize ⟨Nat.le_of_ble_eq_true rfl, Nat.le_of_ble_eq_true rfl⟩, hg _ k_218, hg _ k_219⟩ (ld_preRV hP hK hN [0, 1, 2, 3, 4, 5, 6] rfl 0 0 rfl rfl) rfl rfl hl.1 rfl (lv_room (Nat.le_of_ble_eq_true rfl)) d_growAll_3 ⟨Nat.zero_le _, Nat.zero_le _⟩) ?_
  refine lv_bipush (v := 120) hx hb d_growAll_6 (by decide) ?_
  refine va_mmin hx hb (by rw [hml]; exact hl.1.symm) hown (hg _ k_221) (hg _ k_222) (hg _ k_32) (hg _ k_223) (Nat.le_of_ble_eq_true rfl) (Nat.le_of_ble_eq_true rfl) (Nat.zero_le _) (Nat.zero_le _) d_growAll_8 ?_
  refine lv_iconst (v := 1) hx hb d_growAll_11 (by decide) ?_
  refine lv_isub hx hb d_growAll_12 ?_
  refine lv_istore_n (lv' := [(3, .int ((if 120 < r_1 then 120 else r_1) - 1)), (2, .int 0), (0, .ref (a 13)), (1, .ref (a 1))]) hx hb d_growAll_13 rfl hl (by decide) rfl (fun ls hl => ?_)
  obtain ⟨Y1, eY1, h⟩ := ld_ob h
  have kont1 : ∀ (H : Heap) (locs : List Loc) (ls : Array Slot), va_P D vwCl (ld_gW a cI G ++ ld_uW a cI Y1.2.2) H → va_D A (ld_gW a cI G ++ ld_uW a cI Y1.2.2) → va_S A s.heap H locs → lv_has ls 7 [(2, .int Y1.1)] → W p l e (headSpec (Cond.code y_growAll prog_7_method_4_code 7 (some .boolean) :: bgT) ({ frames := 2, cells := 0, slots := 0, locals := 43 })).room s m ([.ref (a 13), .ref (a 1)] : List Value).toArray below meth c H locs 0 0 (MQ below (ld_QI D (ld_gW a cI G ++ ld_uW a cI R.2) A R.1) ([.ref (a 13), .ref (a 1)] : List Value).toArray s 0 0 (A)) (F0 m 93 ls []) := by
    intro H locs ls hP hD hS hl
    refine lv_iload_n hx hb d_growAll_93 rfl (lv_at hl 0 rfl) ?_
    have h := Option.some.inj h
    subst h
    exact W.zret (v := Y1.1) hx hb hr (ld_nb (nbl_growAll rfl eY1)) (fun t ht hW => ⟨⟨_, (), rfl, rfl, by rw [ht]; exact hP, hD⟩, hS.F ht⟩) hS.2.2 d_growAll_94
  have key1 : ∀ (n : Nat) (v1 : Int32 × Int32 × (Nat → Int32)) (H : Heap) (locs : List Loc) (ls : Array Slot), ld_it (ls_growAll_1 G) n v1 = some Y1 → va_P D vwCl (ld_gW a cI G ++ ld_uW a cI v1.2.2) H → va_D A (ld_gW a cI G ++ ld_uW a cI v1.2.2) → va_S A s.heap H locs → lv_has ls 7 [(0, .ref (a 13)), (1, .ref (a 1)), (2, .int v1.1), (3, .int v1.2.1)] → W p l e (headSpec (Cond.code y_growAll prog_7_method_4_code 7 (some .boolean) :: bgT) ({ frames := 2, cells := 0, slots := 0, locals := 43 })).room s m ([.ref (a 13), .ref (a 1)] : List Value).toArray below meth c H locs 0 0 (MQ below (ld_QI D (ld_gW a cI G ++ ld_uW a cI R.2) A R.1) ([.ref (a 13), .ref (a 1)] : List Value).toArray s 0 0 (A)) (F0 m 14 ls []) := by
    intro n
    induction n with
    | zero => intro v1 H locs ls g1 hP hD hS hl; cases g1
    | succ n ih1 =>
      intro v1 H locs ls g1 hP hD hS hl
      obtain ⟨z1, hy1, g1⟩ := ld_its g1
      refine lv_iload_n hx hb d_growAll_14 rfl (lv_at hl 3 rfl) ?_
      refine lv_if_lt (tgt := 93) hx hb d_growAll_15 (by decide) (fun c_2 => ?_) (fun c_2 => ?_)
      · have hy1 := (if_pos c_2).symm.trans hy1
        obtain rfl := Option.some.inj hy1
        obtain rfl := Option.some.inj g1
        exact kont1 _ _ _ hP hD hS (lv_sub hl [2] rfl)
      · have hy1 := (if_neg c_2).symm.trans hy1
        refine lv_aload_n hx hb d_growAll_18 rfl (lv_at hl 1 rfl) ?_
        refine lv_iload_n hx hb d_growAll_19 rfl (lv_at hl 3 rfl) ?_
        obtain ⟨r_3, e_3, hy1⟩ := ld_nm hy1
        refine ld_rd (W.runV (As := [.int v1.2.1]) (rest := []) ⟨hx, hb, hml, hown, hg⟩ (lc_firstNext l D cI cZ cJ a G v1.2.1 r_3 e_3) ⟨callB_of 1 hg (ld_gd k_204) rfl rfl rfl (hg _ k_24) (hg _ k_224) hd_firstNext ⟨Nat.le_of_ble_eq_true rfl, Nat.le_of_ble_eq_true rfl⟩, hg _ k_202, hg _ k_203⟩ (ld_preRV hP hK hN [0, 1, 2, 3, 4, 5, 6] rfl 0 0 rfl rfl) rfl rfl hl.1 rfl (lv_room (Nat.le_of_ble_eq_true rfl)) d_growAll_20 ⟨Nat.zero_le _, Nat.zero_le _⟩) ?_
        refine lv_istore (lv' := [(4, .int r_3), (0, .ref (a 13)), (1, .ref (a 1)), (2, .int v1.1), (3, .int v1.2.1)]) hx hb d_growAll_23 hl (by decide) rfl (fun ls hl => ?_)
        refine lv_aload_n hx hb d_growAll_25 rfl (lv_at hl 2 rfl) ?_
        refine lv_iload_n hx hb d_growAll_26 rfl (lv_at hl 4 rfl) ?_
        obtain ⟨r_4, e_4, hy1⟩ := ld_nm hy1
        refine ld_rd (W.runV (As := [.int v1.2.1]) (rest := []) ⟨hx, hb, hml, hown, hg⟩ (lc_secondNext l D cI cZ cJ a G v1.2.1 r_4 e_4) ⟨callB_of 1 hg (ld_gd k_208) rfl rfl rfl (hg _ k_24) (hg _ k_225) hd_secondNext ⟨Nat.le_of_ble_eq_true rfl, Nat.le_of_ble_eq_true rfl⟩, hg _ k_206, hg _ k_207⟩ (ld_preRV hP hK hN [0, 1, 2, 3, 4, 5, 6] rfl 0 0 rfl rfl) rfl rfl hl.1 rfl (lv_room (Nat.le_of_ble_eq_true rfl)) d_growAll_27 ⟨Nat.zero_le _, Nat.zero_le _⟩) ?_
        refine lv_istore (lv' := [(5, .int r_4), (4, .int r_3), (0, .ref (a 13)), (1, .ref (a 1)), (2, .int v1.1), (3, .int v1.2.1)]) hx hb d_growAll_30 hl (by decide) rfl (fun ls hl => ?_)
        refine lv_aload_n hx hb d_growAll_32 rfl (lv_at hl 2 rfl) ?_
        refine va_get (D := D) (ci := 3) (v := .ref (a 14)) (C := "LoanDesk$Uses") (T := T_Uses) (N := 1) hx hb hg u_Uses hown hK hP 7 rfl rfl 0 (by decide) (hg _ k_87) (fun _ h9 => h9) rfl d_growAll_33 ?_
        refine lv_iload_n hx hb d_growAll_36 rfl (lv_at hl 5 rfl) ?_
        obtain ⟨i_5, hy1⟩ := ld_grd hy1
        refine va_iald hx hb hK hP 8 0 rfl rfl (i := v1.2.1) i_5 d_growAll_37 ?_
        refine lv_aload_n hx hb d_growAll_38 rfl (lv_at hl 3 rfl) ?_
        refine lv_iload hx hb d_growAll_39 (lv_at hl 1 rfl) ?_
        refine lv_aload_n hx hb d_growAll_41 rfl (lv_at hl 2 rfl) ?_
        refine lv_iload hx hb d_growAll_42 (lv_at hl 1 rfl) ?_
        obtain ⟨r_6, e_6, hy1⟩ := ld_nm hy1
        refine ld_rd (W.runV (As := [.int r_3]) (rest := [.int r_3, .ref (a 1), .int (v1.2.2 v1.2.1.toNatClampNeg)]) ⟨hx, hb, hml, hown, hg⟩ (lc_ubehind l D cI cZ cJ a v1.2.2 r_3 r_6 e_6) ⟨callB_of 1 hg (ld_gd k_229) rfl rfl rfl (hg _ k_27) (hg _ k_226) hd_ubehind ⟨Nat.le_of_ble_eq_true rfl, Nat.le_of_ble_eq_true rfl⟩, hg _ k_227, hg _ k_228⟩ (ld_preRV hP hK hN [7, 8] rfl 3 0 rfl rfl) rfl rfl hl.1 rfl (lv_room (Nat.le_of_ble_eq_true rfl)) d_growAll_44 ⟨Nat.zero_le _, Nat.zero_le _⟩) ?_
        obtain ⟨r_7, e_7, hy1⟩ := ld_nm hy1
        refine ld_rd (W.runV (As := [.int r_3, .int r_6]) (rest := [.int (v1.2.2 v1.2.1.toNatClampNeg)]) ⟨hx, hb, hml, hown, hg⟩ (lc_usedFrom l D cI cZ cJ a G r_3 r_6 r_7 e_7) ⟨callB_of 2 hg (ld_gd k_233) rfl rfl rfl (hg _ k_24) (hg _ k_230) hd_usedFrom ⟨Nat.le_of_ble_eq_true rfl, Nat.le_of_ble_eq_true rfl⟩, hg _ k_231, hg _ k_232⟩ (ld_preRV hP hK hN [0, 1, 2, 3, 4, 5, 6] rfl 0 0 rfl rfl) rfl rfl hl.1 rfl (lv_room (Nat.le_of_ble_eq_true rfl)) d_growAll_47 ⟨Nat.zero_le _, Nat.zero_le _⟩) ?_
        refine lv_ior hx hb d_growAll_50 ?_
        refine lv_aload_n hx hb d_growAll_51 rfl (lv_at hl 3 rfl) ?_
        refine lv_iload hx hb d_growAll_52 (lv_at hl 0 rfl) ?_
        refine lv_aload_n hx hb d_growAll_54 rfl (lv_at hl 2 rfl) ?_
        refine lv_iload hx hb d_growAll_55 (lv_at hl 0 rfl) ?_
        obtain ⟨r_8, e_8, hy1⟩ := ld_nm hy1
        refine ld_rd (W.runV (As := [.int r_4]) (rest := [.int r_4, .ref (a 1), .int ((v1.2.2 v1.2.1.toNatClampNeg) ||| r_7)]) ⟨hx, hb, hml, hown, hg⟩ (lc_ubehind l D cI cZ cJ a v1.2.2 r_4 r_8 e_8) ⟨callB_of 1 hg (ld_gd k_229) rfl rfl rfl (hg _ k_27) (hg _ k_226) hd_ubehind ⟨Nat.le_of_ble_eq_true rfl, Nat.le_of_ble_eq_true rfl⟩, hg _ k_227, hg _ k_228⟩ (ld_preRV hP hK hN [7, 8] rfl 3 0 rfl rfl) rfl rfl hl.1 rfl (lv_room (Nat.le_of_ble_eq_true rfl)) d_growAll_57 ⟨Nat.zero_le _, Nat.zero_le _⟩) ?_
        obtain ⟨r_9, e_9, hy1⟩ := ld_nm hy1
        refine ld_rd (W.runV (As := [.int r_4, .int r_8]) (rest := [.int ((v1.2.2 v1.2.1.toNatClampNeg) ||| r_7)]) ⟨hx, hb, hml, hown, hg⟩ (lc_usedFrom l D cI cZ cJ a G r_4 r_8 r_9 e_9) ⟨callB_of 2 hg (ld_gd k_233) rfl rfl rfl (hg _ k_24) (hg _ k_230) hd_usedFrom ⟨Nat.le_of_ble_eq_true rfl, Nat.le_of_ble_eq_true rfl⟩, hg _ k_231, hg _ k_232⟩ (ld_preRV hP hK hN [0, 1, 2, 3, 4, 5, 6] rfl 0 0 rfl rfl) rfl rfl hl.1 rfl (lv_room (Nat.le_of_ble_eq_true rfl)) d_growAll_60 ⟨Nat.zero_le _, Nat.zero_le _⟩) ?_
        refine lv_ior hx hb d_growAll_63 ?_
        refine lv_istore (lv' := [(6, .int (((v1.2.2 v1.2.1.toNatClampNeg) ||| r_7) ||| r_9)), (5, .int r_4), (4, .int r_3), (0, .ref (a 13)), (1, .ref (a 1)), (2, .int v1.1), (3, .int v1.2.1)]) hx hb d_growAll_64 hl (by decide) rfl (fun ls hl => ?_)
        refine lv_iload hx hb d_growAll_66 (lv_at hl 0 rfl) ?_
        refine lv_aload_n hx hb d_growAll_68 rfl (lv_at hl 3 rfl) ?_
        refine va_get (D := D) (ci := 3) (v := .ref (a 14)) (C := "LoanDesk$Uses") (T := T_Uses) (N := 1) hx hb hg u_Uses hown hK hP 7 rfl rfl 0 (by decide) (hg _ k_87) (fun _ h9 => h9) rfl d_growAll_69 ?_
        refine lv_iload_n hx hb d_growAll_72 rfl (lv_at hl 6 rfl) ?_
        refine va_iald hx hb hK hP 8 0 rfl rfl (i := v1.2.1) i_5 d_growAll_73 ?_
        refine lv_icmp_eq (tgt := 87) hx hb d_growAll_74 (by decide) (fun c_10 => ?_) (fun c_10 => ?_)
        · have hy1 := (if_pos c_10).symm.trans hy1
          refine lv_iinc (v := v1.2.1 - 1) (lv' := [(3, .int (v1.2.1 - 1)), (6, .int (((v1.2.2 v1.2.1.toNatClampNeg) ||| r_7) ||| r_9)), (5, .int r_4), (4, .int r_3), (0, .ref (a 13)), (1, .ref (a 1)), (2, .int v1.1)]) hx hb d_growAll_87 hl (k := 6) rfl (ld_m1 _) (by decide) rfl (fun ls hl => ?_)
          refine lv_goto (tgt := 14) hx hb d_growAll_90 (by decide) ?_
          obtain rfl := Option.some.inj hy1
          exact ih1 (v1.1, v1.2.1 - 1, v1.2.2) _ _ _ g1 hP hD hS (lv_sub hl [4, 5, 6, 0] rfl)
        · have hy1 := (if_neg c_10).symm.trans hy1
          refine lv_aload_n hx hb d_growAll_77 rfl (lv_at hl 3 rfl) ?_
          refine va_get (D := D) (ci := 3) (v := .ref (a 14)) (C := "LoanDesk$Uses") (T := T_Uses) (N := 1) hx hb hg u_Uses hown hK hP 7 rfl rfl 0 (by decide) (hg _ k_87) (fun _ h9 => h9) rfl d_growAll_78 ?_
          refine lv_iload_n hx hb d_growAll_81 rfl (lv_at hl 6 rfl) ?_
          refine lv_iload hx hb d_growAll_82 (lv_at hl 0 rfl) ?_
          refine va_iast hx hb hK hP hD hS 8 0 rfl rfl (i := v1.2.1) i_5 d_growAll_84 (fun H locs hP hD hS => ?_)
          have hP : va_P D vwCl (ld_gW a cI G ++ ld_uW a cI (upd v1.2.2 v1.2.1.toNatClampNeg (((v1.2.2 v1.2.1.toNatClampNeg) ||| r_7) ||| r_9))) H := hP
          have hD : va_D A (ld_gW a cI G ++ ld_uW a cI (upd v1.2.2 v1.2.1.toNatClampNeg (((v1.2.2 v1.2.1.toNatClampNeg) ||| r_7) ||| r_9))) := hD
          refine lv_iconst (v := 1) hx hb d_growAll_85 (by decide) ?_
          refine lv_istore_n (lv' := [(2, .int 1), (6, .int (((v1.2.2 v1.2.1.toNatClampNeg) ||| r_7) ||| r_9)), (5, .int r_4), (4, .int r_3), (0, .ref (a 13)), (1, .ref (a 1)), (3, .int v1.2.1)]) hx hb d_growAll_86 rfl hl (by decide) rfl (fun ls hl => ?_)
          refine lv_iinc (v := v1.2.1 - 1) (lv' := [(3, .int (v1.2.1 - 1)), (2, .int 1), (6, .int (((v1.2.2 v1.2.1.toNatClampNeg) ||| r_7) ||| r_9)), (5, .int r_4), (4, .int r_3), (0, .ref (a 13)), (1, .ref (a 1))]) hx hb d_growAll_87 hl (k := 6) rfl (ld_m1 _) (by decide) rfl (fun ls hl => ?_)
          refine lv_goto (tgt := 14) hx hb d_growAll_90 (by decide) ?_
          obtain rfl := Option.some.inj hy1
          exact ih1 (1, v1.2.1 - 1, (upd v1.2.2 v1.2.1.toNatClampNeg (((v1.2.2 v1.2.1.toNatClampNeg) ||| r_7) ||| r_9))) _ _ _ g1 hP hD hS (lv_sub hl [5, 6, 1, 0] rfl)
  exact key1 N (0, (if 120 < r_1 then 120 else r_1) - 1, u) _ _ _ eY1 hP hD hS (lv_sub hl [2, 3, 1, 0] rfl)
def ls_ufind_1 (N : Nat) (G : ld_gT) (v1 : Int32 × Int32 × (Nat → Int32)) : Option ((Int32 × Int32 × (Nat → Int32)) ⊕ (Int32 × Int32 × (Nat → Int32))) := if 1920 < v1.2.1 then some (.inr (v1.1, v1.2.1, v1.2.2)) else if v1.1 = 0 then some (.inr (v1.1, v1.2.1, v1.2.2)) else Option.bind (lm_growAll N G v1.2.2) (fun r_3 => some (.inl (r_3.1, v1.2.1 + 1, r_3.2)))
def lm_ufind (N : Nat) (G : ld_gT) (u : Nat → Int32) : Option ((Nat → Int32)) := Option.bind (ld_it (ls_ufind_1 N G) N (1, 0, (ld_fl 120 0 u))) (fun Y1 => some Y1.2.2)
set_option maxHeartbeats 4000000 in
set_option maxRecDepth 100000 in
theorem lc_ufind (l : Launch) (D : va_G) (cI cZ cJ : ClassId) (a : Nat → Nat) (G : ld_gT) (u : Nat → Int32) (sz : Nat) (N : Nat) (R : (Nat → Int32)) (h : lm_ufind N G u = some R) : Met l y_ufind (Cond.code y_ufind prog_7_method_3_code 4 none :: bgT) ({ frames := 3, cells := 0, slots := 0, locals := 69 }) (ld_PM D cI cZ cJ (ld_gW a cI G ++ ld_uW a cI u) sz [.ref (a 13), .ref (a 1)]) (ld_QV D (ld_gW a cI G ++ ld_uW a cI R) (va_A (ld_gW a cI G ++ ld_uW a cI u) sz)) 0 0 ((va_A (ld_gW a cI G ++ ld_uW a cI u) sz)) := by
  refine Met.ofW (cc := prog_7_method_3_code) (maxL := 4) (ret := none) (by decide) rfl ?_
  intro p e s m args below meth c s₁ B hml hv
  obtain ⟨rfl, hsz, hP, hK, hD0, hN⟩ := hv
  have hx := B.exec
  have hb := B.bytes
  have hr := B.returns
  have hg : ∀ w ∈ bgT, w.before _ s = true := fun w h => atoms_spec (ws := (Cond.code y_ufind prog_7_method_3_code 4 none :: bgT)) B.pre w (List.mem_cons_of_mem _ h)
  have hown : s.vm.findClass "LoanDesk$Uses" = some m.cls := findClass_of_methodNamed B.named
  have hlocks := B.notSynchronized
  subst hsz
  have hD := hD0.self (sz := s.heap.size)
  generalize hAe : va_A (ld_gW a cI G ++ ld_uW a cI u) s.heap.size = A at hD ⊢
  have hA : ∀ q : Nat, s.heap.size ≤ q → A q := fun q h => by rw [← hAe]; exact Or.inr h
  have hS : va_S A s.heap s.heap [] := va_S.rf
  have hl := lv_entry ([.ref (a 13), .ref (a 1)]) (n := 4) (Nat.le_of_ble_eq_true rfl)
  rw [lg_entry_eq]
  generalize (lg_sl ([.ref (a 13), .ref (a 1)]) ++ List.replicate (4 - (lg_sl ([.ref (a 13), .ref (a 1)])).length) Slot.unset).toArray = ls at hl ⊢
  have hl : lv_has ls 4 [(0, .ref (a 13)), (1, .ref (a 1))] := hl
  refine lv_aload_n hx hb d_ufind_0 rfl (lv_at hl 0 rfl) ?_
  refine va_get (D := D) (ci := 3) (v := .ref (a 14)) (C := "LoanDesk$Uses") (T := T_Uses) (N := 1) hx hb hg u_Uses hown hK hP 7 rfl rfl 0 (by decide) (hg _ k_87) (fun _ h9 => h9) rfl d_ufind_1 ?_
  refine lv_iconst (v := 0) hx hb d_ufind_4 (by decide) ?_
  refine ld_mv (wr := ([0, 1, 2, 3, 4, 5, 6, 7] : List Nat).filterMap (fun i => (ld_gW a cI G ++ ld_uW a cI u)[i]?)) (ws2 := ld_gW a cI G ++ ld_uW a cI (ld_fl 120 0 u)) (va_runS (As := [.ref (a 14), .int 0]) (rest := []) ⟨hx, hb, hml, hown, hg⟩ (lc_fillI l D cI cZ cJ (a 14) 120 (by decide) u 0 _) ⟨callB_of 2 hg (ld_gd k_180) rfl rfl rfl (hg _ k_31) (hg _ k_213) hd_fillI ⟨Nat.le_of_ble_eq_true rfl, Nat.le_of_ble_eq_true rfl⟩, hg _ k_179⟩ (ld_preM hP hK hN hD [8] (by decide) rfl) rfl rfl hl.1 rfl (lv_room (Nat.le_of_ble_eq_true rfl)) d_ufind_5 ⟨Nat.zero_le _, Nat.zero_le _⟩) hP hD hS hA [8] [0, 1, 2, 3, 4, 5, 6, 7] [0, 1, 2, 3, 4, 5, 6, 7, 8] rfl rfl (by decide) (by decide) (by decide) rfl (fun H locs hP hD hS => ?_)
  refine lv_iconst (v := 1) hx hb d_ufind_8 (by decide) ?_
  refine lv_istore_n (lv' := [(2, .int 1), (0, .ref (a 13)), (1, .ref (a 1))]) hx hb d_ufind_9 rfl hl (by decide) rfl (fun ls hl => ?_)
  refine lv_iconst (v := 0) hx hb d_ufind_10 (by decide) ?_
  refine lv_istore_n (lv' := [(3, .int 0), (2, .int 1), (0, .ref (a 13)), (1, .ref (a 1))]) hx hb d_ufind_11 rfl hl (by decide) rfl (fun ls hl => ?_)
  obtain ⟨Y1, eY1, h⟩ := ld_ob h
  have kont1 : ∀ (H : Heap) (locs : List Loc) (ls : Array Slot), va_P D vwCl (ld_gW a cI G ++ ld_uW a cI Y1.2.2) H → va_D A (ld_gW a cI G ++ ld_uW a cI Y1.2.2) → va_S A s.heap H locs → lv_has ls 4 [] → W p l e (headSpec (Cond.code y_ufind prog_7_method_3_code 4 none :: bgT) ({ frames := 3, cells := 0, slots := 0, locals := 69 })).room s m ([.ref (a 13), .ref (a 1)] : List Value).toArray below meth c H locs 0 0 (MQ below (ld_QV D (ld_gW a cI G ++ ld_uW a cI R) A) ([.ref (a 13), .ref (a 1)] : List Value).toArray s 0 0 (A)) (F0 m 35 ls []) := by
    intro H locs ls hP hD hS hl
    have h := Option.some.inj h
    subst h
    exact W.vret hx hb hr (fun t ht hW => ⟨⟨(), rfl, trivial, by rw [ht]; exact hP, hD⟩, hS.F ht⟩) hS.2.2 d_ufind_35
  have key1 : ∀ (n : Nat) (v1 : Int32 × Int32 × (Nat → Int32)) (H : Heap) (locs : List Loc) (ls : Array Slot), ld_it (ls_ufind_1 N G) n v1 = some Y1 → va_P D vwCl (ld_gW a cI G ++ ld_uW a cI v1.2.2) H → va_D A (ld_gW a cI G ++ ld_uW a cI v1.2.2) → va_S A s.heap H locs → lv_has ls 4 [(0, .ref (a 13)), (1, .ref (a 1)), (2, .int v1.1), (3, .int v1.2.1)] → W p l e (headSpec (Cond.code y_ufind prog_7_method_3_code 4 none :: bgT) ({ frames := 3, cells := 0, slots := 0, locals := 69 })).room s m ([.ref (a 13), .ref (a 1)] : List Value).toArray below meth c H locs 0 0 (MQ below (ld_QV D (ld_gW a cI G ++ ld_uW a cI R) A) ([.ref (a 13), .ref (a 1)] : List Value).toArray s 0 0 (A)) (F0 m 12 ls []) := by
    intro n
    induction n with
    | zero => intro v1 H locs ls g1 hP hD hS hl; cases g1
    | succ n ih1 =>
      intro v1 H locs ls g1 hP hD hS hl
      obtain ⟨z1, hy1, g1⟩ := ld_its g1
      refine lv_iload_n hx hb d_ufind_12 rfl (lv_at hl 3 rfl) ?_
      refine lv_sipush (v := 1920) hx hb d_ufind_13 (by decide) ?_
      refine lv_icmp_gt (tgt := 35) hx hb d_ufind_16 (by decide) (fun c_1 => ?_) (fun c_1 => ?_)
      · have hy1 := (if_pos c_1).symm.trans hy1
        obtain rfl := Option.some.inj hy1
        obtain rfl := Option.some.inj g1
        exact kont1 _ _ _ hP hD hS (lv_sub hl [] rfl)
      · have hy1 := (if_neg c_1).symm.trans hy1
        refine lv_iload_n hx hb d_ufind_19 rfl (lv_at hl 2 rfl) ?_
        refine lv_if_eq (tgt := 35) hx hb d_ufind_20 (by decide) (fun c_2 => ?_) (fun c_2 => ?_)
        · have hy1 := (if_pos c_2).symm.trans hy1
          obtain rfl := Option.some.inj hy1
          obtain rfl := Option.some.inj g1
          exact kont1 _ _ _ hP hD hS (lv_sub hl [] rfl)
        · have hy1 := (if_neg c_2).symm.trans hy1
          refine lv_aload_n hx hb d_ufind_23 rfl (lv_at hl 0 rfl) ?_
          refine lv_aload_n hx hb d_ufind_24 rfl (lv_at hl 1 rfl) ?_
          obtain ⟨r_3, e_3, hy1⟩ := ld_ob hy1
          refine ld_mi (wr := ([] : List Nat).filterMap (fun i => (ld_gW a cI G ++ ld_uW a cI v1.2.2)[i]?)) (ws2 := ld_gW a cI G ++ ld_uW a cI r_3.2) (va_runV (As := [.ref (a 1)]) (rest := []) ⟨hx, hb, hml, hown, hg⟩ (lc_growAll l D cI cZ cJ a G v1.2.2 _ N r_3 e_3) ⟨callB_of 1 hg (ld_gd k_216) rfl rfl rfl (hg _ k_27) (hg _ k_214) hd_growAll ⟨Nat.le_of_ble_eq_true rfl, Nat.le_of_ble_eq_true rfl⟩, hg _ k_215, hg _ k_3⟩ (ld_preMV hP hK hN hD [0, 1, 2, 3, 4, 5, 6, 7, 8] (by decide) rfl 3 7 rfl rfl) rfl rfl hl.1 rfl (lv_room (Nat.le_of_ble_eq_true rfl)) d_ufind_25 ⟨Nat.zero_le _, Nat.zero_le _⟩) hP hD hS hA [0, 1, 2, 3, 4, 5, 6, 7, 8] [] [0, 1, 2, 3, 4, 5, 6, 7, 8] rfl rfl (by decide) (by decide) (by decide) rfl (fun H locs hP hD hS => ?_)
          refine lv_istore_n (lv' := [(2, .int r_3.1), (0, .ref (a 13)), (1, .ref (a 1)), (3, .int v1.2.1)]) hx hb d_ufind_28 rfl hl (by decide) rfl (fun ls hl => ?_)
          refine lv_iinc (v := v1.2.1 + 1) (lv' := [(3, .int (v1.2.1 + 1)), (2, .int r_3.1), (0, .ref (a 13)), (1, .ref (a 1))]) hx hb d_ufind_29 hl (k := 3) rfl rfl (by decide) rfl (fun ls hl => ?_)
          refine lv_goto (tgt := 12) hx hb d_ufind_32 (by decide) ?_
          obtain rfl := Option.some.inj hy1
          exact ih1 (r_3.1, v1.2.1 + 1, r_3.2) _ _ _ g1 hP hD hS (lv_sub hl [2, 3, 1, 0] rfl)
  exact key1 N (1, 0, (ld_fl 120 0 u)) _ _ _ eY1 hP hD hS (lv_sub hl [2, 3, 1, 0] rfl)
