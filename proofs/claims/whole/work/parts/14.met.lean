def lf_comesTo (rc : Nat → Int32) (p0 : Int32) : Int32 := ld_lt (lf_isIndex p0) (fun r_1 => if r_1 = 0 then 0 else if (rc p0.toNatClampNeg) = 1 then 1 else 0)
set_option maxHeartbeats 4000000 in
set_option maxRecDepth 100000 in
theorem lc_comesTo (l : Launch) (D : va_G) (cI cZ cJ : ClassId) (a : Nat → Nat) (rc : Nat → Int32) (p0 : Int32) (R : Int32) (h : lf_comesTo rc p0 = R) : Met l y_comesTo (Cond.code y_comesTo prog_6_method_2_code 2 (some .boolean) :: bgT) ({ frames := 1, cells := 0, slots := 0, locals := 20 }) (ld_PR D cI cZ cJ (ld_rW a cI rc) [.ref (a 8), .int p0]) (vp_Si (fun z => z = R)) 0 0 (fun _ => False) := by
  refine Met.ofW (cc := prog_6_method_2_code) (maxL := 2) (ret := (some .boolean)) (by decide) rfl ?_
  intro p e s m args below meth c s₁ B hml hv
  obtain ⟨rfl, hP, hK, hN⟩ := hv
  have hx := B.exec
  have hb := B.bytes
  have hr := B.returns
  have hg : ∀ w ∈ bgT, w.before _ s = true := fun w h => atoms_spec (ws := (Cond.code y_comesTo prog_6_method_2_code 2 (some .boolean) :: bgT)) B.pre w (List.mem_cons_of_mem _ h)
  have hown : s.vm.findClass "LoanDesk$Reach" = some m.cls := findClass_of_methodNamed B.named
  have hlocks := B.notSynchronized
  have hl := lv_entry ([.ref (a 8), .int p0]) (n := 2) (Nat.le_of_ble_eq_true rfl)
  rw [lg_entry_eq]
  generalize (lg_sl ([.ref (a 8), .int p0]) ++ List.replicate (2 - (lg_sl ([.ref (a 8), .int p0])).length) Slot.unset).toArray = ls at hl ⊢
  have hl : lv_has ls 2 [(0, .ref (a 8)), (1, .int p0)] := hl
  refine lv_iload_n hx hb d_comesTo_0 rfl (lv_at hl 1 rfl) ?_
  obtain ⟨r_1, e_1, h⟩ := ld_nm h
  refine ld_rd ((va_runSN (As := [.int p0]) (rest := []) ⟨hx, hb, hml, hown, hg⟩ (lc_isIndex l D cI cZ cJ p0 r_1 e_1) ⟨va_cnB 1 hg (ld_gd k_161) rfl rfl rfl (hN _ (ld_nwm 7 rfl)) (hg _ k_23) hd_isIndex ⟨Nat.le_of_ble_eq_true rfl, Nat.le_of_ble_eq_true rfl⟩, hg _ k_160, trivial⟩ (ld_preR hP hK hN [] rfl) rfl rfl hl.1 rfl (lv_room (Nat.le_of_ble_eq_true rfl)) d_comesTo_1 ⟨Nat.zero_le _, Nat.zero_le _⟩).run) ?_
  refine lv_if_eq (tgt := 21) hx hb d_comesTo_4 (by decide) (fun c_2 => ?_) (fun c_2 => ?_)
  · have h := (if_pos c_2).symm.trans h
    refine lv_iconst (v := 0) hx hb d_comesTo_21 (by decide) ?_
    exact W.zret (v := 0) hx hb hr rfl (fun t ht hW => ⟨_, rfl, h, ht⟩) (fun _ q => by cases q) d_comesTo_22
  · have h := (if_neg c_2).symm.trans h
    refine lv_aload_n hx hb d_comesTo_7 rfl (lv_at hl 0 rfl) ?_
    refine va_get (D := D) (ci := 2) (v := .ref (a 9)) (C := "LoanDesk$Reach") (T := T_Reach) (N := 2) hx hb hg u_Reach hown hK hP 0 rfl rfl 0 (by decide) (hg _ k_78) (fun _ h9 => h9) rfl d_comesTo_8 ?_
    refine lv_iload_n hx hb d_comesTo_11 rfl (lv_at hl 1 rfl) ?_
    refine va_iald hx hb hK hP 1 0 rfl rfl (i := p0) (ld_ix e_1 c_2) d_comesTo_12 ?_
    refine lv_iconst (v := 1) hx hb d_comesTo_13 (by decide) ?_
    refine lv_icmp_ne (tgt := 21) hx hb d_comesTo_14 (by decide) (fun c_3 => ?_) (fun c_3 => ?_)
    · have h := (if_neg c_3).symm.trans h
      refine lv_iconst (v := 0) hx hb d_comesTo_21 (by decide) ?_
      exact W.zret (v := 0) hx hb hr rfl (fun t ht hW => ⟨_, rfl, h, ht⟩) (fun _ q => by cases q) d_comesTo_22
    · have h := (if_pos c_3).symm.trans h
      refine lv_iconst (v := 1) hx hb d_comesTo_17 (by decide) ?_
      refine lv_goto (tgt := 22) hx hb d_comesTo_18 (by decide) ?_
      exact W.zret (v := 1) hx hb hr rfl (fun t ht hW => ⟨_, rfl, h, ht⟩) (fun _ q => by cases q) d_comesTo_22
theorem ld_ct01 {rc : Nat → Int32} {p r : Int32} (h : lf_comesTo rc p = r) : r = 0 ∨ r = 1 := by
  obtain ⟨z, e, h⟩ := ld_nm h
  by_cases h1 : z = 0
  · exact Or.inl ((if_pos h1).symm.trans h).symm
  · have h := (if_neg h1).symm.trans h
    by_cases h2 : rc p.toNatClampNeg = 1
    · exact Or.inr ((if_pos h2).symm.trans h).symm
    · exact Or.inl ((if_neg h2).symm.trans h).symm
theorem lnb_comesTo {rc : Nat → Int32} {p r : Int32} (h : lf_comesTo rc p = r) : narrow .boolean (.int r) = .int r := ld_nb (ld_ct01 h)
def ls_rcount_1 (rc : Nat → Int32) (v1 : Int32 × Int32) : Option ((Int32 × Int32) ⊕ (Int32 × Int32)) := if 120 ≤ v1.2 then some (.inr (v1.1, v1.2)) else if ld_in v1.2 120 = true then (some (.inl (v1.1 + (rc v1.2.toNatClampNeg), v1.2 + 1))) else none
def lm_rcount (N : Nat) (rc : Nat → Int32) : Option (Int32) := Option.bind (ld_it (ls_rcount_1 rc) N (0, 0)) (fun Y1 => some Y1.1)
set_option maxHeartbeats 4000000 in
set_option maxRecDepth 100000 in
theorem lc_rcount (l : Launch) (D : va_G) (cI cZ cJ : ClassId) (a : Nat → Nat) (rc : Nat → Int32) (N : Nat) (R : Int32) (h : lm_rcount N rc = some R) : Met l y_rcount (Cond.code y_rcount prog_6_method_3_code 3 (some .int) :: bgT) ({ frames := 0, cells := 0, slots := 0, locals := 0 }) (ld_PR D cI cZ cJ (ld_rW a cI rc) [.ref (a 8)]) (vp_Si (fun z => z = R)) 0 0 (fun _ => False) := by
  refine Met.ofW (cc := prog_6_method_3_code) (maxL := 3) (ret := (some .int)) (by decide) rfl ?_
  intro p e s m args below meth c s₁ B hml hv
  obtain ⟨rfl, hP, hK, hN⟩ := hv
  have hx := B.exec
  have hb := B.bytes
  have hr := B.returns
  have hg : ∀ w ∈ bgT, w.before _ s = true := fun w h => atoms_spec (ws := (Cond.code y_rcount prog_6_method_3_code 3 (some .int) :: bgT)) B.pre w (List.mem_cons_of_mem _ h)
  have hown : s.vm.findClass "LoanDesk$Reach" = some m.cls := findClass_of_methodNamed B.named
  have hlocks := B.notSynchronized
  have hl := lv_entry ([.ref (a 8)]) (n := 3) (Nat.le_of_ble_eq_true rfl)
  rw [lg_entry_eq]
  generalize (lg_sl ([.ref (a 8)]) ++ List.replicate (3 - (lg_sl ([.ref (a 8)])).length) Slot.unset).toArray = ls at hl ⊢
  have hl : lv_has ls 3 [(0, .ref (a 8))] := hl
  refine lv_iconst (v := 0) hx hb d_rcount_0 (by decide) ?_
  refine lv_istore_n (lv' := [(1, .int 0), (0, .ref (a 8))]) hx hb d_rcount_1 rfl hl (by decide) rfl (fun ls hl => ?_)
  refine lv_iconst (v := 0) hx hb d_rcount_2 (by decide) ?_
  refine lv_istore_n (lv' := [(2, .int 0), (1, .int 0), (0, .ref (a 8))]) hx hb d_rcount_3 rfl hl (by decide) rfl (fun ls hl => ?_)
  obtain ⟨Y1, eY1, h⟩ := ld_ob h
  have kont1 : ∀ (ls : Array Slot), lv_has ls 3 [(1, .int Y1.1)] → W p l e (headSpec (Cond.code y_rcount prog_6_method_3_code 3 (some .int) :: bgT) ({ frames := 0, cells := 0, slots := 0, locals := 0 })).room s m ([.ref (a 8)] : List Value).toArray below meth c s.heap [] 0 0 (MQ below (vp_Si (fun z => z = R)) ([.ref (a 8)] : List Value).toArray s 0 0 (fun _ => False)) (F0 m 25 ls []) := by
    intro ls hl
    refine lv_iload_n hx hb d_rcount_25 rfl (lv_at hl 0 rfl) ?_
    have h := Option.some.inj h
    exact W.iret (v := Y1.1) hx hb hr (fun t ht hW => ⟨_, rfl, h, ht⟩) (fun _ q => by cases q) d_rcount_26
  have key1 : ∀ (n : Nat) (v1 : Int32 × Int32) (ls : Array Slot), ld_it (ls_rcount_1 rc) n v1 = some Y1 → lv_has ls 3 [(0, .ref (a 8)), (1, .int v1.1), (2, .int v1.2)] → W p l e (headSpec (Cond.code y_rcount prog_6_method_3_code 3 (some .int) :: bgT) ({ frames := 0, cells := 0, slots := 0, locals := 0 })).room s m ([.ref (a 8)] : List Value).toArray below meth c s.heap [] 0 0 (MQ below (vp_Si (fun z => z = R)) ([.ref (a 8)] : List Value).toArray s 0 0 (fun _ => False)) (F0 m 4 ls []) := by
    intro n
    induction n with
    | zero => intro v1 ls g1 hl; cases g1
    | succ n ih1 =>
      intro v1 ls g1 hl
      obtain ⟨z1, hy1, g1⟩ := ld_its g1
      refine lv_iload_n hx hb d_rcount_4 rfl (lv_at hl 2 rfl) ?_
      refine lv_bipush (v := 120) hx hb d_rcount_5 (by decide) ?_
      refine lv_icmp_ge (tgt := 25) hx hb d_rcount_7 (by decide) (fun c_1 => ?_) (fun c_1 => ?_)
      · have hy1 := (if_pos c_1).symm.trans hy1
        obtain rfl := Option.some.inj hy1
        obtain rfl := Option.some.inj g1
        exact kont1 _ (lv_sub hl [1] rfl)
      · have hy1 := (if_neg c_1).symm.trans hy1
        refine lv_iload_n hx hb d_rcount_10 rfl (lv_at hl 1 rfl) ?_
        refine lv_aload_n hx hb d_rcount_11 rfl (lv_at hl 0 rfl) ?_
        refine va_get (D := D) (ci := 2) (v := .ref (a 9)) (C := "LoanDesk$Reach") (T := T_Reach) (N := 2) hx hb hg u_Reach hown hK hP 0 rfl rfl 0 (by decide) (hg _ k_78) (fun _ h9 => h9) rfl d_rcount_12 ?_
        refine lv_iload_n hx hb d_rcount_15 rfl (lv_at hl 2 rfl) ?_
        obtain ⟨i_2, hy1⟩ := ld_grd hy1
        refine va_iald hx hb hK hP 1 0 rfl rfl (i := v1.2) i_2 d_rcount_16 ?_
        refine lv_iadd hx hb d_rcount_17 ?_
        refine lv_istore_n (lv' := [(1, .int (v1.1 + (rc v1.2.toNatClampNeg))), (0, .ref (a 8)), (2, .int v1.2)]) hx hb d_rcount_18 rfl hl (by decide) rfl (fun ls hl => ?_)
        refine lv_iinc (v := v1.2 + 1) (lv' := [(2, .int (v1.2 + 1)), (1, .int (v1.1 + (rc v1.2.toNatClampNeg))), (0, .ref (a 8))]) hx hb d_rcount_19 hl (k := 2) rfl rfl (by decide) rfl (fun ls hl => ?_)
        refine lv_goto (tgt := 4) hx hb d_rcount_22 (by decide) ?_
        obtain rfl := Option.some.inj hy1
        exact ih1 (v1.1 + (rc v1.2.toNatClampNeg), v1.2 + 1) _ g1 (lv_sub hl [2, 1, 0] rfl)
  exact key1 N (0, 0) _ eY1 (lv_sub hl [2, 1, 0] rfl)
def lf_arrive (G : ld_gT) (rc : Nat → Int32) (q : ld_pT) (p0 : Int32) : (Nat → Int32) × ld_pT := ld_lt (lf_isPoint G p0) (fun r_1 => if r_1 = 0 then (rc, q) else ld_lt (lf_comesTo rc p0) (fun r_3 => if r_3 = 0 then ld_lt (lf_put q p0) (fun r_5 => ((upd rc p0.toNatClampNeg 1), r_5)) else (rc, q)))
set_option maxHeartbeats 4000000 in
set_option maxRecDepth 100000 in
theorem lc_arrive (l : Launch) (D : va_G) (cI cZ cJ : ClassId) (a : Nat → Nat) (G : ld_gT) (rc : Nat → Int32) (q : ld_pT) (p0 : Int32) (sz : Nat) (R : (Nat → Int32) × ld_pT) (h : lf_arrive G rc q p0 = R) : Met l y_arrive (Cond.code y_arrive prog_6_method_5_code 3 none :: bgT) ({ frames := 2, cells := 0, slots := 0, locals := 41 }) (ld_PM D cI cZ cJ (ld_gW a cI G ++ ld_rW a cI rc ++ ld_pW (a 10) (a 11) (a 12) cI cZ q) sz [.ref (a 8), .ref (a 1), .int p0]) (ld_QV D (ld_gW a cI G ++ ld_rW a cI R.1 ++ ld_pW (a 10) (a 11) (a 12) cI cZ R.2) (va_A (ld_gW a cI G ++ ld_rW a cI rc ++ ld_pW (a 10) (a 11) (a 12) cI cZ q) sz)) 0 0 ((va_A (ld_gW a cI G ++ ld_rW a cI rc ++ ld_pW (a 10) (a 11) (a 12) cI cZ q) sz)) := by
  refine Met.ofW (cc := prog_6_method_5_code) (maxL := 3) (ret := none) (by decide) rfl ?_
  intro p e s m args below meth c s₁ B hml hv
  obtain ⟨rfl, hsz, hP, hK, hD0, hN⟩ := hv
  have hx := B.exec
  have hb := B.bytes
  have hr := B.returns
  have hg : ∀ w ∈ bgT, w.before _ s = true := fun w h => atoms_spec (ws := (Cond.code y_arrive prog_6_method_5_code 3 none :: bgT)) B.pre w (List.mem_cons_of_mem _ h)
  have hown : s.vm.findClass "LoanDesk$Reach" = some m.cls := findClass_of_methodNamed B.named
  have hlocks := B.notSynchronized
  subst hsz
  have hD := hD0.self (sz := s.heap.size)
  generalize hAe : va_A (ld_gW a cI G ++ ld_rW a cI rc ++ ld_pW (a 10) (a 11) (a 12) cI cZ q) s.heap.size = A at hD ⊢
  have hA : ∀ q : Nat, s.heap.size ≤ q → A q := fun q h => by rw [← hAe]; exact Or.inr h
  have hS : va_S A s.heap s.heap [] := va_S.rf
  have hl := lv_entry ([.ref (a 8), .ref (a 1), .int p0]) (n := 3) (Nat.le_of_ble_eq_true rfl)
  rw [lg_entry_eq]
  generalize (lg_sl ([.ref (a 8), .ref (a 1), .int p0]) ++ List.replicate (3 - (lg_sl ([.ref (a 8), .ref (a 1), .int p0])).length) Slot.unset).toArray = ls at hl ⊢
  have hl : lv_has ls 3 [(0, .ref (a 8)), (1, .ref (a 1)), (2, .int p0)] := hl
  refine lv_aload_n hx hb d_arrive_0 rfl (lv_at hl 1 rfl) ?_
  refine lv_iload_n hx hb d_arrive_1 rfl (lv_at hl 2 rfl) ?_
  obtain ⟨r_1, e_1, h⟩ := ld_nm h
  refine ld_rd (W.runV (As := [.int p0]) (rest := []) ⟨hx, hb, hml, hown, hg⟩ (lc_isPoint l D cI cZ cJ a G p0 r_1 e_1) ⟨callB_of 1 hg (ld_gd k_155) rfl rfl rfl (hg _ k_24) (hg _ k_184) hd_isPoint ⟨Nat.le_of_ble_eq_true rfl, Nat.le_of_ble_eq_true rfl⟩, hg _ k_153, hg _ k_154⟩ (ld_preRV hP hK hN [0, 1, 2, 3, 4, 5, 6] rfl 0 0 rfl rfl) rfl rfl hl.1 rfl (lv_room (Nat.le_of_ble_eq_true rfl)) d_arrive_2 ⟨Nat.zero_le _, Nat.zero_le _⟩) ?_
  refine lv_if_eq (tgt := 31) hx hb d_arrive_5 (by decide) (fun c_2 => ?_) (fun c_2 => ?_)
  · have h := (if_pos c_2).symm.trans h
    subst h
    exact W.vret hx hb hr (fun t ht hW => ⟨⟨(), rfl, trivial, by rw [ht]; exact hP, hD⟩, hS.F ht⟩) hS.2.2 d_arrive_31
  · have h := (if_neg c_2).symm.trans h
    refine lv_aload_n hx hb d_arrive_8 rfl (lv_at hl 0 rfl) ?_
    refine lv_iload_n hx hb d_arrive_9 rfl (lv_at hl 2 rfl) ?_
    obtain ⟨r_3, e_3, h⟩ := ld_nm h
    refine ld_rd (W.runV (As := [.int p0]) (rest := []) ⟨hx, hb, hml, hown, hg⟩ (lc_comesTo l D cI cZ cJ a rc p0 r_3 e_3) ⟨callB_of 1 hg (ld_gd k_188) rfl rfl rfl (hg _ k_25) (hg _ k_185) hd_comesTo ⟨Nat.le_of_ble_eq_true rfl, Nat.le_of_ble_eq_true rfl⟩, hg _ k_186, hg _ k_187⟩ (ld_preRV hP hK hN [7, 8] rfl 2 0 rfl rfl) rfl rfl hl.1 rfl (lv_room (Nat.le_of_ble_eq_true rfl)) d_arrive_10 ⟨Nat.zero_le _, Nat.zero_le _⟩) ?_
    refine lv_if_ne (tgt := 31) hx hb d_arrive_13 (by decide) (fun c_4 => ?_) (fun c_4 => ?_)
    · have h := (if_neg c_4).symm.trans h
      subst h
      exact W.vret hx hb hr (fun t ht hW => ⟨⟨(), rfl, trivial, by rw [ht]; exact hP, hD⟩, hS.F ht⟩) hS.2.2 d_arrive_31
    · have h := (if_pos c_4).symm.trans h
      refine lv_aload_n hx hb d_arrive_16 rfl (lv_at hl 0 rfl) ?_
      refine va_get (D := D) (ci := 2) (v := .ref (a 9)) (C := "LoanDesk$Reach") (T := T_Reach) (N := 2) hx hb hg u_Reach hown hK hP 7 rfl rfl 0 (by decide) (hg _ k_78) (fun _ h9 => h9) rfl d_arrive_17 ?_
      refine lv_iload_n hx hb d_arrive_20 rfl (lv_at hl 2 rfl) ?_
      refine lv_iconst (v := 1) hx hb d_arrive_21 (by decide) ?_
      refine va_iast hx hb hK hP hD hS 8 0 rfl rfl (i := p0) (ld_pt e_1 c_2) d_arrive_22 (fun H locs hP hD hS => ?_)
      have hP : va_P D vwCl (ld_gW a cI G ++ ld_rW a cI (upd rc p0.toNatClampNeg 1) ++ ld_pW (a 10) (a 11) (a 12) cI cZ q) H := hP
      have hD : va_D A (ld_gW a cI G ++ ld_rW a cI (upd rc p0.toNatClampNeg 1) ++ ld_pW (a 10) (a 11) (a 12) cI cZ q) := hD
      refine lv_aload_n hx hb d_arrive_23 rfl (lv_at hl 0 rfl) ?_
      refine va_get (D := D) (ci := 2) (v := .ref (a 10)) (C := "LoanDesk$Reach") (T := T_Reach) (N := 2) hx hb hg u_Reach hown hK hP 7 rfl rfl 1 (by decide) (hg _ k_79) (fun _ h9 => h9) rfl d_arrive_24 ?_
      refine lv_iload_n hx hb d_arrive_27 rfl (lv_at hl 2 rfl) ?_
      obtain ⟨r_5, e_5, h⟩ := ld_nm h
      refine ld_mv (wr := ([0, 1, 2, 3, 4, 5, 6, 7, 8] : List Nat).filterMap (fun i => (ld_gW a cI G ++ ld_rW a cI (upd rc p0.toNatClampNeg 1) ++ ld_pW (a 10) (a 11) (a 12) cI cZ q)[i]?)) (ws2 := ld_gW a cI G ++ ld_rW a cI (upd rc p0.toNatClampNeg 1) ++ ld_pW (a 10) (a 11) (a 12) cI cZ r_5) (va_runV (As := [.int p0]) (rest := []) ⟨hx, hb, hml, hown, hg⟩ (lc_put l D cI cZ cJ (a 10) (a 11) (a 12) q p0 _ r_5 e_5) ⟨callB_of 1 hg (ld_gd k_192) rfl rfl rfl (hg _ k_26) (hg _ k_189) hd_put ⟨Nat.le_of_ble_eq_true rfl, Nat.le_of_ble_eq_true rfl⟩, hg _ k_190, hg _ k_191⟩ (ld_preMV hP hK hN hD [9, 10, 11] (by decide) rfl 1 0 rfl rfl) rfl rfl hl.1 rfl (lv_room (Nat.le_of_ble_eq_true rfl)) d_arrive_28 ⟨Nat.zero_le _, Nat.zero_le _⟩) hP hD hS hA [9, 10, 11] [0, 1, 2, 3, 4, 5, 6, 7, 8] [0, 1, 2, 3, 4, 5, 6, 7, 8, 9, 10, 11] rfl rfl (by decide) (by decide) (by decide) rfl (fun H locs hP hD hS => ?_)
      subst h
      exact W.vret hx hb hr (fun t ht hW => ⟨⟨(), rfl, trivial, by rw [ht]; exact hP, hD⟩, hS.F ht⟩) hS.2.2 d_arrive_31
def ls_rfind_1 (G : ld_gT) (v1 : Int32 × (Nat → Int32) × ld_pT) : Option ((Int32 × (Nat → Int32) × ld_pT) ⊕ (Int32 × (Nat → Int32) × ld_pT)) := if 120 ≤ v1.1 then some (.inr (v1.1, v1.2.1, v1.2.2)) else ld_lt (lf_pEmpty v1.2.2) (fun r_3 => if r_3 = 0 then (ld_lt (lf_take v1.2.2) (fun r_5 => ld_lt (lf_firstNext G r_5.1) (fun r_6 => ld_lt (lf_arrive G v1.2.1 r_5.2 r_6) (fun r_7 => ld_lt (lf_secondNext G r_5.1) (fun r_8 => ld_lt (lf_arrive G r_7.1 r_7.2 r_8) (fun r_9 => some (.inl (v1.1 + 1, r_9.1, r_9.2)))))))) else some (.inr (v1.1, v1.2.1, v1.2.2)))
def lm_rfind (N : Nat) (G : ld_gT) (rc : Nat → Int32) (q : ld_pT) : Option ((Nat → Int32) × ld_pT) := ld_lt (lf_arrive G (ld_fl 120 0 rc) q 0) (fun r_1 => Option.bind (ld_it (ls_rfind_1 G) N (0, r_1.1, r_1.2)) (fun Y1 => some (Y1.2.1, Y1.2.2)))
set_option maxHeartbeats 4000000 in
set_option maxRecDepth 100000 in
theorem lc_rfind (l : Launch) (D : va_G) (cI cZ cJ : ClassId) (a : Nat → Nat) (G : ld_gT) (rc : Nat → Int32) (q : ld_pT) (sz : Nat) (N : Nat) (R : (Nat → Int32) × ld_pT) (h : lm_rfind N G rc q = some R) : Met l y_rfind (Cond.code y_rfind prog_6_method_4_code 4 none :: bgT) ({ frames := 3, cells := 0, slots := 0, locals := 63 }) (ld_PM D cI cZ cJ (ld_gW a cI G ++ ld_rW a cI rc ++ ld_pW (a 10) (a 11) (a 12) cI cZ q) sz [.ref (a 8), .ref (a 1)]) (ld_QV D (ld_gW a cI G ++ ld_rW a cI R.1 ++ ld_pW (a 10) (a 11) (a 12) cI cZ R.2) (va_A (ld_gW a cI G ++ ld_rW a cI rc ++ ld_pW (a 10) (a 11) (a 12) cI cZ q) sz)) 0 0 ((va_A (ld_gW a cI G ++ ld_rW a cI rc ++ ld_pW (a 10) (a 11) (a 12) cI cZ q) sz)) := by
  refine Met.ofW (cc := prog_6_method_4_code) (maxL := 4) (ret := none) (by decide) rfl ?_
  intro p e s m args below meth c s₁ B hml hv
  obtain ⟨rfl, hsz, hP, hK, hD0, hN⟩ := hv
  have hx := B.exec
  have hb := B.bytes
  have hr := B.returns
  have hg : ∀ w ∈ bgT, w.before _ s = true := fun w h => atoms_spec (ws := (Cond.code y_rfind prog_6_method_4_code 4 none :: bgT)) B.pre w (List.mem_cons_of_mem _ h)
  have hown : s.vm.findClass "LoanDesk$Reach" = some m.cls := findClass_of_methodNamed B.named
  have hlocks := B.notSynchronized
  subst hsz
  have hD := hD0.self (sz := s.heap.size)
  generalize hAe : va_A (ld_gW a cI G ++ ld_rW a cI rc ++ ld_pW (a 10) (a 11) (a 12) cI cZ q) s.heap.size = A at hD ⊢
  have hA : ∀ q : Nat, s.heap.size ≤ q → A q := fun q h => by rw [← hAe]; exact Or.inr h
  have hS : va_S A s.heap s.heap [] := va_S.rf
  have hl := lv_entry ([.ref (a 8), .ref (a 1)]) (n := 4) (Nat.le_of_ble_eq_true rfl)
  rw [lg_entry_eq]
  generalize (lg_sl ([.ref (a 8), .ref (a 1)]) ++ List.replicate (4 - (lg_sl ([.ref (a 8), .ref (a 1)])).length) Slot.unset).toArray = ls at hl ⊢
  have hl : lv_has ls 4 [(0, .ref (a 8)), (1, .ref (a 1))] := hl
  refine lv_aload_n hx hb d_rfind_0 rfl (lv_at hl 0 rfl) ?_
  refine va_get (D := D) (ci := 2) (v := .ref (a 9)) (C := "LoanDesk$Reach") (T := T_Reach) (N := 2) hx hb hg u_Reach hown hK hP 7 rfl rfl 0 (by decide) (hg _ k_78) (fun _ h9 => h9) rfl d_rfind_1 ?_
  refine lv_iconst (v := 0) hx hb d_rfind_4 (by decide) ?_
  refine ld_mv (wr := ([0, 1, 2, 3, 4, 5, 6, 7, 9, 10, 11] : List Nat).filterMap (fun i => (ld_gW a cI G ++ ld_rW a cI rc ++ ld_pW (a 10) (a 11) (a 12) cI cZ q)[i]?)) (ws2 := ld_gW a cI G ++ ld_rW a cI (ld_fl 120 0 rc) ++ ld_pW (a 10) (a 11) (a 12) cI cZ q) (va_runS (As := [.ref (a 9), .int 0]) (rest := []) ⟨hx, hb, hml, hown, hg⟩ (lc_fillI l D cI cZ cJ (a 9) 120 (by decide) rc 0 _) ⟨callB_of 2 hg (ld_gd k_180) rfl rfl rfl (hg _ k_31) (hg _ k_178) hd_fillI ⟨Nat.le_of_ble_eq_true rfl, Nat.le_of_ble_eq_true rfl⟩, hg _ k_179⟩ (ld_preM hP hK hN hD [8] (by decide) rfl) rfl rfl hl.1 rfl (lv_room (Nat.le_of_ble_eq_true rfl)) d_rfind_5 ⟨Nat.zero_le _, Nat.zero_le _⟩) hP hD hS hA [8] [0, 1, 2, 3, 4, 5, 6, 7, 9, 10, 11] [0, 1, 2, 3, 4, 5, 6, 7, 11, 8, 9, 10] rfl rfl (by decide) (by decide) (by decide) rfl (fun H locs hP hD hS => ?_)
  refine lv_aload_n hx hb d_rfind_8 rfl (lv_at hl 0 rfl) ?_
  refine lv_aload_n hx hb d_rfind_9 rfl (lv_at hl 1 rfl) ?_
  refine lv_iconst (v := 0) hx hb d_rfind_10 (by decide) ?_
  obtain ⟨r_1, e_1, h⟩ := ld_nm h
  refine ld_mv (wr := ([] : List Nat).filterMap (fun i => (ld_gW a cI G ++ ld_rW a cI (ld_fl 120 0 rc) ++ ld_pW (a 10) (a 11) (a 12) cI cZ q)[i]?)) (ws2 := ld_gW a cI G ++ ld_rW a cI r_1.1 ++ ld_pW (a 10) (a 11) (a 12) cI cZ r_1.2) (va_runV (As := [.ref (a 1), .int 0]) (rest := []) ⟨hx, hb, hml, hown, hg⟩ (lc_arrive l D cI cZ cJ a G (ld_fl 120 0 rc) q 0 _ r_1 e_1) ⟨callB_of 2 hg (ld_gd k_183) rfl rfl rfl (hg _ k_25) (hg _ k_181) hd_arrive ⟨Nat.le_of_ble_eq_true rfl, Nat.le_of_ble_eq_true rfl⟩, hg _ k_182, hg _ k_2⟩ (ld_preMV hP hK hN hD [0, 1, 2, 3, 4, 5, 6, 7, 8, 9, 10, 11] (by decide) rfl 2 7 rfl rfl) rfl rfl hl.1 rfl (lv_room (Nat.le_of_ble_eq_true rfl)) d_rfind_11 ⟨Nat.zero_le _, Nat.zero_le _⟩) hP hD hS hA [0, 1, 2, 3, 4, 5, 6, 7, 8, 9, 10, 11] [] [0, 1, 2, 3, 4, 5, 6, 7, 8, 9, 10, 11] rfl rfl (by decide) (by decide) (by decide) rfl (fun H locs hP hD hS => ?_)
  refine lv_iconst (v := 0) hx hb d_rfind_14 (by decide) ?_
  refine lv_istore_n (lv' := [(2, .int 0), (0, .ref (a 8)), (1, .ref (a 1))]) hx hb d_rfind_15 rfl hl (by decide) rfl (fun ls hl => ?_)
  obtain ⟨Y1, eY1, h⟩ := ld_ob h
  have kont1 : ∀ (H : Heap) (locs : List Loc) (ls : Array Slot), va_P D vwCl (ld_gW a cI G ++ ld_rW a cI Y1.2.1 ++ ld_pW (a 10) (a 11) (a 12) cI cZ Y1.2.2) H → va_D A (ld_gW a cI G ++ ld_rW a cI Y1.2.1 ++ ld_pW (a 10) (a 11) (a 12) cI cZ Y1.2.2) → va_S A s.heap H locs → lv_has ls 4 [] → W p l e (headSpec (Cond.code y_rfind prog_6_method_4_code 4 none :: bgT) ({ frames := 3, cells := 0, slots := 0, locals := 63 })).room s m ([.ref (a 8), .ref (a 1)] : List Value).toArray below meth c H locs 0 0 (MQ below (ld_QV D (ld_gW a cI G ++ ld_rW a cI R.1 ++ ld_pW (a 10) (a 11) (a 12) cI cZ R.2) A) ([.ref (a 8), .ref (a 1)] : List Value).toArray s 0 0 (A)) (F0 m 66 ls []) := by
    intro H locs ls hP hD hS hl
    have h := Option.some.inj h
    subst h
    exact W.vret hx hb hr (fun t ht hW => ⟨⟨(), rfl, trivial, by rw [ht]; exact hP, hD⟩, hS.F ht⟩) hS.2.2 d_rfind_66
  have key1 : ∀ (n : Nat) (v1 : Int32 × (Nat → Int32) × ld_pT) (H : Heap) (locs : List Loc) (ls : Array Slot), ld_it (ls_rfind_1 G) n v1 = some Y1 → va_P D vwCl (ld_gW a cI G ++ ld_rW a cI v1.2.1 ++ ld_pW (a 10) (a 11) (a 12) cI cZ v1.2.2) H → va_D A (ld_gW a cI G ++ ld_rW a cI v1.2.1 ++ ld_pW (a 10) (a 11) (a 12) cI cZ v1.2.2) → va_S A s.heap H locs → lv_has ls 4 [(0, .ref (a 8)), (1, .ref (a 1)), (2, .int v1.1)] → W p l e (headSpec (Cond.code y_rfind prog_6_method_4_code 4 none :: bgT) ({ frames := 3, cells := 0, slots := 0, locals := 63 })).room s m ([.ref (a 8), .ref (a 1)] : List Value).toArray below meth c H locs 0 0 (MQ below (ld_QV D (ld_gW a cI G ++ ld_rW a cI R.1 ++ ld_pW (a 10) (a 11) (a 12) cI cZ R.2) A) ([.ref (a 8), .ref (a 1)] : List Value).toArray s 0 0 (A)) (F0 m 16 ls []) := by
    intro n
    induction n with
    | zero => intro v1 H locs ls g1 hP hD hS hl; cases g1
    | succ n ih1 =>
      intro v1 H locs ls g1 hP hD hS hl
      obtain ⟨z1, hy1, g1⟩ := ld_its g1
      refine lv_iload_n hx hb d_rfind_16 rfl (lv_at hl 2 rfl) ?_
      refine lv_bipush (v := 120) hx hb d_rfind_17 (by decide) ?_
      refine lv_icmp_ge (tgt := 66) hx hb d_rfind_19 (by decide) (fun c_2 => ?_) (fun c_2 => ?_)
      · have hy1 := (if_pos c_2).symm.trans hy1
        obtain rfl := Option.some.inj hy1
        obtain rfl := Option.some.inj g1
        exact kont1 _ _ _ hP hD hS (lv_sub hl [] rfl)
      · have hy1 := (if_neg c_2).symm.trans hy1
        refine lv_aload_n hx hb d_rfind_22 rfl (lv_at hl 0 rfl) ?_
        refine va_get (D := D) (ci := 2) (v := .ref (a 10)) (C := "LoanDesk$Reach") (T := T_Reach) (N := 2) hx hb hg u_Reach hown hK hP 7 rfl rfl 1 (by decide) (hg _ k_79) (fun _ h9 => h9) rfl d_rfind_23 ?_
        obtain ⟨r_3, e_3, hy1⟩ := ld_nm hy1
        refine ld_rd (W.runV (As := []) (rest := []) ⟨hx, hb, hml, hown, hg⟩ (lc_pEmpty l D cI cZ cJ (a 10) (a 11) (a 12) v1.2.2 r_3 e_3) ⟨callB_of 0 hg (ld_gd k_196) rfl rfl rfl (hg _ k_26) (hg _ k_193) hd_pEmpty ⟨Nat.le_of_ble_eq_true rfl, Nat.le_of_ble_eq_true rfl⟩, hg _ k_194, hg _ k_195⟩ (ld_preRV hP hK hN [9, 10, 11] rfl 1 0 rfl rfl) rfl rfl hl.1 rfl (lv_room (Nat.le_of_ble_eq_true rfl)) d_rfind_26 ⟨Nat.zero_le _, Nat.zero_le _⟩) ?_
        refine lv_if_ne (tgt := 66) hx hb d_rfind_29 (by decide) (fun c_4 => ?_) (fun c_4 => ?_)
        · have hy1 := (if_neg c_4).symm.trans hy1
          obtain rfl := Option.some.inj hy1
          obtain rfl := Option.some.inj g1
          exact kont1 _ _ _ hP hD hS (lv_sub hl [] rfl)
        · have hy1 := (if_pos c_4).symm.trans hy1
          refine lv_aload_n hx hb d_rfind_32 rfl (lv_at hl 0 rfl) ?_
          refine va_get (D := D) (ci := 2) (v := .ref (a 10)) (C := "LoanDesk$Reach") (T := T_Reach) (N := 2) hx hb hg u_Reach hown hK hP 7 rfl rfl 1 (by decide) (hg _ k_79) (fun _ h9 => h9) rfl d_rfind_33 ?_
          obtain ⟨r_5, e_5, hy1⟩ := ld_nm hy1
          refine ld_mi (wr := ([0, 1, 2, 3, 4, 5, 6, 7, 8] : List Nat).filterMap (fun i => (ld_gW a cI G ++ ld_rW a cI v1.2.1 ++ ld_pW (a 10) (a 11) (a 12) cI cZ v1.2.2)[i]?)) (ws2 := ld_gW a cI G ++ ld_rW a cI v1.2.1 ++ ld_pW (a 10) (a 11) (a 12) cI cZ r_5.2) (va_runV (As := []) (rest := []) ⟨hx, hb, hml, hown, hg⟩ (lc_take l D cI cZ cJ (a 10) (a 11) (a 12) v1.2.2 _ r_5 e_5) ⟨callB_of 0 hg (ld_gd k_200) rfl rfl rfl (hg _ k_26) (hg _ k_197) hd_take ⟨Nat.le_of_ble_eq_true rfl, Nat.le_of_ble_eq_true rfl⟩, hg _ k_198, hg _ k_199⟩ (ld_preMV hP hK hN hD [9, 10, 11] (by decide) rfl 1 0 rfl rfl) rfl rfl hl.1 rfl (lv_room (Nat.le_of_ble_eq_true rfl)) d_rfind_36 ⟨Nat.zero_le _, Nat.zero_le _⟩) hP hD hS hA [9, 10, 11] [0, 1, 2, 3, 4, 5, 6, 7, 8] [0, 1, 2, 3, 4, 5, 6, 7, 8, 9, 10, 11] rfl rfl (by decide) (by decide) (by decide) rfl (fun H locs hP hD hS => ?_)
          refine lv_istore_n (lv' := [(3, .int r_5.1), (0, .ref (a 8)), (1, .ref (a 1)), (2, .int v1.1)]) hx hb d_rfind_39 rfl hl (by decide) rfl (fun ls hl => ?_)
          refine lv_aload_n hx hb d_rfind_40 rfl (lv_at hl 1 rfl) ?_
          refine lv_aload_n hx hb d_rfind_41 rfl (lv_at hl 2 rfl) ?_
          refine lv_aload_n hx hb d_rfind_42 rfl (lv_at hl 2 rfl) ?_
          refine lv_iload_n hx hb d_rfind_43 rfl (lv_at hl 0 rfl) ?_
          obtain ⟨r_6, e_6, hy1⟩ := ld_nm hy1
          refine ld_rd (W.runV (As := [.int r_5.1]) (rest := [.ref (a 1), .ref (a 8)]) ⟨hx, hb, hml, hown, hg⟩ (lc_firstNext l D cI cZ cJ a G r_5.1 r_6 e_6) ⟨callB_of 1 hg (ld_gd k_204) rfl rfl rfl (hg _ k_24) (hg _ k_201) hd_firstNext ⟨Nat.le_of_ble_eq_true rfl, Nat.le_of_ble_eq_true rfl⟩, hg _ k_202, hg _ k_203⟩ (ld_preRV hP hK hN [0, 1, 2, 3, 4, 5, 6] rfl 0 0 rfl rfl) rfl rfl hl.1 rfl (lv_room (Nat.le_of_ble_eq_true rfl)) d_rfind_44 ⟨Nat.zero_le _, Nat.zero_le _⟩) ?_
          obtain ⟨r_7, e_7, hy1⟩ := ld_nm hy1
          refine ld_mv (wr := ([] : List Nat).filterMap (fun i => (ld_gW a cI G ++ ld_rW a cI v1.2.1 ++ ld_pW (a 10) (a 11) (a 12) cI cZ r_5.2)[i]?)) (ws2 := ld_gW a cI G ++ ld_rW a cI r_7.1 ++ ld_pW (a 10) (a 11) (a 12) cI cZ r_7.2) (va_runV (As := [.ref (a 1), .int r_6]) (rest := []) ⟨hx, hb, hml, hown, hg⟩ (lc_arrive l D cI cZ cJ a G v1.2.1 r_5.2 r_6 _ r_7 e_7) ⟨callB_of 2 hg (ld_gd k_183) rfl rfl rfl (hg _ k_25) (hg _ k_181) hd_arrive ⟨Nat.le_of_ble_eq_true rfl, Nat.le_of_ble_eq_true rfl⟩, hg _ k_182, hg _ k_2⟩ (ld_preMV hP hK hN hD [0, 1, 2, 3, 4, 5, 6, 7, 8, 9, 10, 11] (by decide) rfl 2 7 rfl rfl) rfl rfl hl.1 rfl (lv_room (Nat.le_of_ble_eq_true rfl)) d_rfind_47 ⟨Nat.zero_le _, Nat.zero_le _⟩) hP hD hS hA [0, 1, 2, 3, 4, 5, 6, 7, 8, 9, 10, 11] [] [0, 1, 2, 3, 4, 5, 6, 7, 8, 9, 10, 11] rfl rfl (by decide) (by decide) (by decide) rfl (fun H locs hP hD hS => ?_)
          refine lv_aload_n hx hb d_rfind_50 rfl (lv_at hl 1 rfl) ?_
          refine lv_aload_n hx hb d_rfind_51 rfl (lv_at hl 2 rfl) ?_
          refine lv_aload_n hx hb d_rfind_52 rfl (lv_at hl 2 rfl) ?_
          refine lv_iload_n hx hb d_rfind_53 rfl (lv_at hl 0 rfl) ?_
          obtain ⟨r_8, e_8, hy1⟩ := ld_nm hy1
          refine ld_rd (W.runV (As := [.int r_5.1]) (rest := [.ref (a 1), .ref (a 8)]) ⟨hx, hb, hml, hown, hg⟩ (lc_secondNext l D cI cZ cJ a G r_5.1 r_8 e_8) ⟨callB_of 1 hg (ld_gd k_208) rfl rfl rfl (hg _ k_24) (hg _ k_205) hd_secondNext ⟨Nat.le_of_ble_eq_true rfl, Nat.le_of_ble_eq_true rfl⟩, hg _ k_206, hg _ k_207⟩ (ld_preRV hP hK hN [0, 1, 2, 3, 4, 5, 6] rfl 0 0 rfl rfl) rfl rfl hl.1 rfl (lv_room (Nat.le_of_ble_eq_true rfl)) d_rfind_54 ⟨Nat.zero_le _, Nat.zero_le _⟩) ?_
          obtain ⟨r_9, e_9, hy1⟩ := ld_nm hy1
          refine ld_mv (wr := ([] : List Nat).filterMap (fun i => (ld_gW a cI G ++ ld_rW a cI r_7.1 ++ ld_pW (a 10) (a 11) (a 12) cI cZ r_7.2)[i]?)) (ws2 := ld_gW a cI G ++ ld_rW a cI r_9.1 ++ ld_pW (a 10) (a 11) (a 12) cI cZ r_9.2) (va_runV (As := [.ref (a 1), .int r_8]) (rest := []) ⟨hx, hb, hml, hown, hg⟩ (lc_arrive l D cI cZ cJ a G r_7.1 r_7.2 r_8 _ r_9 e_9) ⟨callB_of 2 hg (ld_gd k_183) rfl rfl rfl (hg _ k_25) (hg _ k_181) hd_arrive ⟨Nat.le_of_ble_eq_true rfl, Nat.le_of_ble_eq_true rfl⟩, hg _ k_182, hg _ k_2⟩ (ld_preMV hP hK hN hD [0, 1, 2, 3, 4, 5, 6, 7, 8, 9, 10, 11] (by decide) rfl 2 7 rfl rfl) rfl rfl hl.1 rfl (lv_room (Nat.le_of_ble_eq_true rfl)) d_rfind_57 ⟨Nat.zero_le _, Nat.zero_le _⟩) hP hD hS hA [0, 1, 2, 3, 4, 5, 6, 7, 8, 9, 10, 11] [] [0, 1, 2, 3, 4, 5, 6, 7, 8, 9, 10, 11] rfl rfl (by decide) (by decide) (by decide) rfl (fun H locs hP hD hS => ?_)
          refine lv_iinc (v := v1.1 + 1) (lv' := [(2, .int (v1.1 + 1)), (3, .int r_5.1), (0, .ref (a 8)), (1, .ref (a 1))]) hx hb d_rfind_60 hl (k := 3) rfl rfl (by decide) rfl (fun ls hl => ?_)
          refine lv_goto (tgt := 16) hx hb d_rfind_63 (by decide) ?_
          obtain rfl := Option.some.inj hy1
          exact ih1 (v1.1 + 1, r_9.1, r_9.2) _ _ _ g1 hP hD hS (lv_sub hl [2, 3, 0] rfl)
  exact key1 N (0, r_1.1, r_1.2) _ _ _ eY1 hP hD hS (lv_sub hl [1, 2, 0] rfl)
