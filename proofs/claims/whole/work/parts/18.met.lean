def lf_forget (dk : Int32 × Int32) : (Int32 × Int32) := (0, 0)
set_option maxHeartbeats 4000000 in
set_option maxRecDepth 100000 in
theorem lc_forget (l : Launch) (D : va_G) (cI cZ cJ : ClassId) (a : Nat → Nat) (dk : Int32 × Int32) (sz : Nat) (R : (Int32 × Int32)) (h : lf_forget dk = R) : Met l y_forget (Cond.code y_forget prog_1_method_16_code 1 none :: bgT) ({ frames := 0, cells := 0, slots := 0, locals := 0 }) (ld_PM D cI cZ cJ (ld_dW a dk) sz [.ref (a 0)]) (ld_QV D (ld_dW a R) (va_A (ld_dW a dk) sz)) 0 0 ((va_A (ld_dW a dk) sz)) := by
  refine Met.ofW (cc := prog_1_method_16_code) (maxL := 1) (ret := none) (by decide) rfl ?_
  intro p e s m args below meth c s₁ B hml hv
  obtain ⟨rfl, hsz, hP, hK, hD0, hN⟩ := hv
  have hx := B.exec
  have hb := B.bytes
  have hr := B.returns
  have hg : ∀ w ∈ bgT, w.before _ s = true := fun w h => atoms_spec (ws := (Cond.code y_forget prog_1_method_16_code 1 none :: bgT)) B.pre w (List.mem_cons_of_mem _ h)
  have hown : s.vm.findClass "LoanDesk" = some m.cls := findClass_of_methodNamed B.named
  have hlocks := B.notSynchronized
  subst hsz
  have hD := hD0.self (sz := s.heap.size)
  generalize hAe : va_A (ld_dW a dk) s.heap.size = A at hD ⊢
  have hA : ∀ q : Nat, s.heap.size ≤ q → A q := fun q h => by rw [← hAe]; exact Or.inr h
  have hS : va_S A s.heap s.heap [] := va_S.rf
  have hl := lv_entry ([.ref (a 0)]) (n := 1) (Nat.le_of_ble_eq_true rfl)
  rw [lg_entry_eq]
  generalize (lg_sl ([.ref (a 0)]) ++ List.replicate (1 - (lg_sl ([.ref (a 0)])).length) Slot.unset).toArray = ls at hl ⊢
  have hl : lv_has ls 1 [(0, .ref (a 0))] := hl
  refine lv_aload_n hx hb d_forget_0 rfl (lv_at hl 0 rfl) ?_
  refine lv_iconst (v := 0) hx hb d_forget_1 (by decide) ?_
  refine va_put (D := D) (ci := 6) (v := .int 0) (ty := .boolean) (C := "LoanDesk") (T := T_Desk) (N := 7) hx hb hg u_Desk t_Desk tk_Desk n_Desk hown hK hP hD hS 0 rfl rfl 5 (by decide) (hg _ k_114) (fun _ h9 => h9) rfl (by decide +kernel) rfl rfl (Nat.le_of_ble_eq_true rfl) d_forget_2 (fun H locs hP hD hS => ?_)
  have hP : va_P D vwCl (ld_dW a (0, dk.2)) H := hP
  have hD : va_D A (ld_dW a (0, dk.2)) := hD
  refine lv_aload_n hx hb d_forget_5 rfl (lv_at hl 0 rfl) ?_
  refine lv_iconst (v := 0) hx hb d_forget_6 (by decide) ?_
  refine va_put (D := D) (ci := 6) (v := .int 0) (ty := .boolean) (C := "LoanDesk") (T := T_Desk) (N := 7) hx hb hg u_Desk t_Desk tk_Desk n_Desk hown hK hP hD hS 0 rfl rfl 6 (by decide) (hg _ k_115) (fun _ h9 => h9) rfl (by decide +kernel) rfl rfl (Nat.le_of_ble_eq_true rfl) d_forget_7 (fun H locs hP hD hS => ?_)
  have hP : va_P D vwCl (ld_dW a (0, 0)) H := hP
  have hD : va_D A (ld_dW a (0, 0)) := hD
  subst h
  exact W.vret hx hb hr (fun t ht hW => ⟨⟨(), rfl, trivial, by rw [ht]; exact hP, hD⟩, hS.F ht⟩) hS.2.2 d_forget_10
def lm_findWays (N : Nat) (dk : Int32 × Int32) (G : ld_gT) (rc : Nat → Int32) (q : ld_pT) (u : Nat → Int32) : Option ((Int32 × Int32) × (Nat → Int32) × ld_pT × (Nat → Int32)) := if dk.1 = 0 then Option.bind (lm_rfind N G rc q) (fun r_2 => Option.bind (lm_ufind N G u) (fun r_3 => some ((1, dk.2), r_2.1, r_2.2, r_3))) else some (dk, rc, q, u)
set_option maxHeartbeats 4000000 in
set_option maxRecDepth 100000 in
theorem lc_findWays (l : Launch) (D : va_G) (cI cZ cJ : ClassId) (a : Nat → Nat) (dk : Int32 × Int32) (G : ld_gT) (rc : Nat → Int32) (q : ld_pT) (u : Nat → Int32) (sz : Nat) (N : Nat) (R : (Int32 × Int32) × (Nat → Int32) × ld_pT × (Nat → Int32)) (h : lm_findWays N dk G rc q u = some R) : Met l y_findWays (Cond.code y_findWays prog_1_method_17_code 1 none :: bgT) ({ frames := 4, cells := 0, slots := 0, locals := 92 }) (ld_PM D cI cZ cJ (ld_dW a dk ++ ld_gW a cI G ++ ld_rW a cI rc ++ ld_pW (a 10) (a 11) (a 12) cI cZ q ++ ld_uW a cI u) sz [.ref (a 0)]) (ld_QV D (ld_dW a R.1 ++ ld_gW a cI G ++ ld_rW a cI R.2.1 ++ ld_pW (a 10) (a 11) (a 12) cI cZ R.2.2.1 ++ ld_uW a cI R.2.2.2) (va_A (ld_dW a dk ++ ld_gW a cI G ++ ld_rW a cI rc ++ ld_pW (a 10) (a 11) (a 12) cI cZ q ++ ld_uW a cI u) sz)) 0 0 ((va_A (ld_dW a dk ++ ld_gW a cI G ++ ld_rW a cI rc ++ ld_pW (a 10) (a 11) (a 12) cI cZ q ++ ld_uW a cI u) sz)) := by
  refine Met.ofW (cc := prog_1_method_17_code) (maxL := 1) (ret := none) (by decide) rfl ?_
  intro p e s m args below meth c s₁ B hml hv
  obtain ⟨rfl, hsz, hP, hK, hD0, hN⟩ := hv
  have hx := B.exec
  have hb := B.bytes
  have hr := B.returns
  have hg : ∀ w ∈ bgT, w.before _ s = true := fun w h => atoms_spec (ws := (Cond.code y_findWays prog_1_method_17_code 1 none :: bgT)) B.pre w (List.mem_cons_of_mem _ h)
  have hown : s.vm.findClass "LoanDesk" = some m.cls := findClass_of_methodNamed B.named
  have hlocks := B.notSynchronized
  subst hsz
  have hD := hD0.self (sz := s.heap.size)
  generalize hAe : va_A (ld_dW a dk ++ ld_gW a cI G ++ ld_rW a cI rc ++ ld_pW (a 10) (a 11) (a 12) cI cZ q ++ ld_uW a cI u) s.heap.size = A at hD ⊢
  have hA : ∀ q : Nat, s.heap.size ≤ q → A q := fun q h => by rw [← hAe]; exact Or.inr h
  have hS : va_S A s.heap s.heap [] := va_S.rf
  have hl := lv_entry ([.ref (a 0)]) (n := 1) (Nat.le_of_ble_eq_true rfl)
  rw [lg_entry_eq]
  generalize (lg_sl ([.ref (a 0)]) ++ List.replicate (1 - (lg_sl ([.ref (a 0)])).length) Slot.unset).toArray = ls at hl ⊢
  have hl : lv_has ls 1 [(0, .ref (a 0))] := hl
  refine lv_aload_n hx hb d_findWays_0 rfl (lv_at hl 0 rfl) ?_
  refine va_get (D := D) (ci := 6) (v := .int dk.1) (C := "LoanDesk") (T := T_Desk) (N := 7) hx hb hg u_Desk hown hK hP 0 rfl rfl 5 (by decide) (hg _ k_114) (fun _ h9 => h9) rfl d_findWays_1 ?_
  refine lv_if_eq (tgt := 8) hx hb d_findWays_4 (by decide) (fun c_1 => ?_) (fun c_1 => ?_)
  · have h := (if_pos c_1).symm.trans h
    refine lv_aload_n hx hb d_findWays_8 rfl (lv_at hl 0 rfl) ?_
    refine va_get (D := D) (ci := 6) (v := .ref (a 8)) (C := "LoanDesk") (T := T_Desk) (N := 7) hx hb hg u_Desk hown hK hP 0 rfl rfl 1 (by decide) (hg _ k_110) (fun _ h9 => h9) rfl d_findWays_9 ?_
    refine lv_aload_n hx hb d_findWays_12 rfl (lv_at hl 0 rfl) ?_
    refine va_get (D := D) (ci := 6) (v := .ref (a 1)) (C := "LoanDesk") (T := T_Desk) (N := 7) hx hb hg u_Desk hown hK hP 0 rfl rfl 0 (by decide) (hg _ k_109) (fun _ h9 => h9) rfl d_findWays_13 ?_
    obtain ⟨r_2, e_2, h⟩ := ld_ob h
    refine ld_mv (wr := ([0, 13, 14] : List Nat).filterMap (fun i => (ld_dW a dk ++ ld_gW a cI G ++ ld_rW a cI rc ++ ld_pW (a 10) (a 11) (a 12) cI cZ q ++ ld_uW a cI u)[i]?)) (ws2 := ld_dW a dk ++ ld_gW a cI G ++ ld_rW a cI r_2.1 ++ ld_pW (a 10) (a 11) (a 12) cI cZ r_2.2 ++ ld_uW a cI u) (va_runV (As := [.ref (a 1)]) (rest := []) ⟨hx, hb, hml, hown, hg⟩ (lc_rfind l D cI cZ cJ a G rc q _ N r_2 e_2) ⟨callB_of 1 hg (ld_gd k_177) rfl rfl rfl (hg _ k_25) (hg _ k_174) hd_rfind ⟨Nat.le_of_ble_eq_true rfl, Nat.le_of_ble_eq_true rfl⟩, hg _ k_175, hg _ k_176⟩ (ld_preMV hP hK hN hD [1, 2, 3, 4, 5, 6, 7, 8, 9, 10, 11, 12] (by decide) rfl 2 7 rfl rfl) rfl rfl hl.1 rfl (lv_room (Nat.le_of_ble_eq_true rfl)) d_findWays_16 ⟨Nat.zero_le _, Nat.zero_le _⟩) hP hD hS hA [1, 2, 3, 4, 5, 6, 7, 8, 9, 10, 11, 12] [0, 13, 14] [0, 3, 4, 5, 6, 7, 8, 9, 10, 11, 12, 13, 14, 1, 2] rfl rfl (by decide) (by decide) (by decide) rfl (fun H locs hP hD hS => ?_)
    refine lv_aload_n hx hb d_findWays_19 rfl (lv_at hl 0 rfl) ?_
    refine va_get (D := D) (ci := 6) (v := .ref (a 13)) (C := "LoanDesk") (T := T_Desk) (N := 7) hx hb hg u_Desk hown hK hP 0 rfl rfl 2 (by decide) (hg _ k_111) (fun _ h9 => h9) rfl d_findWays_20 ?_
    refine lv_aload_n hx hb d_findWays_23 rfl (lv_at hl 0 rfl) ?_
    refine va_get (D := D) (ci := 6) (v := .ref (a 1)) (C := "LoanDesk") (T := T_Desk) (N := 7) hx hb hg u_Desk hown hK hP 0 rfl rfl 0 (by decide) (hg _ k_109) (fun _ h9 => h9) rfl d_findWays_24 ?_
    obtain ⟨r_3, e_3, h⟩ := ld_ob h
    refine ld_mv (wr := ([0, 8, 9, 10, 11, 12] : List Nat).filterMap (fun i => (ld_dW a dk ++ ld_gW a cI G ++ ld_rW a cI r_2.1 ++ ld_pW (a 10) (a 11) (a 12) cI cZ r_2.2 ++ ld_uW a cI u)[i]?)) (ws2 := ld_dW a dk ++ ld_gW a cI G ++ ld_rW a cI r_2.1 ++ ld_pW (a 10) (a 11) (a 12) cI cZ r_2.2 ++ ld_uW a cI r_3) (va_runV (As := [.ref (a 1)]) (rest := []) ⟨hx, hb, hml, hown, hg⟩ (lc_ufind l D cI cZ cJ a G u _ N r_3 e_3) ⟨callB_of 1 hg (ld_gd k_212) rfl rfl rfl (hg _ k_27) (hg _ k_209) hd_ufind ⟨Nat.le_of_ble_eq_true rfl, Nat.le_of_ble_eq_true rfl⟩, hg _ k_210, hg _ k_211⟩ (ld_preMV hP hK hN hD [1, 2, 3, 4, 5, 6, 7, 13, 14] (by decide) rfl 3 7 rfl rfl) rfl rfl hl.1 rfl (lv_room (Nat.le_of_ble_eq_true rfl)) d_findWays_27 ⟨Nat.zero_le _, Nat.zero_le _⟩) hP hD hS hA [1, 2, 3, 4, 5, 6, 7, 13, 14] [0, 8, 9, 10, 11, 12] [0, 6, 7, 8, 9, 10, 11, 12, 1, 2, 3, 4, 5, 13, 14] rfl rfl (by decide) (by decide) (by decide) rfl (fun H locs hP hD hS => ?_)
    refine lv_aload_n hx hb d_findWays_30 rfl (lv_at hl 0 rfl) ?_
    refine lv_iconst (v := 1) hx hb d_findWays_31 (by decide) ?_
    refine va_put (D := D) (ci := 6) (v := .int 1) (ty := .boolean) (C := "LoanDesk") (T := T_Desk) (N := 7) hx hb hg u_Desk t_Desk tk_Desk n_Desk hown hK hP hD hS 0 rfl rfl 5 (by decide) (hg _ k_114) (fun _ h9 => h9) rfl (by decide +kernel) rfl rfl (Nat.le_of_ble_eq_true rfl) d_findWays_32 (fun H locs hP hD hS => ?_)
    have hP : va_P D vwCl (ld_dW a (1, dk.2) ++ ld_gW a cI G ++ ld_rW a cI r_2.1 ++ ld_pW (a 10) (a 11) (a 12) cI cZ r_2.2 ++ ld_uW a cI r_3) H := hP
    have hD : va_D A (ld_dW a (1, dk.2) ++ ld_gW a cI G ++ ld_rW a cI r_2.1 ++ ld_pW (a 10) (a 11) (a 12) cI cZ r_2.2 ++ ld_uW a cI r_3) := hD
    have h := Option.some.inj h
    subst h
    exact W.vret hx hb hr (fun t ht hW => ⟨⟨(), rfl, trivial, by rw [ht]; exact hP, hD⟩, hS.F ht⟩) hS.2.2 d_findWays_35
  · have h := (if_neg c_1).symm.trans h
    have h := Option.some.inj h
    subst h
    exact W.vret hx hb hr (fun t ht hW => ⟨⟨(), rfl, trivial, by rw [ht]; exact hP, hD⟩, hS.F ht⟩) hS.2.2 d_findWays_7
def ls_addMeet_1 (N : Nat) (G : ld_gT) (u : Nat → Int32) (hh : (Nat → Int32) × (Nat → Int32)) (p0 : Int32) (v1 : Int32 × (Nat → Int64)) : Option ((Int32 × (Nat → Int64)) ⊕ (Int32 × (Nat → Int64))) := ld_lt (lf_gsize G) (fun r_1 => if r_1 ≤ v1.1 then some (.inr (v1.1, v1.2)) else ld_lt (lf_hbehind hh v1.1) (fun r_3 => ld_lt (lf_ubehind u v1.1) (fun r_4 => ld_lt (lf_borrowing G v1.1) (fun r_5 => if ((r_3 &&& r_4) &&& (r_5 ^^^ (-1))) = 0 then some (.inl (v1.1 + 1, v1.2)) else Option.bind (lm_touches N G v1.1 p0) (fun r_7 => if r_7 = 0 then some (.inl (v1.1 + 1, v1.2)) else ld_lt (lf_madd v1.2 v1.1 p0) (fun r_9 => some (.inl (v1.1 + 1, r_9))))))))
def lm_addMeet (N : Nat) (dk : Int32 × Int32) (G : ld_gT) (u : Nat → Int32) (hh : (Nat → Int32) × (Nat → Int32)) (mw : Nat → Int64) (p0 : Int32) : Option ((Nat → Int64)) := Option.bind (ld_it (ls_addMeet_1 N G u hh p0) N (0, mw)) (fun Y1 => some Y1.2)
set_option maxHeartbeats 4000000 in
set_option maxRecDepth 100000 in
theorem lc_addMeet (l : Launch) (D : va_G) (cI cZ cJ : ClassId) (a : Nat → Nat) (dk : Int32 × Int32) (G : ld_gT) (u : Nat → Int32) (hh : (Nat → Int32) × (Nat → Int32)) (mw : Nat → Int64) (p0 : Int32) (sz : Nat) (N : Nat) (R : (Nat → Int64)) (h : lm_addMeet N dk G u hh mw p0 = some R) : Met l y_addMeet (Cond.code y_addMeet prog_1_method_19_code 4 none :: bgT) ({ frames := 3, cells := 0, slots := 0, locals := 68 }) (ld_PM D cI cZ cJ (ld_dW a dk ++ ld_gW a cI G ++ ld_uW a cI u ++ ld_hW a cI hh ++ ld_mW a cJ mw) sz [.ref (a 0), .int p0]) (ld_QV D (ld_dW a dk ++ ld_gW a cI G ++ ld_uW a cI u ++ ld_hW a cI hh ++ ld_mW a cJ R) (va_A (ld_dW a dk ++ ld_gW a cI G ++ ld_uW a cI u ++ ld_hW a cI hh ++ ld_mW a cJ mw) sz)) 0 0 ((va_A (ld_dW a dk ++ ld_gW a cI G ++ ld_uW a cI u ++ ld_hW a cI hh ++ ld_mW a cJ mw) sz)) := by
  refine Met.ofW (cc := prog_1_method_19_code) (maxL := 4) (ret := none) (by decide) rfl ?_
  intro p e s m args below meth c s₁ B hml hv
  obtain ⟨rfl, hsz, hP, hK, hD0, hN⟩ := hv
  have hx := B.exec
  have hb := B.bytes
  have hr := B.returns
  have hg : ∀ w ∈ bgT, w.before _ s = true := fun w h => atoms_spec (ws := (Cond.code y_addMeet prog_1_method_19_code 4 none :: bgT)) B.pre w (List.mem_cons_of_mem _ h)
  have hown : s.vm.findClass "LoanDesk" = some m.cls := findClass_of_methodNamed B.named
  have hlocks := B.notSynchronized
  subst hsz
  have hD := hD0.self (sz := s.heap.size)
  generalize hAe : va_A (ld_dW a dk ++ ld_gW a cI G ++ ld_uW a cI u ++ ld_hW a cI hh ++ ld_mW a cJ mw) s.heap.size = A at hD ⊢
  have hA : ∀ q : Nat, s.heap.size ≤ q → A q := fun q h => by rw [← hAe]; exact Or.inr h
  have hS : va_S A s.heap s.heap [] := va_S.rf
  have hl := lv_entry ([.ref (a 0), .int p0]) (n := 4) (Nat.le_of_ble_eq_true rfl)
  rw [lg_entry_eq]
  generalize (lg_sl ([.ref (a 0), .int p0]) ++ List.replicate (4 - (lg_sl ([.ref (a 0), .int p0])).length) Slot.unset).toArray = ls at hl ⊢
  have hl : lv_has ls 4 [(0, .ref (a 0)), (1, .int p0)] := hl
  refine lv_iconst (v := 0) hx hb d_addMeet_0 (by decide) ?_
  refine lv_istore_n (lv' := [(2, .int 0), (0, .ref (a 0)), (1, .int p0)]) hx hb d_addMeet_1 rfl hl (by decide) rfl (fun ls hl => ?_)
  obtain ⟨Y1, eY1, h⟩ := ld_ob h
  have kont1 : ∀ (H : Heap) (locs : List Loc) (ls : Array Slot), va_P D vwCl (ld_dW a dk ++ ld_gW a cI G ++ ld_uW a cI u ++ ld_hW a cI hh ++ ld_mW a cJ Y1.2) H → va_D A (ld_dW a dk ++ ld_gW a cI G ++ ld_uW a cI u ++ ld_hW a cI hh ++ ld_mW a cJ Y1.2) → va_S A s.heap H locs → lv_has ls 4 [] → W p l e (headSpec (Cond.code y_addMeet prog_1_method_19_code 4 none :: bgT) ({ frames := 3, cells := 0, slots := 0, locals := 68 })).room s m ([.ref (a 0), .int p0] : List Value).toArray below meth c H locs 0 0 (MQ below (ld_QV D (ld_dW a dk ++ ld_gW a cI G ++ ld_uW a cI u ++ ld_hW a cI hh ++ ld_mW a cJ R) A) ([.ref (a 0), .int p0] : List Value).toArray s 0 0 (A)) (F0 m 73 ls []) := by
    intro H locs ls hP hD hS hl
    have h := Option.some.inj h
    subst h
    exact W.vret hx hb hr (fun t ht hW => ⟨⟨(), rfl, trivial, by rw [ht]; exact hP, hD⟩, hS.F ht⟩) hS.2.2 d_addMeet_73
  have key1 : ∀ (n : Nat) (v1 : Int32 × (Nat → Int64)) (H : Heap) (locs : List Loc) (ls : Array Slot), ld_it (ls_addMeet_1 N G u hh p0) n v1 = some Y1 → va_P D vwCl (ld_dW a dk ++ ld_gW a cI G ++ ld_uW a cI u ++ ld_hW a cI hh ++ ld_mW a cJ v1.2) H → va_D A (ld_dW a dk ++ ld_gW a cI G ++ ld_uW a cI u ++ ld_hW a cI hh ++ ld_mW a cJ v1.2) → va_S A s.heap H locs → lv_has ls 4 [(0, .ref (a 0)), (1, .int p0), (2, .int v1.1)] → W p l e (headSpec (Cond.code y_addMeet prog_1_method_19_code 4 none :: bgT) ({ frames := 3, cells := 0, slots := 0, locals := 68 })).room s m ([.ref (a 0), .int p0] : List Value).toArray below meth c H locs 0 0 (MQ below (ld_QV D (ld_dW a dk ++ ld_gW a cI G ++ ld_uW a cI u ++ ld_hW a cI hh ++ ld_mW a cJ R) A) ([.ref (a 0), .int p0] : List Value).toArray s 0 0 (A)) (F0 m 2 ls []) := by
    intro n
    induction n with
    | zero => intro v1 H locs ls g1 hP hD hS hl; cases g1
    | succ n ih1 =>
      intro v1 H locs ls g1 hP hD hS hl
      obtain ⟨z1, hy1, g1⟩ := ld_its g1
      refine lv_iload_n hx hb d_addMeet_2 rfl (lv_at hl 2 rfl) ?_
      refine lv_aload_n hx hb d_addMeet_3 rfl (lv_at hl 0 rfl) ?_
      refine va_get (D := D) (ci := 6) (v := .ref (a 1)) (C := "LoanDesk") (T := T_Desk) (N := 7) hx hb hg u_Desk hown hK hP 0 rfl rfl 0 (by decide) (hg _ k_109) (fun _ h9 => h9) rfl d_addMeet_4 ?_
      obtain ⟨r_1, e_1, hy1⟩ := ld_nm hy1
      refine ld_rd (W.runV (As := []) (rest := [.int v1.1]) ⟨hx, hb, hml, hown, hg⟩ (lc_gsize l D cI cZ cJ a G r_1 e_1) ⟨callB_of 0 hg (ld_gd k_220) rfl rfl rfl (hg _ k_24) (hg _ k_296) hd_gsize ⟨Nat.le_of_ble_eq_true rfl, Nat.le_of_ble_eq_true rfl⟩, hg _ k_218, hg _ k_219⟩ (ld_preRV hP hK hN [1, 2, 3, 4, 5, 6, 7] rfl 0 0 rfl rfl) rfl rfl hl.1 rfl (lv_room (Nat.le_of_ble_eq_true rfl)) d_addMeet_7 ⟨Nat.zero_le _, Nat.zero_le _⟩) ?_
      refine lv_icmp_ge (tgt := 73) hx hb d_addMeet_10 (by decide) (fun c_2 => ?_) (fun c_2 => ?_)
      · have hy1 := (if_pos c_2).symm.trans hy1
        obtain rfl := Option.some.inj hy1
        obtain rfl := Option.some.inj g1
        exact kont1 _ _ _ hP hD hS (lv_sub hl [] rfl)
      · have hy1 := (if_neg c_2).symm.trans hy1
        refine lv_aload_n hx hb d_addMeet_13 rfl (lv_at hl 0 rfl) ?_
        refine va_get (D := D) (ci := 6) (v := .ref (a 15)) (C := "LoanDesk") (T := T_Desk) (N := 7) hx hb hg u_Desk hown hK hP 0 rfl rfl 3 (by decide) (hg _ k_112) (fun _ h9 => h9) rfl d_addMeet_14 ?_
        refine lv_iload_n hx hb d_addMeet_17 rfl (lv_at hl 2 rfl) ?_
        obtain ⟨r_3, e_3, hy1⟩ := ld_nm hy1
        refine ld_rd (W.runV (As := [.int v1.1]) (rest := []) ⟨hx, hb, hml, hown, hg⟩ (lc_hbehind l D cI cZ cJ a hh v1.1 r_3 e_3) ⟨callB_of 1 hg (ld_gd k_270) rfl rfl rfl (hg _ k_28) (hg _ k_267) hd_hbehind ⟨Nat.le_of_ble_eq_true rfl, Nat.le_of_ble_eq_true rfl⟩, hg _ k_268, hg _ k_269⟩ (ld_preRV hP hK hN [10, 11, 12] rfl 4 0 rfl rfl) rfl rfl hl.1 rfl (lv_room (Nat.le_of_ble_eq_true rfl)) d_addMeet_18 ⟨Nat.zero_le _, Nat.zero_le _⟩) ?_
        refine lv_aload_n hx hb d_addMeet_21 rfl (lv_at hl 0 rfl) ?_
        refine va_get (D := D) (ci := 6) (v := .ref (a 13)) (C := "LoanDesk") (T := T_Desk) (N := 7) hx hb hg u_Desk hown hK hP 0 rfl rfl 2 (by decide) (hg _ k_111) (fun _ h9 => h9) rfl d_addMeet_22 ?_
        refine lv_iload_n hx hb d_addMeet_25 rfl (lv_at hl 2 rfl) ?_
        obtain ⟨r_4, e_4, hy1⟩ := ld_nm hy1
        refine ld_rd (W.runV (As := [.int v1.1]) (rest := [.int r_3]) ⟨hx, hb, hml, hown, hg⟩ (lc_ubehind l D cI cZ cJ a u v1.1 r_4 e_4) ⟨callB_of 1 hg (ld_gd k_229) rfl rfl rfl (hg _ k_27) (hg _ k_275) hd_ubehind ⟨Nat.le_of_ble_eq_true rfl, Nat.le_of_ble_eq_true rfl⟩, hg _ k_227, hg _ k_228⟩ (ld_preRV hP hK hN [8, 9] rfl 3 0 rfl rfl) rfl rfl hl.1 rfl (lv_room (Nat.le_of_ble_eq_true rfl)) d_addMeet_26 ⟨Nat.zero_le _, Nat.zero_le _⟩) ?_
        refine lv_iand hx hb d_addMeet_29 ?_
        refine lv_aload_n hx hb d_addMeet_30 rfl (lv_at hl 0 rfl) ?_
        refine va_get (D := D) (ci := 6) (v := .ref (a 1)) (C := "LoanDesk") (T := T_Desk) (N := 7) hx hb hg u_Desk hown hK hP 0 rfl rfl 0 (by decide) (hg _ k_109) (fun _ h9 => h9) rfl d_addMeet_31 ?_
        refine lv_iload_n hx hb d_addMeet_34 rfl (lv_at hl 2 rfl) ?_
        obtain ⟨r_5, e_5, hy1⟩ := ld_nm hy1
        refine ld_rd (W.runV (As := [.int v1.1]) (rest := [.int (r_3 &&& r_4)]) ⟨hx, hb, hml, hown, hg⟩ (lc_borrowing l D cI cZ cJ a G v1.1 r_5 e_5) ⟨callB_of 1 hg (ld_gd k_303) rfl rfl rfl (hg _ k_24) (hg _ k_300) hd_borrowing ⟨Nat.le_of_ble_eq_true rfl, Nat.le_of_ble_eq_true rfl⟩, hg _ k_301, hg _ k_302⟩ (ld_preRV hP hK hN [1, 2, 3, 4, 5, 6, 7] rfl 0 0 rfl rfl) rfl rfl hl.1 rfl (lv_room (Nat.le_of_ble_eq_true rfl)) d_addMeet_35 ⟨Nat.zero_le _, Nat.zero_le _⟩) ?_
        refine lv_iconst (v := (-1)) hx hb d_addMeet_38 (by decide) ?_
        refine lv_ixor hx hb d_addMeet_39 ?_
        refine lv_iand hx hb d_addMeet_40 ?_
        refine lv_istore_n (lv' := [(3, .int ((r_3 &&& r_4) &&& (r_5 ^^^ (-1)))), (0, .ref (a 0)), (1, .int p0), (2, .int v1.1)]) hx hb d_addMeet_41 rfl hl (by decide) rfl (fun ls hl => ?_)
        refine lv_iload_n hx hb d_addMeet_42 rfl (lv_at hl 0 rfl) ?_
        refine lv_if_eq (tgt := 67) hx hb d_addMeet_43 (by decide) (fun c_6 => ?_) (fun c_6 => ?_)
        · have hy1 := (if_pos c_6).symm.trans hy1
          refine lv_iinc (v := v1.1 + 1) (lv' := [(2, .int (v1.1 + 1)), (3, .int ((r_3 &&& r_4) &&& (r_5 ^^^ (-1)))), (0, .ref (a 0)), (1, .int p0)]) hx hb d_addMeet_67 hl (k := 3) rfl rfl (by decide) rfl (fun ls hl => ?_)
          refine lv_goto (tgt := 2) hx hb d_addMeet_70 (by decide) ?_
          obtain rfl := Option.some.inj hy1
          exact ih1 (v1.1 + 1, v1.2) _ _ _ g1 hP hD hS (lv_sub hl [2, 3, 0] rfl)
        · have hy1 := (if_neg c_6).symm.trans hy1
          refine lv_aload_n hx hb d_addMeet_46 rfl (lv_at hl 1 rfl) ?_
          refine va_get (D := D) (ci := 6) (v := .ref (a 1)) (C := "LoanDesk") (T := T_Desk) (N := 7) hx hb hg u_Desk hown hK hP 0 rfl rfl 0 (by decide) (hg _ k_109) (fun _ h9 => h9) rfl d_addMeet_47 ?_
          refine lv_iload_n hx hb d_addMeet_50 rfl (lv_at hl 3 rfl) ?_
          refine lv_iload_n hx hb d_addMeet_51 rfl (lv_at hl 2 rfl) ?_
          obtain ⟨r_7, e_7, hy1⟩ := ld_ob hy1
          refine ld_rd (W.runV (As := [.int v1.1, .int p0]) (rest := []) ⟨hx, hb, hml, hown, hg⟩ (lc_touches l D cI cZ cJ a G v1.1 p0 N r_7 e_7) ⟨callB_of 2 hg (ld_gd k_308) rfl rfl rfl (hg _ k_24) (hg _ k_305) hd_touches ⟨Nat.le_of_ble_eq_true rfl, Nat.le_of_ble_eq_true rfl⟩, hg _ k_306, hg _ k_307⟩ (ld_preRV hP hK hN [1, 2, 3, 4, 5, 6, 7] rfl 0 0 rfl rfl) rfl rfl hl.1 rfl (lv_room (Nat.le_of_ble_eq_true rfl)) d_addMeet_52 ⟨Nat.zero_le _, Nat.zero_le _⟩) ?_
          refine lv_if_eq (tgt := 67) hx hb d_addMeet_55 (by decide) (fun c_8 => ?_) (fun c_8 => ?_)
          · have hy1 := (if_pos c_8).symm.trans hy1
            refine lv_iinc (v := v1.1 + 1) (lv' := [(2, .int (v1.1 + 1)), (3, .int ((r_3 &&& r_4) &&& (r_5 ^^^ (-1)))), (0, .ref (a 0)), (1, .int p0)]) hx hb d_addMeet_67 hl (k := 3) rfl rfl (by decide) rfl (fun ls hl => ?_)
            refine lv_goto (tgt := 2) hx hb d_addMeet_70 (by decide) ?_
            obtain rfl := Option.some.inj hy1
            exact ih1 (v1.1 + 1, v1.2) _ _ _ g1 hP hD hS (lv_sub hl [2, 3, 0] rfl)
          · have hy1 := (if_neg c_8).symm.trans hy1
            refine lv_aload_n hx hb d_addMeet_58 rfl (lv_at hl 1 rfl) ?_
            refine va_get (D := D) (ci := 6) (v := .ref (a 21)) (C := "LoanDesk") (T := T_Desk) (N := 7) hx hb hg u_Desk hown hK hP 0 rfl rfl 4 (by decide) (hg _ k_113) (fun _ h9 => h9) rfl d_addMeet_59 ?_
            refine lv_iload_n hx hb d_addMeet_62 rfl (lv_at hl 3 rfl) ?_
            refine lv_iload_n hx hb d_addMeet_63 rfl (lv_at hl 2 rfl) ?_
            obtain ⟨r_9, e_9, hy1⟩ := ld_nm hy1
            refine ld_mv (wr := ([0, 1, 2, 3, 4, 5, 6, 7, 8, 9, 10, 11, 12] : List Nat).filterMap (fun i => (ld_dW a dk ++ ld_gW a cI G ++ ld_uW a cI u ++ ld_hW a cI hh ++ ld_mW a cJ v1.2)[i]?)) (ws2 := ld_dW a dk ++ ld_gW a cI G ++ ld_uW a cI u ++ ld_hW a cI hh ++ ld_mW a cJ r_9) (va_runV (As := [.int v1.1, .int p0]) (rest := []) ⟨hx, hb, hml, hown, hg⟩ (lc_madd l D cI cZ cJ a v1.2 v1.1 p0 _ r_9 e_9) ⟨callB_of 2 hg (ld_gd k_325) rfl rfl rfl (hg _ k_29) (hg _ k_322) hd_madd ⟨Nat.le_of_ble_eq_true rfl, Nat.le_of_ble_eq_true rfl⟩, hg _ k_323, hg _ k_324⟩ (ld_preMV hP hK hN hD [13, 14] (by decide) rfl 5 0 rfl rfl) rfl rfl hl.1 rfl (lv_room (Nat.le_of_ble_eq_true rfl)) d_addMeet_64 ⟨Nat.zero_le _, Nat.zero_le _⟩) hP hD hS hA [13, 14] [0, 1, 2, 3, 4, 5, 6, 7, 8, 9, 10, 11, 12] [0, 1, 2, 3, 4, 5, 6, 7, 8, 9, 10, 11, 12, 13, 14] rfl rfl (by decide) (by decide) (by decide) rfl (fun H locs hP hD hS => ?_)
            refine lv_iinc (v := v1.1 + 1) (lv' := [(2, .int (v1.1 + 1)), (3, .int ((r_3 &&& r_4) &&& (r_5 ^^^ (-1)))), (0, .ref (a 0)), (1, .int p0)]) hx hb d_addMeet_67 hl (k := 3) rfl rfl (by decide) rfl (fun ls hl => ?_)
            refine lv_goto (tgt := 2) hx hb d_addMeet_70 (by decide) ?_
            obtain rfl := Option.some.inj hy1
            exact ih1 (v1.1 + 1, r_9) _ _ _ g1 hP hD hS (lv_sub hl [2, 3, 0] rfl)
  exact key1 N (0, mw) _ _ _ eY1 hP hD hS (lv_sub hl [1, 2, 0] rfl)
def ls_findMeet_1 (N : Nat) (G : ld_gT) (v1 : Int32 × (Int32 × Int32) × (Nat → Int32) × ld_pT × (Nat → Int32) × ((Nat → Int32) × (Nat → Int32)) × ld_pT × (Nat → Int64)) : Option ((Int32 × (Int32 × Int32) × (Nat → Int32) × ld_pT × (Nat → Int32) × ((Nat → Int32) × (Nat → Int32)) × ld_pT × (Nat → Int64)) ⊕ (Int32 × (Int32 × Int32) × (Nat → Int32) × ld_pT × (Nat → Int32) × ((Nat → Int32) × (Nat → Int32)) × ld_pT × (Nat → Int64))) := ld_lt (lf_gsize G) (fun r_4 => if r_4 ≤ v1.1 then some (.inr (v1.1, v1.2.1, v1.2.2.1, v1.2.2.2.1, v1.2.2.2.2.1, v1.2.2.2.2.2.1, v1.2.2.2.2.2.2.1, v1.2.2.2.2.2.2.2)) else ld_lt (lf_isLoan G v1.1) (fun r_6 => if r_6 = 0 then some (.inl (v1.1 + 1, v1.2.1, v1.2.2.1, v1.2.2.2.1, v1.2.2.2.2.1, v1.2.2.2.2.2.1, v1.2.2.2.2.2.2.1, v1.2.2.2.2.2.2.2)) else ld_lt (lf_comesTo v1.2.2.1 v1.1) (fun r_8 => if r_8 = 0 then some (.inl (v1.1 + 1, v1.2.1, v1.2.2.1, v1.2.2.2.1, v1.2.2.2.2.1, v1.2.2.2.2.2.1, v1.2.2.2.2.2.2.1, v1.2.2.2.2.2.2.2)) else Option.bind (lm_follow N G v1.2.2.2.2.2.1 v1.2.2.2.2.2.2.1 v1.1) (fun r_10 => Option.bind (lm_addMeet N v1.2.1 G v1.2.2.2.2.1 r_10.1 v1.2.2.2.2.2.2.2 v1.1) (fun r_11 => some (.inl (v1.1 + 1, v1.2.1, v1.2.2.1, v1.2.2.2.1, v1.2.2.2.2.1, r_10.1, r_10.2, r_11)))))))
def lm_findMeet (N : Nat) (dk : Int32 × Int32) (G : ld_gT) (rc : Nat → Int32) (q : ld_pT) (u : Nat → Int32) (hh : (Nat → Int32) × (Nat → Int32)) (qq : ld_pT) (mw : Nat → Int64) : Option ((Int32 × Int32) × (Nat → Int32) × ld_pT × (Nat → Int32) × ((Nat → Int32) × (Nat → Int32)) × ld_pT × (Nat → Int64)) := if dk.2 = 0 then (Option.bind (lm_findWays N dk G rc q u) (fun r_2 => ld_lt (lf_mempty mw) (fun r_3 => Option.bind (ld_it (ls_findMeet_1 N G) N (0, r_2.1, r_2.2.1, r_2.2.2.1, r_2.2.2.2, hh, qq, r_3)) (fun Y1 => some ((Y1.2.1.1, 1), Y1.2.2.1, Y1.2.2.2.1, Y1.2.2.2.2.1, Y1.2.2.2.2.2.1, Y1.2.2.2.2.2.2.1, Y1.2.2.2.2.2.2.2))))) else some (dk, rc, q, u, hh, qq, mw)
set_option maxHeartbeats 4000000 in
set_option maxRecDepth 100000 in
theorem lc_findMeet (l : Launch) (D : va_G) (cI cZ cJ : ClassId) (a : Nat → Nat) (dk : Int32 × Int32) (G : ld_gT) (rc : Nat → Int32) (q : ld_pT) (u : Nat → Int32) (hh : (Nat → Int32) × (Nat → Int32)) (qq : ld_pT) (mw : Nat → Int64) (sz : Nat) (N : Nat) (R : (Int32 × Int32) × (Nat → Int32) × ld_pT × (Nat → Int32) × ((Nat → Int32) × (Nat → Int32)) × ld_pT × (Nat → Int64)) (h : lm_findMeet N dk G rc q u hh qq mw = some R) : Met l y_findMeet (Cond.code y_findMeet prog_1_method_18_code 2 none :: bgT) ({ frames := 5, cells := 0, slots := 0, locals := 112 }) (ld_PM D cI cZ cJ (ld_dW a dk ++ ld_gW a cI G ++ ld_rW a cI rc ++ ld_pW (a 10) (a 11) (a 12) cI cZ q ++ ld_uW a cI u ++ ld_hW a cI hh ++ ld_pW (a 18) (a 19) (a 20) cI cZ qq ++ ld_mW a cJ mw) sz [.ref (a 0)]) (ld_QV D (ld_dW a R.1 ++ ld_gW a cI G ++ ld_rW a cI R.2.1 ++ ld_pW (a 10) (a 11) (a 12) cI cZ R.2.2.1 ++ ld_uW a cI R.2.2.2.1 ++ ld_hW a cI R.2.2.2.2.1 ++ ld_pW (a 18) (a 19) (a 20) cI cZ R.2.2.2.2.2.1 ++ ld_mW a cJ R.2.2.2.2.2.2) (va_A (ld_dW a dk ++ ld_gW a cI G ++ ld_rW a cI rc ++ ld_pW (a 10) (a 11) (a 12) cI cZ q ++ ld_uW a cI u ++ ld_hW a cI hh ++ ld_pW (a 18) (a 19) (a 20) cI cZ qq ++ ld_mW a cJ mw) sz)) 0 0 ((va_A (ld_dW a dk ++ ld_gW a cI G ++ ld_rW a cI rc ++ ld_pW (a 10) (a 11) (a 12) cI cZ q ++ ld_uW a cI u ++ ld_hW a cI hh ++ ld_pW (a 18) (a 19) (a 20) cI cZ qq ++ ld_mW a cJ mw) sz)) := by
  refine Met.ofW (cc := prog_1_method_18_code) (maxL := 2) (ret := none) (by decide) rfl ?_
  intro p e s m args below meth c s₁ B hml hv
  obtain ⟨rfl, hsz, hP, hK, hD0, hN⟩ := hv
  have hx := B.exec
  have hb := B.bytes
  have hr := B.returns
  have hg : ∀ w ∈ bgT, w.before _ s = true := fun w h => atoms_spec (ws := (Cond.code y_findMeet prog_1_method_18_code 2 none :: bgT)) B.pre w (List.mem_cons_of_mem _ h)
  have hown : s.vm.findClass "LoanDesk" = some m.cls := findClass_of_methodNamed B.named
  have hlocks := B.notSynchronized
  subst hsz
  have hD := hD0.self (sz := s.heap.size)
  generalize hAe : va_A (ld_dW a dk ++ ld_gW a cI G ++ ld_rW a cI rc ++ ld_pW (a 10) (a 11) (a 12) cI cZ q ++ ld_uW a cI u ++ ld_hW a cI hh ++ ld_pW (a 18) (a 19) (a 20) cI cZ qq ++ ld_mW a cJ mw) s.heap.size = A at hD ⊢
  have hA : ∀ q : Nat, s.heap.size ≤ q → A q := fun q h => by rw [← hAe]; exact Or.inr h
  have hS : va_S A s.heap s.heap [] := va_S.rf
  have hl := lv_entry ([.ref (a 0)]) (n := 2) (Nat.le_of_ble_eq_true rfl)
  rw [lg_entry_eq]
  generalize (lg_sl ([.ref (a 0)]) ++ List.replicate (2 - (lg_sl ([.ref (a 0)])).length) Slot.unset).toArray = ls at hl ⊢
  have hl : lv_has ls 2 [(0, .ref (a 0))] := hl
  refine lv_aload_n hx hb d_findMeet_0 rfl (lv_at hl 0 rfl) ?_
  refine va_get (D := D) (ci := 6) (v := .int dk.2) (C := "LoanDesk") (T := T_Desk) (N := 7) hx hb hg u_Desk hown hK hP 0 rfl rfl 6 (by decide) (hg _ k_115) (fun _ h9 => h9) rfl d_findMeet_1 ?_
  refine lv_if_eq (tgt := 8) hx hb d_findMeet_4 (by decide) (fun c_1 => ?_) (fun c_1 => ?_)
  · have h := (if_pos c_1).symm.trans h
    refine lv_aload_n hx hb d_findMeet_8 rfl (lv_at hl 0 rfl) ?_
    obtain ⟨r_2, e_2, h⟩ := ld_ob h
    refine ld_mv (wr := ([15, 16, 17, 18, 19, 20, 21, 22] : List Nat).filterMap (fun i => (ld_dW a dk ++ ld_gW a cI G ++ ld_rW a cI rc ++ ld_pW (a 10) (a 11) (a 12) cI cZ q ++ ld_uW a cI u ++ ld_hW a cI hh ++ ld_pW (a 18) (a 19) (a 20) cI cZ qq ++ ld_mW a cJ mw)[i]?)) (ws2 := ld_dW a r_2.1 ++ ld_gW a cI G ++ ld_rW a cI r_2.2.1 ++ ld_pW (a 10) (a 11) (a 12) cI cZ r_2.2.2.1 ++ ld_uW a cI r_2.2.2.2 ++ ld_hW a cI hh ++ ld_pW (a 18) (a 19) (a 20) cI cZ qq ++ ld_mW a cJ mw) (va_runV (As := []) (rest := []) ⟨hx, hb, hml, hown, hg⟩ (lc_findWays l D cI cZ cJ a dk G rc q u _ N r_2 e_2) ⟨callB_of 0 hg (ld_gd k_173) rfl rfl rfl (hg _ k_23) (hg _ k_171) hd_findWays ⟨Nat.le_of_ble_eq_true rfl, Nat.le_of_ble_eq_true rfl⟩, hg _ k_172, hg _ k_1⟩ (ld_preMV hP hK hN hD [0, 1, 2, 3, 4, 5, 6, 7, 8, 9, 10, 11, 12, 13, 14] (by decide) rfl 6 0 rfl rfl) rfl rfl hl.1 rfl (lv_room (Nat.le_of_ble_eq_true rfl)) d_findMeet_9 ⟨Nat.zero_le _, Nat.zero_le _⟩) hP hD hS hA [0, 1, 2, 3, 4, 5, 6, 7, 8, 9, 10, 11, 12, 13, 14] [15, 16, 17, 18, 19, 20, 21, 22] [8, 9, 10, 11, 12, 13, 14, 15, 16, 17, 18, 19, 20, 21, 22, 0, 1, 2, 3, 4, 5, 6, 7] rfl rfl (by decide) (by decide) (by decide) rfl (fun H locs hP hD hS => ?_)
    refine lv_aload_n hx hb d_findMeet_12 rfl (lv_at hl 0 rfl) ?_
    refine va_get (D := D) (ci := 6) (v := .ref (a 21)) (C := "LoanDesk") (T := T_Desk) (N := 7) hx hb hg u_Desk hown hK hP 0 rfl rfl 4 (by decide) (hg _ k_113) (fun _ h9 => h9) rfl d_findMeet_13 ?_
    obtain ⟨r_3, e_3, h⟩ := ld_nm h
    refine ld_mv (wr := ([0, 1, 2, 3, 4, 5, 6, 7, 8, 9, 10, 11, 12, 13, 14, 15, 16, 17, 18, 19, 20] : List Nat).filterMap (fun i => (ld_dW a r_2.1 ++ ld_gW a cI G ++ ld_rW a cI r_2.2.1 ++ ld_pW (a 10) (a 11) (a 12) cI cZ r_2.2.2.1 ++ ld_uW a cI r_2.2.2.2 ++ ld_hW a cI hh ++ ld_pW (a 18) (a 19) (a 20) cI cZ qq ++ ld_mW a cJ mw)[i]?)) (ws2 := ld_dW a r_2.1 ++ ld_gW a cI G ++ ld_rW a cI r_2.2.1 ++ ld_pW (a 10) (a 11) (a 12) cI cZ r_2.2.2.1 ++ ld_uW a cI r_2.2.2.2 ++ ld_hW a cI hh ++ ld_pW (a 18) (a 19) (a 20) cI cZ qq ++ ld_mW a cJ r_3) (va_runV (As := []) (rest := []) ⟨hx, hb, hml, hown, hg⟩ (lc_mempty l D cI cZ cJ a mw _ r_3 e_3) ⟨callB_of 0 hg (ld_gd k_292) rfl rfl rfl (hg _ k_29) (hg _ k_289) hd_mempty ⟨Nat.le_of_ble_eq_true rfl, Nat.le_of_ble_eq_true rfl⟩, hg _ k_290, hg _ k_291⟩ (ld_preMV hP hK hN hD [21, 22] (by decide) rfl 5 0 rfl rfl) rfl rfl hl.1 rfl (lv_room (Nat.le_of_ble_eq_true rfl)) d_findMeet_16 ⟨Nat.zero_le _, Nat.zero_le _⟩) hP hD hS hA [21, 22] [0, 1, 2, 3, 4, 5, 6, 7, 8, 9, 10, 11, 12, 13, 14, 15, 16, 17, 18, 19, 20] [0, 1, 2, 3, 4, 5, 6, 7, 8, 9, 10, 11, 12, 13, 14, 15, 16, 17, 18, 19, 20, 21, 22] rfl rfl (by decide) (by decide) (by decide) rfl (fun H locs hP hD hS => ?_)
    refine lv_iconst (v := 0) hx hb d_findMeet_19 (by decide) ?_
    refine lv_istore_n (lv' := [(1, .int 0), (0, .ref (a 0))]) hx hb d_findMeet_20 rfl hl (by decide) rfl (fun ls hl => ?_)
    obtain ⟨Y1, eY1, h⟩ := ld_ob h
    have kont1 : ∀ (H : Heap) (locs : List Loc) (ls : Array Slot), va_P D vwCl (ld_dW a Y1.2.1 ++ ld_gW a cI G ++ ld_rW a cI Y1.2.2.1 ++ ld_pW (a 10) (a 11) (a 12) cI cZ Y1.2.2.2.1 ++ ld_uW a cI Y1.2.2.2.2.1 ++ ld_hW a cI Y1.2.2.2.2.2.1 ++ ld_pW (a 18) (a 19) (a 20) cI cZ Y1.2.2.2.2.2.2.1 ++ ld_mW a cJ Y1.2.2.2.2.2.2.2) H → va_D A (ld_dW a Y1.2.1 ++ ld_gW a cI G ++ ld_rW a cI Y1.2.2.1 ++ ld_pW (a 10) (a 11) (a 12) cI cZ Y1.2.2.2.1 ++ ld_uW a cI Y1.2.2.2.2.1 ++ ld_hW a cI Y1.2.2.2.2.2.1 ++ ld_pW (a 18) (a 19) (a 20) cI cZ Y1.2.2.2.2.2.2.1 ++ ld_mW a cJ Y1.2.2.2.2.2.2.2) → va_S A s.heap H locs → lv_has ls 2 [(0, .ref (a 0))] → W p l e (headSpec (Cond.code y_findMeet prog_1_method_18_code 2 none :: bgT) ({ frames := 5, cells := 0, slots := 0, locals := 112 })).room s m ([.ref (a 0)] : List Value).toArray below meth c H locs 0 0 (MQ below (ld_QV D (ld_dW a R.1 ++ ld_gW a cI G ++ ld_rW a cI R.2.1 ++ ld_pW (a 10) (a 11) (a 12) cI cZ R.2.2.1 ++ ld_uW a cI R.2.2.2.1 ++ ld_hW a cI R.2.2.2.2.1 ++ ld_pW (a 18) (a 19) (a 20) cI cZ R.2.2.2.2.2.1 ++ ld_mW a cJ R.2.2.2.2.2.2) A) ([.ref (a 0)] : List Value).toArray s 0 0 (A)) (F0 m 77 ls []) := by
      intro H locs ls hP hD hS hl
      refine lv_aload_n hx hb d_findMeet_77 rfl (lv_at hl 0 rfl) ?_
      refine lv_iconst (v := 1) hx hb d_findMeet_78 (by decide) ?_
      refine va_put (D := D) (ci := 6) (v := .int 1) (ty := .boolean) (C := "LoanDesk") (T := T_Desk) (N := 7) hx hb hg u_Desk t_Desk tk_Desk n_Desk hown hK hP hD hS 0 rfl rfl 6 (by decide) (hg _ k_115) (fun _ h9 => h9) rfl (by decide +kernel) rfl rfl (Nat.le_of_ble_eq_true rfl) d_findMeet_79 (fun H locs hP hD hS => ?_)
      have hP : va_P D vwCl (ld_dW a (Y1.2.1.1, 1) ++ ld_gW a cI G ++ ld_rW a cI Y1.2.2.1 ++ ld_pW (a 10) (a 11) (a 12) cI cZ Y1.2.2.2.1 ++ ld_uW a cI Y1.2.2.2.2.1 ++ ld_hW a cI Y1.2.2.2.2.2.1 ++ ld_pW (a 18) (a 19) (a 20) cI cZ Y1.2.2.2.2.2.2.1 ++ ld_mW a cJ Y1.2.2.2.2.2.2.2) H := hP
      have hD : va_D A (ld_dW a (Y1.2.1.1, 1) ++ ld_gW a cI G ++ ld_rW a cI Y1.2.2.1 ++ ld_pW (a 10) (a 11) (a 12) cI cZ Y1.2.2.2.1 ++ ld_uW a cI Y1.2.2.2.2.1 ++ ld_hW a cI Y1.2.2.2.2.2.1 ++ ld_pW (a 18) (a 19) (a 20) cI cZ Y1.2.2.2.2.2.2.1 ++ ld_mW a cJ Y1.2.2.2.2.2.2.2) := hD
      have h := Option.some.inj h
      subst h
      exact W.vret hx hb hr (fun t ht hW => ⟨⟨(), rfl, trivial, by rw [ht]; exact hP, hD⟩, hS.F ht⟩) hS.2.2 d_findMeet_82
    have key1 : ∀ (n : Nat) (v1 : Int32 × (Int32 × Int32) × (Nat → Int32) × ld_pT × (Nat → Int32) × ((Nat → Int32) × (Nat → Int32)) × ld_pT × (Nat → Int64)) (H : Heap) (locs : List Loc) (ls : Array Slot), ld_it (ls_findMeet_1 N G) n v1 = some Y1 → va_P D vwCl (ld_dW a v1.2.1 ++ ld_gW a cI G ++ ld_rW a cI v1.2.2.1 ++ ld_pW (a 10) (a 11) (a 12) cI cZ v1.2.2.2.1 ++ ld_uW a cI v1.2.2.2.2.1 ++ ld_hW a cI v1.2.2.2.2.2.1 ++ ld_pW (a 18) (a 19) (a 20) cI cZ v1.2.2.2.2.2.2.1 ++ ld_mW a cJ v1.2.2.2.2.2.2.2) H → va_D A (ld_dW a v1.2.1 ++ ld_gW a cI G ++ ld_rW a cI v1.2.2.1 ++ ld_pW (a 10) (a 11) (a 12) cI cZ v1.2.2.2.1 ++ ld_uW a cI v1.2.2.2.2.1 ++ ld_hW a cI v1.2.2.2.2.2.1 ++ ld_pW (a 18) (a 19) (a 20) cI cZ v1.2.2.2.2.2.2.1 ++ ld_mW a cJ v1.2.2.2.2.2.2.2) → va_S A s.heap H locs → lv_has ls 2 [(0, .ref (a 0)), (1, .int v1.1)] → W p l e (headSpec (Cond.code y_findMeet prog_1_method_18_code 2 none :: bgT) ({ frames := 5, cells := 0, slots := 0, locals := 112 })).room s m ([.ref (a 0)] : List Value).toArray below meth c H locs 0 0 (MQ below (ld_QV D (ld_dW a R.1 ++ ld_gW a cI G ++ ld_rW a cI R.2.1 ++ ld_pW (a 10) (a 11) (a 12) cI cZ R.2.2.1 ++ ld_uW a cI R.2.2.2.1 ++ ld_hW a cI R.2.2.2.2.1 ++ ld_pW (a 18) (a 19) (a 20) cI cZ R.2.2.2.2.2.1 ++ ld_mW a cJ R.2.2.2.2.2.2) A) ([.ref (a 0)] : List Value).toArray s 0 0 (A)) (F0 m 21 ls []) := by
      intro n
      induction n with
      | zero => intro v1 H locs ls g1 hP hD hS hl; cases g1
      | succ n ih1 =>
        intro v1 H locs ls g1 hP hD hS hl
        obtain ⟨z1, hy1, g1⟩ := ld_its g1
        refine lv_iload_n hx hb d_findMeet_21 rfl (lv_at hl 1 rfl) ?_
        refine lv_aload_n hx hb d_findMeet_22 rfl (lv_at hl 0 rfl) ?_
        refine va_get (D := D) (ci := 6) (v := .ref (a 1)) (C := "LoanDesk") (T := T_Desk) (N := 7) hx hb hg u_Desk hown hK hP 0 rfl rfl 0 (by decide) (hg _ k_109) (fun _ h9 => h9) rfl d_findMeet_23 ?_
        obtain ⟨r_4, e_4, hy1⟩ := ld_nm hy1
        refine ld_rd (W.runV (As := []) (rest := [.int v1.1]) ⟨hx, hb, hml, hown, hg⟩ (lc_gsize l D cI cZ cJ a G r_4 e_4) ⟨callB_of 0 hg (ld_gd k_220) rfl rfl rfl (hg _ k_24) (hg _ k_296) hd_gsize ⟨Nat.le_of_ble_eq_true rfl, Nat.le_of_ble_eq_true rfl⟩, hg _ k_218, hg _ k_219⟩ (ld_preRV hP hK hN [1, 2, 3, 4, 5, 6, 7] rfl 0 0 rfl rfl) rfl rfl hl.1 rfl (lv_room (Nat.le_of_ble_eq_true rfl)) d_findMeet_26 ⟨Nat.zero_le _, Nat.zero_le _⟩) ?_
        refine lv_icmp_ge (tgt := 77) hx hb d_findMeet_29 (by decide) (fun c_5 => ?_) (fun c_5 => ?_)
        · have hy1 := (if_pos c_5).symm.trans hy1
          obtain rfl := Option.some.inj hy1
          obtain rfl := Option.some.inj g1
          exact kont1 _ _ _ hP hD hS (lv_sub hl [0] rfl)
        · have hy1 := (if_neg c_5).symm.trans hy1
          refine lv_aload_n hx hb d_findMeet_32 rfl (lv_at hl 0 rfl) ?_
          refine va_get (D := D) (ci := 6) (v := .ref (a 1)) (C := "LoanDesk") (T := T_Desk) (N := 7) hx hb hg u_Desk hown hK hP 0 rfl rfl 0 (by decide) (hg _ k_109) (fun _ h9 => h9) rfl d_findMeet_33 ?_
          refine lv_iload_n hx hb d_findMeet_36 rfl (lv_at hl 1 rfl) ?_
          obtain ⟨r_6, e_6, hy1⟩ := ld_nm hy1
          refine ld_rd (W.runV (As := [.int v1.1]) (rest := []) ⟨hx, hb, hml, hown, hg⟩ (lc_isLoan l D cI cZ cJ a G v1.1 r_6 e_6) ⟨callB_of 1 hg (ld_gd k_242) rfl rfl rfl (hg _ k_24) (hg _ k_239) hd_isLoan ⟨Nat.le_of_ble_eq_true rfl, Nat.le_of_ble_eq_true rfl⟩, hg _ k_240, hg _ k_241⟩ (ld_preRV hP hK hN [1, 2, 3, 4, 5, 6, 7] rfl 0 0 rfl rfl) rfl rfl hl.1 rfl (lv_room (Nat.le_of_ble_eq_true rfl)) d_findMeet_37 ⟨Nat.zero_le _, Nat.zero_le _⟩) ?_
          refine lv_if_eq (tgt := 71) hx hb d_findMeet_40 (by decide) (fun c_7 => ?_) (fun c_7 => ?_)
          · have hy1 := (if_pos c_7).symm.trans hy1
            refine lv_iinc (v := v1.1 + 1) (lv' := [(1, .int (v1.1 + 1)), (0, .ref (a 0))]) hx hb d_findMeet_71 hl (k := 1) rfl rfl (by decide) rfl (fun ls hl => ?_)
            refine lv_goto (tgt := 21) hx hb d_findMeet_74 (by decide) ?_
            obtain rfl := Option.some.inj hy1
            exact ih1 (v1.1 + 1, v1.2.1, v1.2.2.1, v1.2.2.2.1, v1.2.2.2.2.1, v1.2.2.2.2.2.1, v1.2.2.2.2.2.2.1, v1.2.2.2.2.2.2.2) _ _ _ g1 hP hD hS (lv_sub hl [1, 0] rfl)
          · have hy1 := (if_neg c_7).symm.trans hy1
            refine lv_aload_n hx hb d_findMeet_43 rfl (lv_at hl 0 rfl) ?_
            refine va_get (D := D) (ci := 6) (v := .ref (a 8)) (C := "LoanDesk") (T := T_Desk) (N := 7) hx hb hg u_Desk hown hK hP 0 rfl rfl 1 (by decide) (hg _ k_110) (fun _ h9 => h9) rfl d_findMeet_44 ?_
            refine lv_iload_n hx hb d_findMeet_47 rfl (lv_at hl 1 rfl) ?_
            obtain ⟨r_8, e_8, hy1⟩ := ld_nm hy1
            refine ld_rd (W.runV (As := [.int v1.1]) (rest := []) ⟨hx, hb, hml, hown, hg⟩ (lc_comesTo l D cI cZ cJ a v1.2.2.1 v1.1 r_8 e_8) ⟨callB_of 1 hg (ld_gd k_188) rfl rfl rfl (hg _ k_25) (hg _ k_234) hd_comesTo ⟨Nat.le_of_ble_eq_true rfl, Nat.le_of_ble_eq_true rfl⟩, hg _ k_186, hg _ k_187⟩ (ld_preRV hP hK hN [8, 9] rfl 2 0 rfl rfl) rfl rfl hl.1 rfl (lv_room (Nat.le_of_ble_eq_true rfl)) d_findMeet_48 ⟨Nat.zero_le _, Nat.zero_le _⟩) ?_
            refine lv_if_eq (tgt := 71) hx hb d_findMeet_51 (by decide) (fun c_9 => ?_) (fun c_9 => ?_)
            · have hy1 := (if_pos c_9).symm.trans hy1
              refine lv_iinc (v := v1.1 + 1) (lv' := [(1, .int (v1.1 + 1)), (0, .ref (a 0))]) hx hb d_findMeet_71 hl (k := 1) rfl rfl (by decide) rfl (fun ls hl => ?_)
              refine lv_goto (tgt := 21) hx hb d_findMeet_74 (by decide) ?_
              obtain rfl := Option.some.inj hy1
              exact ih1 (v1.1 + 1, v1.2.1, v1.2.2.1, v1.2.2.2.1, v1.2.2.2.2.1, v1.2.2.2.2.2.1, v1.2.2.2.2.2.2.1, v1.2.2.2.2.2.2.2) _ _ _ g1 hP hD hS (lv_sub hl [1, 0] rfl)
            · have hy1 := (if_neg c_9).symm.trans hy1
              refine lv_aload_n hx hb d_findMeet_54 rfl (lv_at hl 0 rfl) ?_
              refine va_get (D := D) (ci := 6) (v := .ref (a 15)) (C := "LoanDesk") (T := T_Desk) (N := 7) hx hb hg u_Desk hown hK hP 0 rfl rfl 3 (by decide) (hg _ k_112) (fun _ h9 => h9) rfl d_findMeet_55 ?_
              refine lv_aload_n hx hb d_findMeet_58 rfl (lv_at hl 0 rfl) ?_
              refine va_get (D := D) (ci := 6) (v := .ref (a 1)) (C := "LoanDesk") (T := T_Desk) (N := 7) hx hb hg u_Desk hown hK hP 0 rfl rfl 0 (by decide) (hg _ k_109) (fun _ h9 => h9) rfl d_findMeet_59 ?_
              refine lv_iload_n hx hb d_findMeet_62 rfl (lv_at hl 1 rfl) ?_
              obtain ⟨r_10, e_10, hy1⟩ := ld_ob hy1
              refine ld_mv (wr := ([0, 8, 9, 10, 11, 12, 13, 14, 21, 22] : List Nat).filterMap (fun i => (ld_dW a v1.2.1 ++ ld_gW a cI G ++ ld_rW a cI v1.2.2.1 ++ ld_pW (a 10) (a 11) (a 12) cI cZ v1.2.2.2.1 ++ ld_uW a cI v1.2.2.2.2.1 ++ ld_hW a cI v1.2.2.2.2.2.1 ++ ld_pW (a 18) (a 19) (a 20) cI cZ v1.2.2.2.2.2.2.1 ++ ld_mW a cJ v1.2.2.2.2.2.2.2)[i]?)) (ws2 := ld_dW a v1.2.1 ++ ld_gW a cI G ++ ld_rW a cI v1.2.2.1 ++ ld_pW (a 10) (a 11) (a 12) cI cZ v1.2.2.2.1 ++ ld_uW a cI v1.2.2.2.2.1 ++ ld_hW a cI r_10.1 ++ ld_pW (a 18) (a 19) (a 20) cI cZ r_10.2 ++ ld_mW a cJ v1.2.2.2.2.2.2.2) (va_runV (As := [.ref (a 1), .int v1.1]) (rest := []) ⟨hx, hb, hml, hown, hg⟩ (lc_follow l D cI cZ cJ a G v1.2.2.2.2.2.1 v1.2.2.2.2.2.2.1 v1.1 _ N r_10 e_10) ⟨callB_of 2 hg (ld_gd k_246) rfl rfl rfl (hg _ k_28) (hg _ k_243) hd_follow ⟨Nat.le_of_ble_eq_true rfl, Nat.le_of_ble_eq_true rfl⟩, hg _ k_244, hg _ k_245⟩ (ld_preMV hP hK hN hD [1, 2, 3, 4, 5, 6, 7, 15, 16, 17, 18, 19, 20] (by decide) rfl 4 7 rfl rfl) rfl rfl hl.1 rfl (lv_room (Nat.le_of_ble_eq_true rfl)) d_findMeet_63 ⟨Nat.zero_le _, Nat.zero_le _⟩) hP hD hS hA [1, 2, 3, 4, 5, 6, 7, 15, 16, 17, 18, 19, 20] [0, 8, 9, 10, 11, 12, 13, 14, 21, 22] [0, 10, 11, 12, 13, 14, 15, 16, 1, 2, 3, 4, 5, 6, 7, 17, 18, 19, 20, 21, 22, 8, 9] rfl rfl (by decide) (by decide) (by decide) rfl (fun H locs hP hD hS => ?_)
              refine lv_aload_n hx hb d_findMeet_66 rfl (lv_at hl 0 rfl) ?_
              refine lv_iload_n hx hb d_findMeet_67 rfl (lv_at hl 1 rfl) ?_
              obtain ⟨r_11, e_11, hy1⟩ := ld_ob hy1
              refine ld_mv (wr := ([8, 9, 10, 11, 12, 18, 19, 20] : List Nat).filterMap (fun i => (ld_dW a v1.2.1 ++ ld_gW a cI G ++ ld_rW a cI v1.2.2.1 ++ ld_pW (a 10) (a 11) (a 12) cI cZ v1.2.2.2.1 ++ ld_uW a cI v1.2.2.2.2.1 ++ ld_hW a cI r_10.1 ++ ld_pW (a 18) (a 19) (a 20) cI cZ r_10.2 ++ ld_mW a cJ v1.2.2.2.2.2.2.2)[i]?)) (ws2 := ld_dW a v1.2.1 ++ ld_gW a cI G ++ ld_rW a cI v1.2.2.1 ++ ld_pW (a 10) (a 11) (a 12) cI cZ v1.2.2.2.1 ++ ld_uW a cI v1.2.2.2.2.1 ++ ld_hW a cI r_10.1 ++ ld_pW (a 18) (a 19) (a 20) cI cZ r_10.2 ++ ld_mW a cJ r_11) (va_runV (As := [.int v1.1]) (rest := []) ⟨hx, hb, hml, hown, hg⟩ (lc_addMeet l D cI cZ cJ a v1.2.1 G v1.2.2.2.2.1 r_10.1 v1.2.2.2.2.2.2.2 v1.1 _ N r_11 e_11) ⟨callB_of 1 hg (ld_gd k_299) rfl rfl rfl (hg _ k_23) (hg _ k_297) hd_addMeet ⟨Nat.le_of_ble_eq_true rfl, Nat.le_of_ble_eq_true rfl⟩, hg _ k_298, hg _ k_7⟩ (ld_preMV hP hK hN hD [0, 1, 2, 3, 4, 5, 6, 7, 13, 14, 15, 16, 17, 21, 22] (by decide) rfl 6 0 rfl rfl) rfl rfl hl.1 rfl (lv_room (Nat.le_of_ble_eq_true rfl)) d_findMeet_68 ⟨Nat.zero_le _, Nat.zero_le _⟩) hP hD hS hA [0, 1, 2, 3, 4, 5, 6, 7, 13, 14, 15, 16, 17, 21, 22] [8, 9, 10, 11, 12, 18, 19, 20] [8, 9, 10, 11, 12, 13, 14, 15, 0, 1, 2, 3, 4, 16, 17, 18, 19, 20, 5, 6, 7, 21, 22] rfl rfl (by decide) (by decide) (by decide) rfl (fun H locs hP hD hS => ?_)
              refine lv_iinc (v := v1.1 + 1) (lv' := [(1, .int (v1.1 + 1)), (0, .ref (a 0))]) hx hb d_findMeet_71 hl (k := 1) rfl rfl (by decide) rfl (fun ls hl => ?_)
              refine lv_goto (tgt := 21) hx hb d_findMeet_74 (by decide) ?_
              obtain rfl := Option.some.inj hy1
              exact ih1 (v1.1 + 1, v1.2.1, v1.2.2.1, v1.2.2.2.1, v1.2.2.2.2.1, r_10.1, r_10.2, r_11) _ _ _ g1 hP hD hS (lv_sub hl [1, 0] rfl)
    exact key1 N (0, r_2.1, r_2.2.1, r_2.2.2.1, r_2.2.2.2, hh, qq, r_3) _ _ _ eY1 hP hD hS (lv_sub hl [1, 0] rfl)
  · have h := (if_neg c_1).symm.trans h
    have h := Option.some.inj h
    subst h
    exact W.vret hx hb hr (fun t ht hW => ⟨⟨(), rfl, trivial, by rw [ht]; exact hP, hD⟩, hS.F ht⟩) hS.2.2 d_findMeet_7
