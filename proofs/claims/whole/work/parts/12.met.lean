def lf_withHolder (p0 : Int32) (p1 : Int32) (p2 : Int32) : Int32 := if p2 = 0 then p0 &&& (((1 : Int32) <<< (p1 &&& 31)) ^^^ (-1)) else p0 ||| ((1 : Int32) <<< (p1 &&& 31))
set_option maxHeartbeats 4000000 in
set_option maxRecDepth 100000 in
theorem lc_withHolder (l : Launch) (D : va_G) (cI cZ cJ : ClassId)  (p0 : Int32) (p1 : Int32) (p2 : Int32) (R : Int32) (h : lf_withHolder p0 p1 p2 = R) : Met l y_withHolder (Cond.code y_withHolder prog_2_method_13_code 4 (some .int) :: bgT) ({ frames := 0, cells := 0, slots := 0, locals := 0 }) (ld_PR D cI cZ cJ ([]) [.int p0, .int p1, .int p2]) (vp_Si (fun z => z = R)) 0 0 (fun _ => False) := by
  refine Met.ofW (cc := prog_2_method_13_code) (maxL := 4) (ret := (some .int)) (by decide) rfl ?_
  intro p e s m args below meth c s₁ B hml hv
  obtain ⟨rfl, hP, hK, hN⟩ := hv
  have hx := B.exec
  have hb := B.bytes
  have hr := B.returns
  have hg : ∀ w ∈ bgT, w.before _ s = true := fun w h => atoms_spec (ws := (Cond.code y_withHolder prog_2_method_13_code 4 (some .int) :: bgT)) B.pre w (List.mem_cons_of_mem _ h)
  have hown : s.vm.findClass "LoanDesk$Graph" = some m.cls := findClass_of_methodNamed B.named
  have hlocks := B.notSynchronized
  have hl := lv_entry ([.int p0, .int p1, .int p2]) (n := 4) (Nat.le_of_ble_eq_true rfl)
  rw [lg_entry_eq]
  generalize (lg_sl ([.int p0, .int p1, .int p2]) ++ List.replicate (4 - (lg_sl ([.int p0, .int p1, .int p2])).length) Slot.unset).toArray = ls at hl ⊢
  have hl : lv_has ls 4 [(0, .int p0), (1, .int p1), (2, .int p2)] := hl
  refine lv_iconst (v := 1) hx hb d_withHolder_0 (by decide) ?_
  refine lv_iload_n hx hb d_withHolder_1 rfl (lv_at hl 1 rfl) ?_
  refine lv_ishl hx hb d_withHolder_2 ?_
  refine lv_istore_n (lv' := [(3, .int ((1 : Int32) <<< (p1 &&& 31))), (0, .int p0), (1, .int p1), (2, .int p2)]) hx hb d_withHolder_3 rfl hl (by decide) rfl (fun ls hl => ?_)
  refine lv_iload_n hx hb d_withHolder_4 rfl (lv_at hl 3 rfl) ?_
  refine lv_if_eq (tgt := 14) hx hb d_withHolder_5 (by decide) (fun c_1 => ?_) (fun c_1 => ?_)
  · have h := (if_pos c_1).symm.trans h
    refine lv_iload_n hx hb d_withHolder_14 rfl (lv_at hl 1 rfl) ?_
    refine lv_iload_n hx hb d_withHolder_15 rfl (lv_at hl 0 rfl) ?_
    refine lv_iconst (v := (-1)) hx hb d_withHolder_16 (by decide) ?_
    refine lv_ixor hx hb d_withHolder_17 ?_
    refine lv_iand hx hb d_withHolder_18 ?_
    exact W.iret (v := p0 &&& (((1 : Int32) <<< (p1 &&& 31)) ^^^ (-1))) hx hb hr (fun t ht hW => ⟨_, rfl, h, ht⟩) (fun _ q => by cases q) d_withHolder_19
  · have h := (if_neg c_1).symm.trans h
    refine lv_iload_n hx hb d_withHolder_8 rfl (lv_at hl 1 rfl) ?_
    refine lv_iload_n hx hb d_withHolder_9 rfl (lv_at hl 0 rfl) ?_
    refine lv_ior hx hb d_withHolder_10 ?_
    refine lv_goto (tgt := 19) hx hb d_withHolder_11 (by decide) ?_
    exact W.iret (v := p0 ||| ((1 : Int32) <<< (p1 &&& 31))) hx hb hr (fun t ht hW => ⟨_, rfl, h, ht⟩) (fun _ q => by cases q) d_withHolder_19
def lf_heldBehind (G : ld_gT) (p0 : Int32) (p1 : Int32) (p2 : Int32) : Int32 := ld_lt (lf_isPoint G p0) (fun r_1 => if r_1 = 0 then 0 else if (G.1 p0.toNatClampNeg) = 1 then (if p0 = p1 then ld_lt (lf_withHolder p2 (G.2.1 p0.toNatClampNeg) 1) (fun r_6 => r_6) else ld_lt (lf_withHolder p2 (G.2.1 p0.toNatClampNeg) 0) (fun r_5 => r_5)) else (if (G.1 p0.toNatClampNeg) = 2 then (if (p2 &&& ((1 : Int32) <<< ((G.2.2.1 p0.toNatClampNeg) &&& 31))) = 0 then ld_lt (lf_withHolder p2 (G.2.1 p0.toNatClampNeg) 0) (fun r_9 => r_9) else ld_lt (lf_withHolder p2 (G.2.1 p0.toNatClampNeg) 1) (fun r_10 => r_10)) else (if (G.1 p0.toNatClampNeg) = 3 then ld_lt (lf_withHolder p2 (G.2.1 p0.toNatClampNeg) 0) (fun r_12 => r_12) else p2)))
set_option maxHeartbeats 4000000 in
set_option maxRecDepth 100000 in
theorem lc_heldBehind (l : Launch) (D : va_G) (cI cZ cJ : ClassId) (a : Nat → Nat) (G : ld_gT) (p0 : Int32) (p1 : Int32) (p2 : Int32) (R : Int32) (h : lf_heldBehind G p0 p1 p2 = R) : Met l y_heldBehind (Cond.code y_heldBehind prog_2_method_12_code 4 (some .int) :: bgT) ({ frames := 1, cells := 0, slots := 0, locals := 23 }) (ld_PR D cI cZ cJ (ld_gW a cI G) [.ref (a 1), .int p0, .int p1, .int p2]) (vp_Si (fun z => z = R)) 0 0 (fun _ => False) := by
  refine Met.ofW (cc := prog_2_method_12_code) (maxL := 4) (ret := (some .int)) (by decide) rfl ?_
  intro p e s m args below meth c s₁ B hml hv
  obtain ⟨rfl, hP, hK, hN⟩ := hv
  have hx := B.exec
  have hb := B.bytes
  have hr := B.returns
  have hg : ∀ w ∈ bgT, w.before _ s = true := fun w h => atoms_spec (ws := (Cond.code y_heldBehind prog_2_method_12_code 4 (some .int) :: bgT)) B.pre w (List.mem_cons_of_mem _ h)
  have hown : s.vm.findClass "LoanDesk$Graph" = some m.cls := findClass_of_methodNamed B.named
  have hlocks := B.notSynchronized
  have hl := lv_entry ([.ref (a 1), .int p0, .int p1, .int p2]) (n := 4) (Nat.le_of_ble_eq_true rfl)
  rw [lg_entry_eq]
  generalize (lg_sl ([.ref (a 1), .int p0, .int p1, .int p2]) ++ List.replicate (4 - (lg_sl ([.ref (a 1), .int p0, .int p1, .int p2])).length) Slot.unset).toArray = ls at hl ⊢
  have hl : lv_has ls 4 [(0, .ref (a 1)), (1, .int p0), (2, .int p1), (3, .int p2)] := hl
  refine lv_aload_n hx hb d_heldBehind_0 rfl (lv_at hl 0 rfl) ?_
  refine lv_iload_n hx hb d_heldBehind_1 rfl (lv_at hl 1 rfl) ?_
  obtain ⟨r_1, e_1, h⟩ := ld_nm h
  refine ld_rd (W.runV (As := [.int p0]) (rest := []) ⟨hx, hb, hml, hown, hg⟩ (lc_isPoint l D cI cZ cJ a G p0 r_1 e_1) ⟨callB_of 1 hg (ld_gd k_155) rfl rfl rfl (hg _ k_24) (hg _ k_166) hd_isPoint ⟨Nat.le_of_ble_eq_true rfl, Nat.le_of_ble_eq_true rfl⟩, hg _ k_153, hg _ k_154⟩ (ld_preRV hP hK hN [0, 1, 2, 3, 4, 5, 6] rfl 0 0 rfl rfl) rfl rfl hl.1 rfl (lv_room (Nat.le_of_ble_eq_true rfl)) d_heldBehind_2 ⟨Nat.zero_le _, Nat.zero_le _⟩) ?_
  refine lv_if_ne (tgt := 10) hx hb d_heldBehind_5 (by decide) (fun c_2 => ?_) (fun c_2 => ?_)
  · have h := (if_neg c_2).symm.trans h
    refine lv_aload_n hx hb d_heldBehind_10 rfl (lv_at hl 0 rfl) ?_
    refine va_get (D := D) (ci := 0) (v := .ref (a 2)) (C := "LoanDesk$Graph") (T := T_Graph) (N := 7) hx hb hg u_Graph hown hK hP 0 rfl rfl 0 (by decide) (hg _ k_46) (fun _ h9 => h9) rfl d_heldBehind_11 ?_
    refine lv_iload_n hx hb d_heldBehind_14 rfl (lv_at hl 1 rfl) ?_
    refine va_iald hx hb hK hP 1 0 rfl rfl (i := p0) (ld_pt e_1 c_2) d_heldBehind_15 ?_
    by_cases c_3 : (G.1 p0.toNatClampNeg) = 1
    · have h := (if_pos c_3).symm.trans h
      refine lv_tableIn (tgt := 44) hx hb d_heldBehind_16 (by rw [c_3]; decide) (by rw [c_3]; decide) (by rw [c_3]; rfl) (by decide) ?_
      refine lv_iload_n hx hb d_heldBehind_44 rfl (lv_at hl 3 rfl) ?_
      refine lv_aload_n hx hb d_heldBehind_45 rfl (lv_at hl 0 rfl) ?_
      refine va_get (D := D) (ci := 0) (v := .ref (a 3)) (C := "LoanDesk$Graph") (T := T_Graph) (N := 7) hx hb hg u_Graph hown hK hP 0 rfl rfl 1 (by decide) (hg _ k_47) (fun _ h9 => h9) rfl d_heldBehind_46 ?_
      refine lv_iload_n hx hb d_heldBehind_49 rfl (lv_at hl 1 rfl) ?_
      refine va_iald hx hb hK hP 2 0 rfl rfl (i := p0) (ld_pt e_1 c_2) d_heldBehind_50 ?_
      refine lv_iload_n hx hb d_heldBehind_51 rfl (lv_at hl 1 rfl) ?_
      refine lv_iload_n hx hb d_heldBehind_52 rfl (lv_at hl 2 rfl) ?_
      refine lv_icmp_ne (tgt := 60) hx hb d_heldBehind_53 (by decide) (fun c_4 => ?_) (fun c_4 => ?_)
      · have h := (if_neg c_4).symm.trans h
        refine lv_iconst (v := 0) hx hb d_heldBehind_60 (by decide) ?_
        obtain ⟨r_5, e_5, h⟩ := ld_nm h
        refine ld_rd (W.runS (As := [.int p2, .int (G.2.1 p0.toNatClampNeg), .int 0]) (rest := []) ⟨hx, hb, hml, hown, hg⟩ (lc_withHolder l D cI cZ cJ p2 (G.2.1 p0.toNatClampNeg) 0 r_5 e_5) ⟨callB_of 3 hg (ld_gd k_260) rfl rfl rfl (hg _ k_24) (hg _ k_258) hd_withHolder ⟨Nat.le_of_ble_eq_true rfl, Nat.le_of_ble_eq_true rfl⟩, hg _ k_259⟩ (ld_preR hP hK hN [] rfl) rfl rfl hl.1 rfl (lv_room (Nat.le_of_ble_eq_true rfl)) d_heldBehind_61 ⟨Nat.zero_le _, Nat.zero_le _⟩) ?_
        exact W.iret (v := r_5) hx hb hr (fun t ht hW => ⟨_, rfl, h, ht⟩) (fun _ q => by cases q) d_heldBehind_64
      · have h := (if_pos c_4).symm.trans h
        refine lv_iconst (v := 1) hx hb d_heldBehind_56 (by decide) ?_
        refine lv_goto (tgt := 61) hx hb d_heldBehind_57 (by decide) ?_
        obtain ⟨r_6, e_6, h⟩ := ld_nm h
        refine ld_rd (W.runS (As := [.int p2, .int (G.2.1 p0.toNatClampNeg), .int 1]) (rest := []) ⟨hx, hb, hml, hown, hg⟩ (lc_withHolder l D cI cZ cJ p2 (G.2.1 p0.toNatClampNeg) 1 r_6 e_6) ⟨callB_of 3 hg (ld_gd k_260) rfl rfl rfl (hg _ k_24) (hg _ k_258) hd_withHolder ⟨Nat.le_of_ble_eq_true rfl, Nat.le_of_ble_eq_true rfl⟩, hg _ k_259⟩ (ld_preR hP hK hN [] rfl) rfl rfl hl.1 rfl (lv_room (Nat.le_of_ble_eq_true rfl)) d_heldBehind_61 ⟨Nat.zero_le _, Nat.zero_le _⟩) ?_
        exact W.iret (v := r_6) hx hb hr (fun t ht hW => ⟨_, rfl, h, ht⟩) (fun _ q => by cases q) d_heldBehind_64
    have h := (if_neg c_3).symm.trans h
    by_cases c_7 : (G.1 p0.toNatClampNeg) = 2
    · have h := (if_pos c_7).symm.trans h
      refine lv_tableIn (tgt := 65) hx hb d_heldBehind_16 (by rw [c_7]; decide) (by rw [c_7]; decide) (by rw [c_7]; rfl) (by decide) ?_
      refine lv_iload_n hx hb d_heldBehind_65 rfl (lv_at hl 3 rfl) ?_
      refine lv_aload_n hx hb d_heldBehind_66 rfl (lv_at hl 0 rfl) ?_
      refine va_get (D := D) (ci := 0) (v := .ref (a 3)) (C := "LoanDesk$Graph") (T := T_Graph) (N := 7) hx hb hg u_Graph hown hK hP 0 rfl rfl 1 (by decide) (hg _ k_47) (fun _ h9 => h9) rfl d_heldBehind_67 ?_
      refine lv_iload_n hx hb d_heldBehind_70 rfl (lv_at hl 1 rfl) ?_
      refine va_iald hx hb hK hP 2 0 rfl rfl (i := p0) (ld_pt e_1 c_2) d_heldBehind_71 ?_
      refine lv_iload_n hx hb d_heldBehind_72 rfl (lv_at hl 3 rfl) ?_
      refine lv_iconst (v := 1) hx hb d_heldBehind_73 (by decide) ?_
      refine lv_aload_n hx hb d_heldBehind_74 rfl (lv_at hl 0 rfl) ?_
      refine va_get (D := D) (ci := 0) (v := .ref (a 4)) (C := "LoanDesk$Graph") (T := T_Graph) (N := 7) hx hb hg u_Graph hown hK hP 0 rfl rfl 2 (by decide) (hg _ k_48) (fun _ h9 => h9) rfl d_heldBehind_75 ?_
      refine lv_iload_n hx hb d_heldBehind_78 rfl (lv_at hl 1 rfl) ?_
      refine va_iald hx hb hK hP 3 0 rfl rfl (i := p0) (ld_pt e_1 c_2) d_heldBehind_79 ?_
      refine lv_ishl hx hb d_heldBehind_80 ?_
      refine lv_iand hx hb d_heldBehind_81 ?_
      refine lv_if_eq (tgt := 89) hx hb d_heldBehind_82 (by decide) (fun c_8 => ?_) (fun c_8 => ?_)
      · have h := (if_pos c_8).symm.trans h
        refine lv_iconst (v := 0) hx hb d_heldBehind_89 (by decide) ?_
        obtain ⟨r_9, e_9, h⟩ := ld_nm h
        refine ld_rd (W.runS (As := [.int p2, .int (G.2.1 p0.toNatClampNeg), .int 0]) (rest := []) ⟨hx, hb, hml, hown, hg⟩ (lc_withHolder l D cI cZ cJ p2 (G.2.1 p0.toNatClampNeg) 0 r_9 e_9) ⟨callB_of 3 hg (ld_gd k_260) rfl rfl rfl (hg _ k_24) (hg _ k_258) hd_withHolder ⟨Nat.le_of_ble_eq_true rfl, Nat.le_of_ble_eq_true rfl⟩, hg _ k_259⟩ (ld_preR hP hK hN [] rfl) rfl rfl hl.1 rfl (lv_room (Nat.le_of_ble_eq_true rfl)) d_heldBehind_90 ⟨Nat.zero_le _, Nat.zero_le _⟩) ?_
        exact W.iret (v := r_9) hx hb hr (fun t ht hW => ⟨_, rfl, h, ht⟩) (fun _ q => by cases q) d_heldBehind_93
      · have h := (if_neg c_8).symm.trans h
        refine lv_iconst (v := 1) hx hb d_heldBehind_85 (by decide) ?_
        refine lv_goto (tgt := 90) hx hb d_heldBehind_86 (by decide) ?_
        obtain ⟨r_10, e_10, h⟩ := ld_nm h
        refine ld_rd (W.runS (As := [.int p2, .int (G.2.1 p0.toNatClampNeg), .int 1]) (rest := []) ⟨hx, hb, hml, hown, hg⟩ (lc_withHolder l D cI cZ cJ p2 (G.2.1 p0.toNatClampNeg) 1 r_10 e_10) ⟨callB_of 3 hg (ld_gd k_260) rfl rfl rfl (hg _ k_24) (hg _ k_258) hd_withHolder ⟨Nat.le_of_ble_eq_true rfl, Nat.le_of_ble_eq_true rfl⟩, hg _ k_259⟩ (ld_preR hP hK hN [] rfl) rfl rfl hl.1 rfl (lv_room (Nat.le_of_ble_eq_true rfl)) d_heldBehind_90 ⟨Nat.zero_le _, Nat.zero_le _⟩) ?_
        exact W.iret (v := r_10) hx hb hr (fun t ht hW => ⟨_, rfl, h, ht⟩) (fun _ q => by cases q) d_heldBehind_93
    have h := (if_neg c_7).symm.trans h
    by_cases c_11 : (G.1 p0.toNatClampNeg) = 3
    · have h := (if_pos c_11).symm.trans h
      refine lv_tableIn (tgt := 94) hx hb d_heldBehind_16 (by rw [c_11]; decide) (by rw [c_11]; decide) (by rw [c_11]; rfl) (by decide) ?_
      refine lv_iload_n hx hb d_heldBehind_94 rfl (lv_at hl 3 rfl) ?_
      refine lv_aload_n hx hb d_heldBehind_95 rfl (lv_at hl 0 rfl) ?_
      refine va_get (D := D) (ci := 0) (v := .ref (a 3)) (C := "LoanDesk$Graph") (T := T_Graph) (N := 7) hx hb hg u_Graph hown hK hP 0 rfl rfl 1 (by decide) (hg _ k_47) (fun _ h9 => h9) rfl d_heldBehind_96 ?_
      refine lv_iload_n hx hb d_heldBehind_99 rfl (lv_at hl 1 rfl) ?_
      refine va_iald hx hb hK hP 2 0 rfl rfl (i := p0) (ld_pt e_1 c_2) d_heldBehind_100 ?_
      refine lv_iconst (v := 0) hx hb d_heldBehind_101 (by decide) ?_
      obtain ⟨r_12, e_12, h⟩ := ld_nm h
      refine ld_rd (W.runS (As := [.int p2, .int (G.2.1 p0.toNatClampNeg), .int 0]) (rest := []) ⟨hx, hb, hml, hown, hg⟩ (lc_withHolder l D cI cZ cJ p2 (G.2.1 p0.toNatClampNeg) 0 r_12 e_12) ⟨callB_of 3 hg (ld_gd k_260) rfl rfl rfl (hg _ k_24) (hg _ k_258) hd_withHolder ⟨Nat.le_of_ble_eq_true rfl, Nat.le_of_ble_eq_true rfl⟩, hg _ k_259⟩ (ld_preR hP hK hN [] rfl) rfl rfl hl.1 rfl (lv_room (Nat.le_of_ble_eq_true rfl)) d_heldBehind_102 ⟨Nat.zero_le _, Nat.zero_le _⟩) ?_
      exact W.iret (v := r_12) hx hb hr (fun t ht hW => ⟨_, rfl, h, ht⟩) (fun _ q => by cases q) d_heldBehind_105
    have h := (if_neg c_11).symm.trans h
    refine lv_tableOut (tgt := 106) hx hb d_heldBehind_16 (by have e_c_3 := lv_neT c_3 (a := 1) (by decide); have e_c_7 := lv_neT c_7 (a := 2) (by decide); have e_c_11 := lv_neT c_11 (a := 3) (by decide); omega) (by decide) ?_
    refine lv_iload_n hx hb d_heldBehind_106 rfl (lv_at hl 3 rfl) ?_
    exact W.iret (v := p2) hx hb hr (fun t ht hW => ⟨_, rfl, h, ht⟩) (fun _ q => by cases q) d_heldBehind_107
  · have h := (if_pos c_2).symm.trans h
    refine lv_iconst (v := 0) hx hb d_heldBehind_8 (by decide) ?_
    exact W.iret (v := 0) hx hb hr (fun t ht hW => ⟨_, rfl, h, ht⟩) (fun _ q => by cases q) d_heldBehind_9
def lf_usedFrom (G : ld_gT) (p0 : Int32) (p1 : Int32) : Int32 := ld_lt (lf_isPoint G p0) (fun r_1 => if r_1 = 0 then 0 else if (G.1 p0.toNatClampNeg) = 1 then (p1 &&& (((1 : Int32) <<< ((G.2.1 p0.toNatClampNeg) &&& 31)) ^^^ (-1))) else (if (G.1 p0.toNatClampNeg) = 2 then ((p1 &&& (((1 : Int32) <<< ((G.2.1 p0.toNatClampNeg) &&& 31)) ^^^ (-1))) ||| ((1 : Int32) <<< ((G.2.2.1 p0.toNatClampNeg) &&& 31))) else (if (G.1 p0.toNatClampNeg) = 3 then (p1 &&& (((1 : Int32) <<< ((G.2.1 p0.toNatClampNeg) &&& 31)) ^^^ (-1))) else (if (G.1 p0.toNatClampNeg) = 4 then p1 ||| ((1 : Int32) <<< ((G.2.1 p0.toNatClampNeg) &&& 31)) else p1))))
set_option maxHeartbeats 4000000 in
set_option maxRecDepth 100000 in
theorem lc_usedFrom (l : Launch) (D : va_G) (cI cZ cJ : ClassId) (a : Nat → Nat) (G : ld_gT) (p0 : Int32) (p1 : Int32) (R : Int32) (h : lf_usedFrom G p0 p1 = R) : Met l y_usedFrom (Cond.code y_usedFrom prog_2_method_14_code 3 (some .int) :: bgT) ({ frames := 1, cells := 0, slots := 0, locals := 21 }) (ld_PR D cI cZ cJ (ld_gW a cI G) [.ref (a 1), .int p0, .int p1]) (vp_Si (fun z => z = R)) 0 0 (fun _ => False) := by
  refine Met.ofW (cc := prog_2_method_14_code) (maxL := 3) (ret := (some .int)) (by decide) rfl ?_
  intro p e s m args below meth c s₁ B hml hv
  obtain ⟨rfl, hP, hK, hN⟩ := hv
  have hx := B.exec
  have hb := B.bytes
  have hr := B.returns
  have hg : ∀ w ∈ bgT, w.before _ s = true := fun w h => atoms_spec (ws := (Cond.code y_usedFrom prog_2_method_14_code 3 (some .int) :: bgT)) B.pre w (List.mem_cons_of_mem _ h)
  have hown : s.vm.findClass "LoanDesk$Graph" = some m.cls := findClass_of_methodNamed B.named
  have hlocks := B.notSynchronized
  have hl := lv_entry ([.ref (a 1), .int p0, .int p1]) (n := 3) (Nat.le_of_ble_eq_true rfl)
  rw [lg_entry_eq]
  generalize (lg_sl ([.ref (a 1), .int p0, .int p1]) ++ List.replicate (3 - (lg_sl ([.ref (a 1), .int p0, .int p1])).length) Slot.unset).toArray = ls at hl ⊢
  have hl : lv_has ls 3 [(0, .ref (a 1)), (1, .int p0), (2, .int p1)] := hl
  refine lv_aload_n hx hb d_usedFrom_0 rfl (lv_at hl 0 rfl) ?_
  refine lv_iload_n hx hb d_usedFrom_1 rfl (lv_at hl 1 rfl) ?_
  obtain ⟨r_1, e_1, h⟩ := ld_nm h
  refine ld_rd (W.runV (As := [.int p0]) (rest := []) ⟨hx, hb, hml, hown, hg⟩ (lc_isPoint l D cI cZ cJ a G p0 r_1 e_1) ⟨callB_of 1 hg (ld_gd k_155) rfl rfl rfl (hg _ k_24) (hg _ k_166) hd_isPoint ⟨Nat.le_of_ble_eq_true rfl, Nat.le_of_ble_eq_true rfl⟩, hg _ k_153, hg _ k_154⟩ (ld_preRV hP hK hN [0, 1, 2, 3, 4, 5, 6] rfl 0 0 rfl rfl) rfl rfl hl.1 rfl (lv_room (Nat.le_of_ble_eq_true rfl)) d_usedFrom_2 ⟨Nat.zero_le _, Nat.zero_le _⟩) ?_
  refine lv_if_ne (tgt := 10) hx hb d_usedFrom_5 (by decide) (fun c_2 => ?_) (fun c_2 => ?_)
  · have h := (if_neg c_2).symm.trans h
    refine lv_aload_n hx hb d_usedFrom_10 rfl (lv_at hl 0 rfl) ?_
    refine va_get (D := D) (ci := 0) (v := .ref (a 2)) (C := "LoanDesk$Graph") (T := T_Graph) (N := 7) hx hb hg u_Graph hown hK hP 0 rfl rfl 0 (by decide) (hg _ k_46) (fun _ h9 => h9) rfl d_usedFrom_11 ?_
    refine lv_iload_n hx hb d_usedFrom_14 rfl (lv_at hl 1 rfl) ?_
    refine va_iald hx hb hK hP 1 0 rfl rfl (i := p0) (ld_pt e_1 c_2) d_usedFrom_15 ?_
    by_cases c_3 : (G.1 p0.toNatClampNeg) = 1
    · have h := (if_pos c_3).symm.trans h
      refine lv_tableIn (tgt := 48) hx hb d_usedFrom_16 (by rw [c_3]; decide) (by rw [c_3]; decide) (by rw [c_3]; rfl) (by decide) ?_
      refine lv_iload_n hx hb d_usedFrom_48 rfl (lv_at hl 2 rfl) ?_
      refine lv_iconst (v := 1) hx hb d_usedFrom_49 (by decide) ?_
      refine lv_aload_n hx hb d_usedFrom_50 rfl (lv_at hl 0 rfl) ?_
      refine va_get (D := D) (ci := 0) (v := .ref (a 3)) (C := "LoanDesk$Graph") (T := T_Graph) (N := 7) hx hb hg u_Graph hown hK hP 0 rfl rfl 1 (by decide) (hg _ k_47) (fun _ h9 => h9) rfl d_usedFrom_51 ?_
      refine lv_iload_n hx hb d_usedFrom_54 rfl (lv_at hl 1 rfl) ?_
      refine va_iald hx hb hK hP 2 0 rfl rfl (i := p0) (ld_pt e_1 c_2) d_usedFrom_55 ?_
      refine lv_ishl hx hb d_usedFrom_56 ?_
      refine lv_iconst (v := (-1)) hx hb d_usedFrom_57 (by decide) ?_
      refine lv_ixor hx hb d_usedFrom_58 ?_
      refine lv_iand hx hb d_usedFrom_59 ?_
      exact W.iret (v := p1 &&& (((1 : Int32) <<< ((G.2.1 p0.toNatClampNeg) &&& 31)) ^^^ (-1))) hx hb hr (fun t ht hW => ⟨_, rfl, h, ht⟩) (fun _ q => by cases q) d_usedFrom_60
    have h := (if_neg c_3).symm.trans h
    by_cases c_4 : (G.1 p0.toNatClampNeg) = 2
    · have h := (if_pos c_4).symm.trans h
      refine lv_tableIn (tgt := 61) hx hb d_usedFrom_16 (by rw [c_4]; decide) (by rw [c_4]; decide) (by rw [c_4]; rfl) (by decide) ?_
      refine lv_iload_n hx hb d_usedFrom_61 rfl (lv_at hl 2 rfl) ?_
      refine lv_iconst (v := 1) hx hb d_usedFrom_62 (by decide) ?_
      refine lv_aload_n hx hb d_usedFrom_63 rfl (lv_at hl 0 rfl) ?_
      refine va_get (D := D) (ci := 0) (v := .ref (a 3)) (C := "LoanDesk$Graph") (T := T_Graph) (N := 7) hx hb hg u_Graph hown hK hP 0 rfl rfl 1 (by decide) (hg _ k_47) (fun _ h9 => h9) rfl d_usedFrom_64 ?_
      refine lv_iload_n hx hb d_usedFrom_67 rfl (lv_at hl 1 rfl) ?_
      refine va_iald hx hb hK hP 2 0 rfl rfl (i := p0) (ld_pt e_1 c_2) d_usedFrom_68 ?_
      refine lv_ishl hx hb d_usedFrom_69 ?_
      refine lv_iconst (v := (-1)) hx hb d_usedFrom_70 (by decide) ?_
      refine lv_ixor hx hb d_usedFrom_71 ?_
      refine lv_iand hx hb d_usedFrom_72 ?_
      refine lv_iconst (v := 1) hx hb d_usedFrom_73 (by decide) ?_
      refine lv_aload_n hx hb d_usedFrom_74 rfl (lv_at hl 0 rfl) ?_
      refine va_get (D := D) (ci := 0) (v := .ref (a 4)) (C := "LoanDesk$Graph") (T := T_Graph) (N := 7) hx hb hg u_Graph hown hK hP 0 rfl rfl 2 (by decide) (hg _ k_48) (fun _ h9 => h9) rfl d_usedFrom_75 ?_
      refine lv_iload_n hx hb d_usedFrom_78 rfl (lv_at hl 1 rfl) ?_
      refine va_iald hx hb hK hP 3 0 rfl rfl (i := p0) (ld_pt e_1 c_2) d_usedFrom_79 ?_
      refine lv_ishl hx hb d_usedFrom_80 ?_
      refine lv_ior hx hb d_usedFrom_81 ?_
      exact W.iret (v := (p1 &&& (((1 : Int32) <<< ((G.2.1 p0.toNatClampNeg) &&& 31)) ^^^ (-1))) ||| ((1 : Int32) <<< ((G.2.2.1 p0.toNatClampNeg) &&& 31))) hx hb hr (fun t ht hW => ⟨_, rfl, h, ht⟩) (fun _ q => by cases q) d_usedFrom_82
    have h := (if_neg c_4).symm.trans h
    by_cases c_5 : (G.1 p0.toNatClampNeg) = 3
    · have h := (if_pos c_5).symm.trans h
      refine lv_tableIn (tgt := 48) hx hb d_usedFrom_16 (by rw [c_5]; decide) (by rw [c_5]; decide) (by rw [c_5]; rfl) (by decide) ?_
      refine lv_iload_n hx hb d_usedFrom_48 rfl (lv_at hl 2 rfl) ?_
      refine lv_iconst (v := 1) hx hb d_usedFrom_49 (by decide) ?_
      refine lv_aload_n hx hb d_usedFrom_50 rfl (lv_at hl 0 rfl) ?_
      refine va_get (D := D) (ci := 0) (v := .ref (a 3)) (C := "LoanDesk$Graph") (T := T_Graph) (N := 7) hx hb hg u_Graph hown hK hP 0 rfl rfl 1 (by decide) (hg _ k_47) (fun _ h9 => h9) rfl d_usedFrom_51 ?_
      refine lv_iload_n hx hb d_usedFrom_54 rfl (lv_at hl 1 rfl) ?_
      refine va_iald hx hb hK hP 2 0 rfl rfl (i := p0) (ld_pt e_1 c_2) d_usedFrom_55 ?_
      refine lv_ishl hx hb d_usedFrom_56 ?_
      refine lv_iconst (v := (-1)) hx hb d_usedFrom_57 (by decide) ?_
      refine lv_ixor hx hb d_usedFrom_58 ?_
      refine lv_iand hx hb d_usedFrom_59 ?_
      exact W.iret (v := p1 &&& (((1 : Int32) <<< ((G.2.1 p0.toNatClampNeg) &&& 31)) ^^^ (-1))) hx hb hr (fun t ht hW => ⟨_, rfl, h, ht⟩) (fun _ q => by cases q) d_usedFrom_60
    have h := (if_neg c_5).symm.trans h
    by_cases c_6 : (G.1 p0.toNatClampNeg) = 4
    · have h := (if_pos c_6).symm.trans h
      refine lv_tableIn (tgt := 83) hx hb d_usedFrom_16 (by rw [c_6]; decide) (by rw [c_6]; decide) (by rw [c_6]; rfl) (by decide) ?_
      refine lv_iload_n hx hb d_usedFrom_83 rfl (lv_at hl 2 rfl) ?_
      refine lv_iconst (v := 1) hx hb d_usedFrom_84 (by decide) ?_
      refine lv_aload_n hx hb d_usedFrom_85 rfl (lv_at hl 0 rfl) ?_
      refine va_get (D := D) (ci := 0) (v := .ref (a 3)) (C := "LoanDesk$Graph") (T := T_Graph) (N := 7) hx hb hg u_Graph hown hK hP 0 rfl rfl 1 (by decide) (hg _ k_47) (fun _ h9 => h9) rfl d_usedFrom_86 ?_
      refine lv_iload_n hx hb d_usedFrom_89 rfl (lv_at hl 1 rfl) ?_
      refine va_iald hx hb hK hP 2 0 rfl rfl (i := p0) (ld_pt e_1 c_2) d_usedFrom_90 ?_
      refine lv_ishl hx hb d_usedFrom_91 ?_
      refine lv_ior hx hb d_usedFrom_92 ?_
      exact W.iret (v := p1 ||| ((1 : Int32) <<< ((G.2.1 p0.toNatClampNeg) &&& 31))) hx hb hr (fun t ht hW => ⟨_, rfl, h, ht⟩) (fun _ q => by cases q) d_usedFrom_93
    have h := (if_neg c_6).symm.trans h
    refine lv_tableOut (tgt := 94) hx hb d_usedFrom_16 (by have e_c_3 := lv_neT c_3 (a := 1) (by decide); have e_c_4 := lv_neT c_4 (a := 2) (by decide); have e_c_5 := lv_neT c_5 (a := 3) (by decide); have e_c_6 := lv_neT c_6 (a := 4) (by decide); omega) (by decide) ?_
    refine lv_iload_n hx hb d_usedFrom_94 rfl (lv_at hl 2 rfl) ?_
    exact W.iret (v := p1) hx hb hr (fun t ht hW => ⟨_, rfl, h, ht⟩) (fun _ q => by cases q) d_usedFrom_95
  · have h := (if_pos c_2).symm.trans h
    refine lv_iconst (v := 0) hx hb d_usedFrom_8 (by decide) ?_
    exact W.iret (v := 0) hx hb hr (fun t ht hW => ⟨_, rfl, h, ht⟩) (fun _ q => by cases q) d_usedFrom_9
def lf_borrowing (G : ld_gT) (p0 : Int32) : Int32 := ld_lt (lf_isLoan G p0) (fun r_1 => if r_1 = 0 then 0 else (1 : Int32) <<< ((G.2.1 p0.toNatClampNeg) &&& 31))
set_option maxHeartbeats 4000000 in
set_option maxRecDepth 100000 in
theorem lc_borrowing (l : Launch) (D : va_G) (cI cZ cJ : ClassId) (a : Nat → Nat) (G : ld_gT) (p0 : Int32) (R : Int32) (h : lf_borrowing G p0 = R) : Met l y_borrowing (Cond.code y_borrowing prog_2_method_15_code 2 (some .int) :: bgT) ({ frames := 2, cells := 0, slots := 0, locals := 42 }) (ld_PR D cI cZ cJ (ld_gW a cI G) [.ref (a 1), .int p0]) (vp_Si (fun z => z = R)) 0 0 (fun _ => False) := by
  refine Met.ofW (cc := prog_2_method_15_code) (maxL := 2) (ret := (some .int)) (by decide) rfl ?_
  intro p e s m args below meth c s₁ B hml hv
  obtain ⟨rfl, hP, hK, hN⟩ := hv
  have hx := B.exec
  have hb := B.bytes
  have hr := B.returns
  have hg : ∀ w ∈ bgT, w.before _ s = true := fun w h => atoms_spec (ws := (Cond.code y_borrowing prog_2_method_15_code 2 (some .int) :: bgT)) B.pre w (List.mem_cons_of_mem _ h)
  have hown : s.vm.findClass "LoanDesk$Graph" = some m.cls := findClass_of_methodNamed B.named
  have hlocks := B.notSynchronized
  have hl := lv_entry ([.ref (a 1), .int p0]) (n := 2) (Nat.le_of_ble_eq_true rfl)
  rw [lg_entry_eq]
  generalize (lg_sl ([.ref (a 1), .int p0]) ++ List.replicate (2 - (lg_sl ([.ref (a 1), .int p0])).length) Slot.unset).toArray = ls at hl ⊢
  have hl : lv_has ls 2 [(0, .ref (a 1)), (1, .int p0)] := hl
  refine lv_aload_n hx hb d_borrowing_0 rfl (lv_at hl 0 rfl) ?_
  refine lv_iload_n hx hb d_borrowing_1 rfl (lv_at hl 1 rfl) ?_
  obtain ⟨r_1, e_1, h⟩ := ld_nm h
  refine ld_rd (W.runV (As := [.int p0]) (rest := []) ⟨hx, hb, hml, hown, hg⟩ (lc_isLoan l D cI cZ cJ a G p0 r_1 e_1) ⟨callB_of 1 hg (ld_gd k_242) rfl rfl rfl (hg _ k_24) (hg _ k_304) hd_isLoan ⟨Nat.le_of_ble_eq_true rfl, Nat.le_of_ble_eq_true rfl⟩, hg _ k_240, hg _ k_241⟩ (ld_preRV hP hK hN [0, 1, 2, 3, 4, 5, 6] rfl 0 0 rfl rfl) rfl rfl hl.1 rfl (lv_room (Nat.le_of_ble_eq_true rfl)) d_borrowing_2 ⟨Nat.zero_le _, Nat.zero_le _⟩) ?_
  refine lv_if_eq (tgt := 19) hx hb d_borrowing_5 (by decide) (fun c_2 => ?_) (fun c_2 => ?_)
  · have h := (if_pos c_2).symm.trans h
    refine lv_iconst (v := 0) hx hb d_borrowing_19 (by decide) ?_
    exact W.iret (v := 0) hx hb hr (fun t ht hW => ⟨_, rfl, h, ht⟩) (fun _ q => by cases q) d_borrowing_20
  · have h := (if_neg c_2).symm.trans h
    refine lv_iconst (v := 1) hx hb d_borrowing_8 (by decide) ?_
    refine lv_aload_n hx hb d_borrowing_9 rfl (lv_at hl 0 rfl) ?_
    refine va_get (D := D) (ci := 0) (v := .ref (a 3)) (C := "LoanDesk$Graph") (T := T_Graph) (N := 7) hx hb hg u_Graph hown hK hP 0 rfl rfl 1 (by decide) (hg _ k_47) (fun _ h9 => h9) rfl d_borrowing_10 ?_
    refine lv_iload_n hx hb d_borrowing_13 rfl (lv_at hl 1 rfl) ?_
    refine va_iald hx hb hK hP 2 0 rfl rfl (i := p0) (ld_ln e_1 c_2) d_borrowing_14 ?_
    refine lv_ishl hx hb d_borrowing_15 ?_
    refine lv_goto (tgt := 20) hx hb d_borrowing_16 (by decide) ?_
    exact W.iret (v := (1 : Int32) <<< ((G.2.1 p0.toNatClampNeg) &&& 31)) hx hb hr (fun t ht hW => ⟨_, rfl, h, ht⟩) (fun _ q => by cases q) d_borrowing_20
def lf_isChange (G : ld_gT) (p0 : Int32) : Int32 := ld_lt (lf_isPoint G p0) (fun r_1 => if r_1 = 0 then 0 else if (G.1 p0.toNatClampNeg) = 6 then 1 else if (G.1 p0.toNatClampNeg) = 1 then if (G.2.2.2.1 p0.toNatClampNeg) = 1 then 1 else 0 else 0)
set_option maxHeartbeats 4000000 in
set_option maxRecDepth 100000 in
theorem lc_isChange (l : Launch) (D : va_G) (cI cZ cJ : ClassId) (a : Nat → Nat) (G : ld_gT) (p0 : Int32) (R : Int32) (h : lf_isChange G p0 = R) : Met l y_isChange (Cond.code y_isChange prog_2_method_17_code 2 (some .boolean) :: bgT) ({ frames := 1, cells := 0, slots := 0, locals := 21 }) (ld_PR D cI cZ cJ (ld_gW a cI G) [.ref (a 1), .int p0]) (vp_Si (fun z => z = R)) 0 0 (fun _ => False) := by
  refine Met.ofW (cc := prog_2_method_17_code) (maxL := 2) (ret := (some .boolean)) (by decide) rfl ?_
  intro p e s m args below meth c s₁ B hml hv
  obtain ⟨rfl, hP, hK, hN⟩ := hv
  have hx := B.exec
  have hb := B.bytes
  have hr := B.returns
  have hg : ∀ w ∈ bgT, w.before _ s = true := fun w h => atoms_spec (ws := (Cond.code y_isChange prog_2_method_17_code 2 (some .boolean) :: bgT)) B.pre w (List.mem_cons_of_mem _ h)
  have hown : s.vm.findClass "LoanDesk$Graph" = some m.cls := findClass_of_methodNamed B.named
  have hlocks := B.notSynchronized
  have hl := lv_entry ([.ref (a 1), .int p0]) (n := 2) (Nat.le_of_ble_eq_true rfl)
  rw [lg_entry_eq]
  generalize (lg_sl ([.ref (a 1), .int p0]) ++ List.replicate (2 - (lg_sl ([.ref (a 1), .int p0])).length) Slot.unset).toArray = ls at hl ⊢
  have hl : lv_has ls 2 [(0, .ref (a 1)), (1, .int p0)] := hl
  refine lv_aload_n hx hb d_isChange_0 rfl (lv_at hl 0 rfl) ?_
  refine lv_iload_n hx hb d_isChange_1 rfl (lv_at hl 1 rfl) ?_
  obtain ⟨r_1, e_1, h⟩ := ld_nm h
  refine ld_rd (W.runV (As := [.int p0]) (rest := []) ⟨hx, hb, hml, hown, hg⟩ (lc_isPoint l D cI cZ cJ a G p0 r_1 e_1) ⟨callB_of 1 hg (ld_gd k_155) rfl rfl rfl (hg _ k_24) (hg _ k_166) hd_isPoint ⟨Nat.le_of_ble_eq_true rfl, Nat.le_of_ble_eq_true rfl⟩, hg _ k_153, hg _ k_154⟩ (ld_preRV hP hK hN [0, 1, 2, 3, 4, 5, 6] rfl 0 0 rfl rfl) rfl rfl hl.1 rfl (lv_room (Nat.le_of_ble_eq_true rfl)) d_isChange_2 ⟨Nat.zero_le _, Nat.zero_le _⟩) ?_
  refine lv_if_eq (tgt := 43) hx hb d_isChange_5 (by decide) (fun c_2 => ?_) (fun c_2 => ?_)
  · have h := (if_pos c_2).symm.trans h
    refine lv_iconst (v := 0) hx hb d_isChange_43 (by decide) ?_
    exact W.zret (v := 0) hx hb hr rfl (fun t ht hW => ⟨_, rfl, h, ht⟩) (fun _ q => by cases q) d_isChange_44
  · have h := (if_neg c_2).symm.trans h
    refine lv_aload_n hx hb d_isChange_8 rfl (lv_at hl 0 rfl) ?_
    refine va_get (D := D) (ci := 0) (v := .ref (a 2)) (C := "LoanDesk$Graph") (T := T_Graph) (N := 7) hx hb hg u_Graph hown hK hP 0 rfl rfl 0 (by decide) (hg _ k_46) (fun _ h9 => h9) rfl d_isChange_9 ?_
    refine lv_iload_n hx hb d_isChange_12 rfl (lv_at hl 1 rfl) ?_
    refine va_iald hx hb hK hP 1 0 rfl rfl (i := p0) (ld_pt e_1 c_2) d_isChange_13 ?_
    refine lv_bipush (v := 6) hx hb d_isChange_14 (by decide) ?_
    refine lv_icmp_eq (tgt := 39) hx hb d_isChange_16 (by decide) (fun c_3 => ?_) (fun c_3 => ?_)
    · have h := (if_pos c_3).symm.trans h
      refine lv_iconst (v := 1) hx hb d_isChange_39 (by decide) ?_
      refine lv_goto (tgt := 44) hx hb d_isChange_40 (by decide) ?_
      exact W.zret (v := 1) hx hb hr rfl (fun t ht hW => ⟨_, rfl, h, ht⟩) (fun _ q => by cases q) d_isChange_44
    · have h := (if_neg c_3).symm.trans h
      refine lv_aload_n hx hb d_isChange_19 rfl (lv_at hl 0 rfl) ?_
      refine va_get (D := D) (ci := 0) (v := .ref (a 2)) (C := "LoanDesk$Graph") (T := T_Graph) (N := 7) hx hb hg u_Graph hown hK hP 0 rfl rfl 0 (by decide) (hg _ k_46) (fun _ h9 => h9) rfl d_isChange_20 ?_
      refine lv_iload_n hx hb d_isChange_23 rfl (lv_at hl 1 rfl) ?_
      refine va_iald hx hb hK hP 1 0 rfl rfl (i := p0) (ld_pt e_1 c_2) d_isChange_24 ?_
      refine lv_iconst (v := 1) hx hb d_isChange_25 (by decide) ?_
      refine lv_icmp_ne (tgt := 43) hx hb d_isChange_26 (by decide) (fun c_4 => ?_) (fun c_4 => ?_)
      · have h := (if_neg c_4).symm.trans h
        refine lv_iconst (v := 0) hx hb d_isChange_43 (by decide) ?_
        exact W.zret (v := 0) hx hb hr rfl (fun t ht hW => ⟨_, rfl, h, ht⟩) (fun _ q => by cases q) d_isChange_44
      · have h := (if_pos c_4).symm.trans h
        refine lv_aload_n hx hb d_isChange_29 rfl (lv_at hl 0 rfl) ?_
        refine va_get (D := D) (ci := 0) (v := .ref (a 5)) (C := "LoanDesk$Graph") (T := T_Graph) (N := 7) hx hb hg u_Graph hown hK hP 0 rfl rfl 3 (by decide) (hg _ k_49) (fun _ h9 => h9) rfl d_isChange_30 ?_
        refine lv_iload_n hx hb d_isChange_33 rfl (lv_at hl 1 rfl) ?_
        refine va_iald hx hb hK hP 4 0 rfl rfl (i := p0) (ld_pt e_1 c_2) d_isChange_34 ?_
        refine lv_iconst (v := 1) hx hb d_isChange_35 (by decide) ?_
        refine lv_icmp_ne (tgt := 43) hx hb d_isChange_36 (by decide) (fun c_5 => ?_) (fun c_5 => ?_)
        · have h := (if_neg c_5).symm.trans h
          refine lv_iconst (v := 0) hx hb d_isChange_43 (by decide) ?_
          exact W.zret (v := 0) hx hb hr rfl (fun t ht hW => ⟨_, rfl, h, ht⟩) (fun _ q => by cases q) d_isChange_44
        · have h := (if_pos c_5).symm.trans h
          refine lv_iconst (v := 1) hx hb d_isChange_39 (by decide) ?_
          refine lv_goto (tgt := 44) hx hb d_isChange_40 (by decide) ?_
          exact W.zret (v := 1) hx hb hr rfl (fun t ht hW => ⟨_, rfl, h, ht⟩) (fun _ q => by cases q) d_isChange_44
def lf_isLook (G : ld_gT) (p0 : Int32) : Int32 := ld_lt (lf_isPoint G p0) (fun r_1 => if r_1 = 0 then 0 else if (G.1 p0.toNatClampNeg) = 5 then 1 else if (G.1 p0.toNatClampNeg) = 1 then if (G.2.2.2.1 p0.toNatClampNeg) = 0 then 1 else 0 else 0)
set_option maxHeartbeats 4000000 in
set_option maxRecDepth 100000 in
theorem lc_isLook (l : Launch) (D : va_G) (cI cZ cJ : ClassId) (a : Nat → Nat) (G : ld_gT) (p0 : Int32) (R : Int32) (h : lf_isLook G p0 = R) : Met l y_isLook (Cond.code y_isLook prog_2_method_18_code 2 (some .boolean) :: bgT) ({ frames := 1, cells := 0, slots := 0, locals := 21 }) (ld_PR D cI cZ cJ (ld_gW a cI G) [.ref (a 1), .int p0]) (vp_Si (fun z => z = R)) 0 0 (fun _ => False) := by
  refine Met.ofW (cc := prog_2_method_18_code) (maxL := 2) (ret := (some .boolean)) (by decide) rfl ?_
  intro p e s m args below meth c s₁ B hml hv
  obtain ⟨rfl, hP, hK, hN⟩ := hv
  have hx := B.exec
  have hb := B.bytes
  have hr := B.returns
  have hg : ∀ w ∈ bgT, w.before _ s = true := fun w h => atoms_spec (ws := (Cond.code y_isLook prog_2_method_18_code 2 (some .boolean) :: bgT)) B.pre w (List.mem_cons_of_mem _ h)
  have hown : s.vm.findClass "LoanDesk$Graph" = some m.cls := findClass_of_methodNamed B.named
  have hlocks := B.notSynchronized
  have hl := lv_entry ([.ref (a 1), .int p0]) (n := 2) (Nat.le_of_ble_eq_true rfl)
  rw [lg_entry_eq]
  generalize (lg_sl ([.ref (a 1), .int p0]) ++ List.replicate (2 - (lg_sl ([.ref (a 1), .int p0])).length) Slot.unset).toArray = ls at hl ⊢
  have hl : lv_has ls 2 [(0, .ref (a 1)), (1, .int p0)] := hl
  refine lv_aload_n hx hb d_isLook_0 rfl (lv_at hl 0 rfl) ?_
  refine lv_iload_n hx hb d_isLook_1 rfl (lv_at hl 1 rfl) ?_
  obtain ⟨r_1, e_1, h⟩ := ld_nm h
  refine ld_rd (W.runV (As := [.int p0]) (rest := []) ⟨hx, hb, hml, hown, hg⟩ (lc_isPoint l D cI cZ cJ a G p0 r_1 e_1) ⟨callB_of 1 hg (ld_gd k_155) rfl rfl rfl (hg _ k_24) (hg _ k_166) hd_isPoint ⟨Nat.le_of_ble_eq_true rfl, Nat.le_of_ble_eq_true rfl⟩, hg _ k_153, hg _ k_154⟩ (ld_preRV hP hK hN [0, 1, 2, 3, 4, 5, 6] rfl 0 0 rfl rfl) rfl rfl hl.1 rfl (lv_room (Nat.le_of_ble_eq_true rfl)) d_isLook_2 ⟨Nat.zero_le _, Nat.zero_le _⟩) ?_
  refine lv_if_eq (tgt := 41) hx hb d_isLook_5 (by decide) (fun c_2 => ?_) (fun c_2 => ?_)
  · have h := (if_pos c_2).symm.trans h
    refine lv_iconst (v := 0) hx hb d_isLook_41 (by decide) ?_
    exact W.zret (v := 0) hx hb hr rfl (fun t ht hW => ⟨_, rfl, h, ht⟩) (fun _ q => by cases q) d_isLook_42
  · have h := (if_neg c_2).symm.trans h
    refine lv_aload_n hx hb d_isLook_8 rfl (lv_at hl 0 rfl) ?_
    refine va_get (D := D) (ci := 0) (v := .ref (a 2)) (C := "LoanDesk$Graph") (T := T_Graph) (N := 7) hx hb hg u_Graph hown hK hP 0 rfl rfl 0 (by decide) (hg _ k_46) (fun _ h9 => h9) rfl d_isLook_9 ?_
    refine lv_iload_n hx hb d_isLook_12 rfl (lv_at hl 1 rfl) ?_
    refine va_iald hx hb hK hP 1 0 rfl rfl (i := p0) (ld_pt e_1 c_2) d_isLook_13 ?_
    refine lv_iconst (v := 5) hx hb d_isLook_14 (by decide) ?_
    refine lv_icmp_eq (tgt := 37) hx hb d_isLook_15 (by decide) (fun c_3 => ?_) (fun c_3 => ?_)
    · have h := (if_pos c_3).symm.trans h
      refine lv_iconst (v := 1) hx hb d_isLook_37 (by decide) ?_
      refine lv_goto (tgt := 42) hx hb d_isLook_38 (by decide) ?_
      exact W.zret (v := 1) hx hb hr rfl (fun t ht hW => ⟨_, rfl, h, ht⟩) (fun _ q => by cases q) d_isLook_42
    · have h := (if_neg c_3).symm.trans h
      refine lv_aload_n hx hb d_isLook_18 rfl (lv_at hl 0 rfl) ?_
      refine va_get (D := D) (ci := 0) (v := .ref (a 2)) (C := "LoanDesk$Graph") (T := T_Graph) (N := 7) hx hb hg u_Graph hown hK hP 0 rfl rfl 0 (by decide) (hg _ k_46) (fun _ h9 => h9) rfl d_isLook_19 ?_
      refine lv_iload_n hx hb d_isLook_22 rfl (lv_at hl 1 rfl) ?_
      refine va_iald hx hb hK hP 1 0 rfl rfl (i := p0) (ld_pt e_1 c_2) d_isLook_23 ?_
      refine lv_iconst (v := 1) hx hb d_isLook_24 (by decide) ?_
      refine lv_icmp_ne (tgt := 41) hx hb d_isLook_25 (by decide) (fun c_4 => ?_) (fun c_4 => ?_)
      · have h := (if_neg c_4).symm.trans h
        refine lv_iconst (v := 0) hx hb d_isLook_41 (by decide) ?_
        exact W.zret (v := 0) hx hb hr rfl (fun t ht hW => ⟨_, rfl, h, ht⟩) (fun _ q => by cases q) d_isLook_42
      · have h := (if_pos c_4).symm.trans h
        refine lv_aload_n hx hb d_isLook_28 rfl (lv_at hl 0 rfl) ?_
        refine va_get (D := D) (ci := 0) (v := .ref (a 5)) (C := "LoanDesk$Graph") (T := T_Graph) (N := 7) hx hb hg u_Graph hown hK hP 0 rfl rfl 3 (by decide) (hg _ k_49) (fun _ h9 => h9) rfl d_isLook_29 ?_
        refine lv_iload_n hx hb d_isLook_32 rfl (lv_at hl 1 rfl) ?_
        refine va_iald hx hb hK hP 4 0 rfl rfl (i := p0) (ld_pt e_1 c_2) d_isLook_33 ?_
        refine lv_if_ne (tgt := 41) hx hb d_isLook_34 (by decide) (fun c_5 => ?_) (fun c_5 => ?_)
        · have h := (if_neg c_5).symm.trans h
          refine lv_iconst (v := 0) hx hb d_isLook_41 (by decide) ?_
          exact W.zret (v := 0) hx hb hr rfl (fun t ht hW => ⟨_, rfl, h, ht⟩) (fun _ q => by cases q) d_isLook_42
        · have h := (if_pos c_5).symm.trans h
          refine lv_iconst (v := 1) hx hb d_isLook_37 (by decide) ?_
          refine lv_goto (tgt := 42) hx hb d_isLook_38 (by decide) ?_
          exact W.zret (v := 1) hx hb hr rfl (fun t ht hW => ⟨_, rfl, h, ht⟩) (fun _ q => by cases q) d_isLook_42
def ls_overlap_1 (p0 : Int32) (p1 : Int32) (v1 : Int32 × Int32) : Option ((Int32 × Int32) ⊕ (Int32 × Int32)) := if 4 ≤ v1.2 then some (.inr (v1.1, v1.2)) else if v1.1 ≤ (if p1 < p0 then p1 else p0) then some (.inr (v1.1, v1.2)) else some (.inl (v1.1 / 10, v1.2 + 1))
def lm_overlap (N : Nat) (p0 : Int32) (p1 : Int32) : Option (Int32) := Option.bind (ld_it (ls_overlap_1 p0 p1) N (if p0 < p1 then p1 else p0, 0)) (fun Y1 => if Y1.1 = (if p1 < p0 then p1 else p0) then some 1 else some 0)
set_option maxHeartbeats 4000000 in
set_option maxRecDepth 100000 in
theorem lc_overlap (l : Launch) (D : va_G) (cI cZ cJ : ClassId)  (p0 : Int32) (p1 : Int32) (N : Nat) (R : Int32) (h : lm_overlap N p0 p1 = some R) : Met l y_overlap (Cond.code y_overlap prog_2_method_19_code 5 (some .boolean) :: bgT) ({ frames := 1, cells := 0, slots := 0, locals := 21 }) (ld_PR D cI cZ cJ ([]) [.int p0, .int p1]) (vp_Si (fun z => z = R)) 0 0 (fun _ => False) := by
  refine Met.ofW (cc := prog_2_method_19_code) (maxL := 5) (ret := (some .boolean)) (by decide) rfl ?_
  intro p e s m args below meth c s₁ B hml hv
  obtain ⟨rfl, hP, hK, hN⟩ := hv
  have hx := B.exec
  have hb := B.bytes
  have hr := B.returns
  have hg : ∀ w ∈ bgT, w.before _ s = true := fun w h => atoms_spec (ws := (Cond.code y_overlap prog_2_method_19_code 5 (some .boolean) :: bgT)) B.pre w (List.mem_cons_of_mem _ h)
  have hown : s.vm.findClass "LoanDesk$Graph" = some m.cls := findClass_of_methodNamed B.named
  have hlocks := B.notSynchronized
  have hl := lv_entry ([.int p0, .int p1]) (n := 5) (Nat.le_of_ble_eq_true rfl)
  rw [lg_entry_eq]
  generalize (lg_sl ([.int p0, .int p1]) ++ List.replicate (5 - (lg_sl ([.int p0, .int p1])).length) Slot.unset).toArray = ls at hl ⊢
  have hl : lv_has ls 5 [(0, .int p0), (1, .int p1)] := hl
  refine lv_iload_n hx hb d_overlap_0 rfl (lv_at hl 0 rfl) ?_
  refine lv_iload_n hx hb d_overlap_1 rfl (lv_at hl 1 rfl) ?_
  refine va_mmin hx hb (by rw [hml]; exact hl.1.symm) hown (hg _ k_318) (hg _ k_222) (hg _ k_32) (hg _ k_223) (Nat.le_of_ble_eq_true rfl) (Nat.le_of_ble_eq_true rfl) (Nat.zero_le _) (Nat.zero_le _) d_overlap_2 ?_
  refine lv_istore_n (lv' := [(2, .int (if p1 < p0 then p1 else p0)), (0, .int p0), (1, .int p1)]) hx hb d_overlap_5 rfl hl (by decide) rfl (fun ls hl => ?_)
  refine lv_iload_n hx hb d_overlap_6 rfl (lv_at hl 1 rfl) ?_
  refine lv_iload_n hx hb d_overlap_7 rfl (lv_at hl 2 rfl) ?_
  refine va_mmax hx hb (by rw [hml]; exact hl.1.symm) hown (hg _ k_319) (hg _ k_320) (hg _ k_32) (hg _ k_321) (Nat.le_of_ble_eq_true rfl) (Nat.le_of_ble_eq_true rfl) (Nat.zero_le _) (Nat.zero_le _) d_overlap_8 ?_
  refine lv_istore_n (lv' := [(3, .int (if p0 < p1 then p1 else p0)), (2, .int (if p1 < p0 then p1 else p0)), (0, .int p0), (1, .int p1)]) hx hb d_overlap_11 rfl hl (by decide) rfl (fun ls hl => ?_)
  refine lv_iconst (v := 0) hx hb d_overlap_12 (by decide) ?_
  refine lv_istore (lv' := [(4, .int 0), (3, .int (if p0 < p1 then p1 else p0)), (2, .int (if p1 < p0 then p1 else p0)), (0, .int p0), (1, .int p1)]) hx hb d_overlap_13 hl (by decide) rfl (fun ls hl => ?_)
  obtain ⟨Y1, eY1, h⟩ := ld_ob h
  have kont1 : ∀ (ls : Array Slot), lv_has ls 5 [(2, .int (if p1 < p0 then p1 else p0)), (3, .int Y1.1)] → W p l e (headSpec (Cond.code y_overlap prog_2_method_19_code 5 (some .boolean) :: bgT) ({ frames := 1, cells := 0, slots := 0, locals := 21 })).room s m ([.int p0, .int p1] : List Value).toArray below meth c s.heap [] 0 0 (MQ below (vp_Si (fun z => z = R)) ([.int p0, .int p1] : List Value).toArray s 0 0 (fun _ => False)) (F0 m 37 ls []) := by
    intro ls hl
    refine lv_iload_n hx hb d_overlap_37 rfl (lv_at hl 1 rfl) ?_
    refine lv_iload_n hx hb d_overlap_38 rfl (lv_at hl 0 rfl) ?_
    refine lv_icmp_ne (tgt := 46) hx hb d_overlap_39 (by decide) (fun c_1 => ?_) (fun c_1 => ?_)
    · have h := (if_neg c_1).symm.trans h
      refine lv_iconst (v := 0) hx hb d_overlap_46 (by decide) ?_
      have h := Option.some.inj h
      exact W.zret (v := 0) hx hb hr rfl (fun t ht hW => ⟨_, rfl, h, ht⟩) (fun _ q => by cases q) d_overlap_47
    · have h := (if_pos c_1).symm.trans h
      refine lv_iconst (v := 1) hx hb d_overlap_42 (by decide) ?_
      refine lv_goto (tgt := 47) hx hb d_overlap_43 (by decide) ?_
      have h := Option.some.inj h
      exact W.zret (v := 1) hx hb hr rfl (fun t ht hW => ⟨_, rfl, h, ht⟩) (fun _ q => by cases q) d_overlap_47
  have key1 : ∀ (n : Nat) (v1 : Int32 × Int32) (ls : Array Slot), ld_it (ls_overlap_1 p0 p1) n v1 = some Y1 → lv_has ls 5 [(2, .int (if p1 < p0 then p1 else p0)), (3, .int v1.1), (4, .int v1.2)] → W p l e (headSpec (Cond.code y_overlap prog_2_method_19_code 5 (some .boolean) :: bgT) ({ frames := 1, cells := 0, slots := 0, locals := 21 })).room s m ([.int p0, .int p1] : List Value).toArray below meth c s.heap [] 0 0 (MQ below (vp_Si (fun z => z = R)) ([.int p0, .int p1] : List Value).toArray s 0 0 (fun _ => False)) (F0 m 15 ls []) := by
    intro n
    induction n with
    | zero => intro v1 ls g1 hl; cases g1
    | succ n ih1 =>
      intro v1 ls g1 hl
      obtain ⟨z1, hy1, g1⟩ := ld_its g1
      refine lv_iload hx hb d_overlap_15 (lv_at hl 2 rfl) ?_
      refine lv_iconst (v := 4) hx hb d_overlap_17 (by decide) ?_
      refine lv_icmp_ge (tgt := 37) hx hb d_overlap_18 (by decide) (fun c_2 => ?_) (fun c_2 => ?_)
      · have hy1 := (if_pos c_2).symm.trans hy1
        obtain rfl := Option.some.inj hy1
        obtain rfl := Option.some.inj g1
        exact kont1 _ (lv_sub hl [0, 1] rfl)
      · have hy1 := (if_neg c_2).symm.trans hy1
        refine lv_iload_n hx hb d_overlap_21 rfl (lv_at hl 1 rfl) ?_
        refine lv_iload_n hx hb d_overlap_22 rfl (lv_at hl 0 rfl) ?_
        refine lv_icmp_le (tgt := 37) hx hb d_overlap_23 (by decide) (fun c_3 => ?_) (fun c_3 => ?_)
        · have hy1 := (if_pos c_3).symm.trans hy1
          obtain rfl := Option.some.inj hy1
          obtain rfl := Option.some.inj g1
          exact kont1 _ (lv_sub hl [0, 1] rfl)
        · have hy1 := (if_neg c_3).symm.trans hy1
          refine lv_iload_n hx hb d_overlap_26 rfl (lv_at hl 1 rfl) ?_
          refine lv_bipush (v := 10) hx hb d_overlap_27 (by decide) ?_
          refine lv_idiv hx hb d_overlap_29 (by decide) ?_
          refine lv_istore_n (lv' := [(3, .int (v1.1 / 10)), (2, .int (if p1 < p0 then p1 else p0)), (4, .int v1.2)]) hx hb d_overlap_30 rfl hl (by decide) rfl (fun ls hl => ?_)
          refine lv_iinc (v := v1.2 + 1) (lv' := [(4, .int (v1.2 + 1)), (3, .int (v1.1 / 10)), (2, .int (if p1 < p0 then p1 else p0))]) hx hb d_overlap_31 hl (k := 2) rfl rfl (by decide) rfl (fun ls hl => ?_)
          refine lv_goto (tgt := 15) hx hb d_overlap_34 (by decide) ?_
          obtain rfl := Option.some.inj hy1
          exact ih1 (v1.1 / 10, v1.2 + 1) _ g1 (lv_sub hl [2, 1, 0] rfl)
  exact key1 N (if p0 < p1 then p1 else p0, 0) _ eY1 (lv_sub hl [2, 1, 0] rfl)
def lm_touches (N : Nat) (G : ld_gT) (p0 : Int32) (p1 : Int32) : Option (Int32) := ld_lt (lf_isPoint G p0) (fun r_1 => if r_1 = 0 then some 0 else ld_lt (lf_isLoan G p1) (fun r_3 => if r_3 = 0 then some 0 else ld_lt (lf_isChange G p0) (fun r_5 => if r_5 = 0 then (ld_lt (lf_isLook G p0) (fun r_10 => if r_10 = 0 then some 0 else if (G.2.2.2.1 p1.toNatClampNeg) = 1 then Option.bind (lm_overlap N (G.2.2.1 p0.toNatClampNeg) (G.2.2.1 p1.toNatClampNeg)) (fun r_16 => if r_16 = 0 then some 0 else some 1) else some 0)) else Option.bind (lm_overlap N (G.2.2.1 p0.toNatClampNeg) (G.2.2.1 p1.toNatClampNeg)) (fun r_8 => if r_8 = 0 then some 0 else some 1))))
set_option maxHeartbeats 4000000 in
set_option maxRecDepth 100000 in
theorem lc_touches (l : Launch) (D : va_G) (cI cZ cJ : ClassId) (a : Nat → Nat) (G : ld_gT) (p0 : Int32) (p1 : Int32) (N : Nat) (R : Int32) (h : lm_touches N G p0 p1 = some R) : Met l y_touches (Cond.code y_touches prog_2_method_16_code 4 (some .boolean) :: bgT) ({ frames := 2, cells := 0, slots := 0, locals := 45 }) (ld_PR D cI cZ cJ (ld_gW a cI G) [.ref (a 1), .int p0, .int p1]) (vp_Si (fun z => z = R)) 0 0 (fun _ => False) := by
  refine Met.ofW (cc := prog_2_method_16_code) (maxL := 4) (ret := (some .boolean)) (by decide) rfl ?_
  intro p e s m args below meth c s₁ B hml hv
  obtain ⟨rfl, hP, hK, hN⟩ := hv
  have hx := B.exec
  have hb := B.bytes
  have hr := B.returns
  have hg : ∀ w ∈ bgT, w.before _ s = true := fun w h => atoms_spec (ws := (Cond.code y_touches prog_2_method_16_code 4 (some .boolean) :: bgT)) B.pre w (List.mem_cons_of_mem _ h)
  have hown : s.vm.findClass "LoanDesk$Graph" = some m.cls := findClass_of_methodNamed B.named
  have hlocks := B.notSynchronized
  have hl := lv_entry ([.ref (a 1), .int p0, .int p1]) (n := 4) (Nat.le_of_ble_eq_true rfl)
  rw [lg_entry_eq]
  generalize (lg_sl ([.ref (a 1), .int p0, .int p1]) ++ List.replicate (4 - (lg_sl ([.ref (a 1), .int p0, .int p1])).length) Slot.unset).toArray = ls at hl ⊢
  have hl : lv_has ls 4 [(0, .ref (a 1)), (1, .int p0), (2, .int p1)] := hl
  refine lv_aload_n hx hb d_touches_0 rfl (lv_at hl 0 rfl) ?_
  refine lv_iload_n hx hb d_touches_1 rfl (lv_at hl 1 rfl) ?_
  obtain ⟨r_1, e_1, h⟩ := ld_nm h
  refine ld_rd (W.runV (As := [.int p0]) (rest := []) ⟨hx, hb, hml, hown, hg⟩ (lc_isPoint l D cI cZ cJ a G p0 r_1 e_1) ⟨callB_of 1 hg (ld_gd k_155) rfl rfl rfl (hg _ k_24) (hg _ k_166) hd_isPoint ⟨Nat.le_of_ble_eq_true rfl, Nat.le_of_ble_eq_true rfl⟩, hg _ k_153, hg _ k_154⟩ (ld_preRV hP hK hN [0, 1, 2, 3, 4, 5, 6] rfl 0 0 rfl rfl) rfl rfl hl.1 rfl (lv_room (Nat.le_of_ble_eq_true rfl)) d_touches_2 ⟨Nat.zero_le _, Nat.zero_le _⟩) ?_
  refine lv_if_eq (tgt := 16) hx hb d_touches_5 (by decide) (fun c_2 => ?_) (fun c_2 => ?_)
  · have h := (if_pos c_2).symm.trans h
    refine lv_iconst (v := 0) hx hb d_touches_16 (by decide) ?_
    have h := Option.some.inj h
    exact W.zret (v := 0) hx hb hr rfl (fun t ht hW => ⟨_, rfl, h, ht⟩) (fun _ q => by cases q) d_touches_17
  · have h := (if_neg c_2).symm.trans h
    refine lv_aload_n hx hb d_touches_8 rfl (lv_at hl 0 rfl) ?_
    refine lv_iload_n hx hb d_touches_9 rfl (lv_at hl 2 rfl) ?_
    obtain ⟨r_3, e_3, h⟩ := ld_nm h
    refine ld_rd (W.runV (As := [.int p1]) (rest := []) ⟨hx, hb, hml, hown, hg⟩ (lc_isLoan l D cI cZ cJ a G p1 r_3 e_3) ⟨callB_of 1 hg (ld_gd k_242) rfl rfl rfl (hg _ k_24) (hg _ k_304) hd_isLoan ⟨Nat.le_of_ble_eq_true rfl, Nat.le_of_ble_eq_true rfl⟩, hg _ k_240, hg _ k_241⟩ (ld_preRV hP hK hN [0, 1, 2, 3, 4, 5, 6] rfl 0 0 rfl rfl) rfl rfl hl.1 rfl (lv_room (Nat.le_of_ble_eq_true rfl)) d_touches_10 ⟨Nat.zero_le _, Nat.zero_le _⟩) ?_
    refine lv_if_ne (tgt := 18) hx hb d_touches_13 (by decide) (fun c_4 => ?_) (fun c_4 => ?_)
    · have h := (if_neg c_4).symm.trans h
      refine lv_aload_n hx hb d_touches_18 rfl (lv_at hl 0 rfl) ?_
      refine lv_iload_n hx hb d_touches_19 rfl (lv_at hl 1 rfl) ?_
      obtain ⟨r_5, e_5, h⟩ := ld_nm h
      refine ld_rd (W.runV (As := [.int p0]) (rest := []) ⟨hx, hb, hml, hown, hg⟩ (lc_isChange l D cI cZ cJ a G p0 r_5 e_5) ⟨callB_of 1 hg (ld_gd k_311) rfl rfl rfl (hg _ k_24) (hg _ k_309) hd_isChange ⟨Nat.le_of_ble_eq_true rfl, Nat.le_of_ble_eq_true rfl⟩, hg _ k_310, hg _ k_8⟩ (ld_preRV hP hK hN [0, 1, 2, 3, 4, 5, 6] rfl 0 0 rfl rfl) rfl rfl hl.1 rfl (lv_room (Nat.le_of_ble_eq_true rfl)) d_touches_20 ⟨Nat.zero_le _, Nat.zero_le _⟩) ?_
      refine lv_if_ne (tgt := 44) hx hb d_touches_23 (by decide) (fun c_6 => ?_) (fun c_6 => ?_)
      · have h := (if_neg c_6).symm.trans h
        refine lv_iconst (v := 1) hx hb d_touches_44 (by decide) ?_
        refine lv_goto (tgt := 49) hx hb d_touches_45 (by decide) ?_
        refine lv_istore_n (lv' := [(3, .int 1), (0, .ref (a 1)), (1, .int p0), (2, .int p1)]) hx hb d_touches_49 rfl hl (by decide) rfl (fun ls hl => ?_)
        refine lv_iload_n hx hb d_touches_50 rfl (lv_at hl 0 rfl) ?_
        refine lv_if_eq (tgt := 76) hx hb d_touches_51 (by decide) (fun c_7 => absurd c_7 (by decide)) (fun _ => ?_)
        refine lv_aload_n hx hb d_touches_54 rfl (lv_at hl 1 rfl) ?_
        refine va_get (D := D) (ci := 0) (v := .ref (a 4)) (C := "LoanDesk$Graph") (T := T_Graph) (N := 7) hx hb hg u_Graph hown hK hP 0 rfl rfl 2 (by decide) (hg _ k_48) (fun _ h9 => h9) rfl d_touches_55 ?_
        refine lv_iload_n hx hb d_touches_58 rfl (lv_at hl 2 rfl) ?_
        refine va_iald hx hb hK hP 3 0 rfl rfl (i := p0) (ld_pt e_1 c_2) d_touches_59 ?_
        refine lv_aload_n hx hb d_touches_60 rfl (lv_at hl 1 rfl) ?_
        refine va_get (D := D) (ci := 0) (v := .ref (a 4)) (C := "LoanDesk$Graph") (T := T_Graph) (N := 7) hx hb hg u_Graph hown hK hP 0 rfl rfl 2 (by decide) (hg _ k_48) (fun _ h9 => h9) rfl d_touches_61 ?_
        refine lv_iload_n hx hb d_touches_64 rfl (lv_at hl 3 rfl) ?_
        refine va_iald hx hb hK hP 3 0 rfl rfl (i := p1) (ld_ln e_3 c_4) d_touches_65 ?_
        obtain ⟨r_8, e_8, h⟩ := ld_ob h
        refine ld_rd (W.runS (As := [.int (G.2.2.1 p0.toNatClampNeg), .int (G.2.2.1 p1.toNatClampNeg)]) (rest := []) ⟨hx, hb, hml, hown, hg⟩ (lc_overlap l D cI cZ cJ (G.2.2.1 p0.toNatClampNeg) (G.2.2.1 p1.toNatClampNeg) N r_8 e_8) ⟨callB_of 2 hg (ld_gd k_317) rfl rfl rfl (hg _ k_24) (hg _ k_315) hd_overlap ⟨Nat.le_of_ble_eq_true rfl, Nat.le_of_ble_eq_true rfl⟩, hg _ k_316⟩ (ld_preR hP hK hN [] rfl) rfl rfl hl.1 rfl (lv_room (Nat.le_of_ble_eq_true rfl)) d_touches_66 ⟨Nat.zero_le _, Nat.zero_le _⟩) ?_
        refine lv_if_eq (tgt := 76) hx hb d_touches_69 (by decide) (fun c_9 => ?_) (fun c_9 => ?_)
        · have h := (if_pos c_9).symm.trans h
          refine lv_iconst (v := 0) hx hb d_touches_76 (by decide) ?_
          have h := Option.some.inj h
          exact W.zret (v := 0) hx hb hr rfl (fun t ht hW => ⟨_, rfl, h, ht⟩) (fun _ q => by cases q) d_touches_77
        · have h := (if_neg c_9).symm.trans h
          refine lv_iconst (v := 1) hx hb d_touches_72 (by decide) ?_
          refine lv_goto (tgt := 77) hx hb d_touches_73 (by decide) ?_
          have h := Option.some.inj h
          exact W.zret (v := 1) hx hb hr rfl (fun t ht hW => ⟨_, rfl, h, ht⟩) (fun _ q => by cases q) d_touches_77
      · have h := (if_pos c_6).symm.trans h
        refine lv_aload_n hx hb d_touches_26 rfl (lv_at hl 0 rfl) ?_
        refine lv_iload_n hx hb d_touches_27 rfl (lv_at hl 1 rfl) ?_
        obtain ⟨r_10, e_10, h⟩ := ld_nm h
        refine ld_rd (W.runV (As := [.int p0]) (rest := []) ⟨hx, hb, hml, hown, hg⟩ (lc_isLook l D cI cZ cJ a G p0 r_10 e_10) ⟨callB_of 1 hg (ld_gd k_314) rfl rfl rfl (hg _ k_24) (hg _ k_312) hd_isLook ⟨Nat.le_of_ble_eq_true rfl, Nat.le_of_ble_eq_true rfl⟩, hg _ k_313, hg _ k_9⟩ (ld_preRV hP hK hN [0, 1, 2, 3, 4, 5, 6] rfl 0 0 rfl rfl) rfl rfl hl.1 rfl (lv_room (Nat.le_of_ble_eq_true rfl)) d_touches_28 ⟨Nat.zero_le _, Nat.zero_le _⟩) ?_
        refine lv_if_eq (tgt := 48) hx hb d_touches_31 (by decide) (fun c_11 => ?_) (fun c_11 => ?_)
        · have h := (if_pos c_11).symm.trans h
          refine lv_iconst (v := 0) hx hb d_touches_48 (by decide) ?_
          refine lv_istore_n (lv' := [(3, .int 0), (0, .ref (a 1)), (1, .int p0), (2, .int p1)]) hx hb d_touches_49 rfl hl (by decide) rfl (fun ls hl => ?_)
          refine lv_iload_n hx hb d_touches_50 rfl (lv_at hl 0 rfl) ?_
          refine lv_if_eq (tgt := 76) hx hb d_touches_51 (by decide) (fun _ => ?_) (fun c_12 => absurd (by decide) c_12)
          refine lv_iconst (v := 0) hx hb d_touches_76 (by decide) ?_
          have h := Option.some.inj h
          exact W.zret (v := 0) hx hb hr rfl (fun t ht hW => ⟨_, rfl, h, ht⟩) (fun _ q => by cases q) d_touches_77
        · have h := (if_neg c_11).symm.trans h
          refine lv_aload_n hx hb d_touches_34 rfl (lv_at hl 0 rfl) ?_
          refine va_get (D := D) (ci := 0) (v := .ref (a 5)) (C := "LoanDesk$Graph") (T := T_Graph) (N := 7) hx hb hg u_Graph hown hK hP 0 rfl rfl 3 (by decide) (hg _ k_49) (fun _ h9 => h9) rfl d_touches_35 ?_
          refine lv_iload_n hx hb d_touches_38 rfl (lv_at hl 2 rfl) ?_
          refine va_iald hx hb hK hP 4 0 rfl rfl (i := p1) (ld_ln e_3 c_4) d_touches_39 ?_
          refine lv_iconst (v := 1) hx hb d_touches_40 (by decide) ?_
          refine lv_icmp_ne (tgt := 48) hx hb d_touches_41 (by decide) (fun c_13 => ?_) (fun c_13 => ?_)
          · have h := (if_neg c_13).symm.trans h
            refine lv_iconst (v := 0) hx hb d_touches_48 (by decide) ?_
            refine lv_istore_n (lv' := [(3, .int 0), (0, .ref (a 1)), (1, .int p0), (2, .int p1)]) hx hb d_touches_49 rfl hl (by decide) rfl (fun ls hl => ?_)
            refine lv_iload_n hx hb d_touches_50 rfl (lv_at hl 0 rfl) ?_
            refine lv_if_eq (tgt := 76) hx hb d_touches_51 (by decide) (fun _ => ?_) (fun c_14 => absurd (by decide) c_14)
            refine lv_iconst (v := 0) hx hb d_touches_76 (by decide) ?_
            have h := Option.some.inj h
            exact W.zret (v := 0) hx hb hr rfl (fun t ht hW => ⟨_, rfl, h, ht⟩) (fun _ q => by cases q) d_touches_77
          · have h := (if_pos c_13).symm.trans h
            refine lv_iconst (v := 1) hx hb d_touches_44 (by decide) ?_
            refine lv_goto (tgt := 49) hx hb d_touches_45 (by decide) ?_
            refine lv_istore_n (lv' := [(3, .int 1), (0, .ref (a 1)), (1, .int p0), (2, .int p1)]) hx hb d_touches_49 rfl hl (by decide) rfl (fun ls hl => ?_)
            refine lv_iload_n hx hb d_touches_50 rfl (lv_at hl 0 rfl) ?_
            refine lv_if_eq (tgt := 76) hx hb d_touches_51 (by decide) (fun c_15 => absurd c_15 (by decide)) (fun _ => ?_)
            refine lv_aload_n hx hb d_touches_54 rfl (lv_at hl 1 rfl) ?_
            refine va_get (D := D) (ci := 0) (v := .ref (a 4)) (C := "LoanDesk$Graph") (T := T_Graph) (N := 7) hx hb hg u_Graph hown hK hP 0 rfl rfl 2 (by decide) (hg _ k_48) (fun _ h9 => h9) rfl d_touches_55 ?_
            refine lv_iload_n hx hb d_touches_58 rfl (lv_at hl 2 rfl) ?_
            refine va_iald hx hb hK hP 3 0 rfl rfl (i := p0) (ld_pt e_1 c_2) d_touches_59 ?_
            refine lv_aload_n hx hb d_touches_60 rfl (lv_at hl 1 rfl) ?_
            refine va_get (D := D) (ci := 0) (v := .ref (a 4)) (C := "LoanDesk$Graph") (T := T_Graph) (N := 7) hx hb hg u_Graph hown hK hP 0 rfl rfl 2 (by decide) (hg _ k_48) (fun _ h9 => h9) rfl d_touches_61 ?_
            refine lv_iload_n hx hb d_touches_64 rfl (lv_at hl 3 rfl) ?_
            refine va_iald hx hb hK hP 3 0 rfl rfl (i := p1) (ld_ln e_3 c_4) d_touches_65 ?_
            obtain ⟨r_16, e_16, h⟩ := ld_ob h
            refine ld_rd (W.runS (As := [.int (G.2.2.1 p0.toNatClampNeg), .int (G.2.2.1 p1.toNatClampNeg)]) (rest := []) ⟨hx, hb, hml, hown, hg⟩ (lc_overlap l D cI cZ cJ (G.2.2.1 p0.toNatClampNeg) (G.2.2.1 p1.toNatClampNeg) N r_16 e_16) ⟨callB_of 2 hg (ld_gd k_317) rfl rfl rfl (hg _ k_24) (hg _ k_315) hd_overlap ⟨Nat.le_of_ble_eq_true rfl, Nat.le_of_ble_eq_true rfl⟩, hg _ k_316⟩ (ld_preR hP hK hN [] rfl) rfl rfl hl.1 rfl (lv_room (Nat.le_of_ble_eq_true rfl)) d_touches_66 ⟨Nat.zero_le _, Nat.zero_le _⟩) ?_
            refine lv_if_eq (tgt := 76) hx hb d_touches_69 (by decide) (fun c_17 => ?_) (fun c_17 => ?_)
            · have h := (if_pos c_17).symm.trans h
              refine lv_iconst (v := 0) hx hb d_touches_76 (by decide) ?_
              have h := Option.some.inj h
              exact W.zret (v := 0) hx hb hr rfl (fun t ht hW => ⟨_, rfl, h, ht⟩) (fun _ q => by cases q) d_touches_77
            · have h := (if_neg c_17).symm.trans h
              refine lv_iconst (v := 1) hx hb d_touches_72 (by decide) ?_
              refine lv_goto (tgt := 77) hx hb d_touches_73 (by decide) ?_
              have h := Option.some.inj h
              exact W.zret (v := 1) hx hb hr rfl (fun t ht hW => ⟨_, rfl, h, ht⟩) (fun _ q => by cases q) d_touches_77
    · have h := (if_pos c_4).symm.trans h
      refine lv_iconst (v := 0) hx hb d_touches_16 (by decide) ?_
      have h := Option.some.inj h
      exact W.zret (v := 0) hx hb hr rfl (fun t ht hW => ⟨_, rfl, h, ht⟩) (fun _ q => by cases q) d_touches_17
