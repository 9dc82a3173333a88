def lf_gsize (G : ld_gT) : Int32 := G.2.2.2.2.2.2
set_option maxHeartbeats 4000000 in
set_option maxRecDepth 100000 in
theorem lc_gsize (l : Launch) (D : va_G) (cI cZ cJ : ClassId) (a : Nat → Nat) (G : ld_gT) (R : Int32) (h : lf_gsize G = R) : Met l y_gsize (Cond.code y_gsize prog_2_method_2_code 1 (some .int) :: bgT) ({ frames := 0, cells := 0, slots := 0, locals := 0 }) (ld_PR D cI cZ cJ (ld_gW a cI G) [.ref (a 1)]) (vp_Si (fun z => z = R)) 0 0 (fun _ => False) := by
  refine Met.ofW (cc := prog_2_method_2_code) (maxL := 1) (ret := (some .int)) (by decide) rfl ?_
  intro p e s m args below meth c s₁ B hml hv
  obtain ⟨rfl, hP, hK, hN⟩ := hv
  have hx := B.exec
  have hb := B.bytes
  have hr := B.returns
  have hg : ∀ w ∈ bgT, w.before _ s = true := fun w h => atoms_spec (ws := (Cond.code y_gsize prog_2_method_2_code 1 (some .int) :: bgT)) B.pre w (List.mem_cons_of_mem _ h)
  have hown : s.vm.findClass "LoanDesk$Graph" = some m.cls := findClass_of_methodNamed B.named
  have hlocks := B.notSynchronized
  have hl := lv_entry ([.ref (a 1)]) (n := 1) (Nat.le_of_ble_eq_true rfl)
  rw [lg_entry_eq]
  generalize (lg_sl ([.ref (a 1)]) ++ List.replicate (1 - (lg_sl ([.ref (a 1)])).length) Slot.unset).toArray = ls at hl ⊢
  have hl : lv_has ls 1 [(0, .ref (a 1))] := hl
  refine lv_aload_n hx hb d_gsize_0 rfl (lv_at hl 0 rfl) ?_
  refine va_get (D := D) (ci := 0) (v := .int G.2.2.2.2.2.2) (C := "LoanDesk$Graph") (T := T_Graph) (N := 7) hx hb hg u_Graph hown hK hP 0 rfl rfl 6 (by decide) (hg _ k_52) (fun _ h9 => h9) rfl d_gsize_1 ?_
  exact W.iret (v := G.2.2.2.2.2.2) hx hb hr (fun t ht hW => ⟨_, rfl, h, ht⟩) (fun _ q => by cases q) d_gsize_4
def lf_hasRoom (G : ld_gT) : Int32 := if 120 ≤ G.2.2.2.2.2.2 then 0 else 1
set_option maxHeartbeats 4000000 in
set_option maxRecDepth 100000 in
theorem lc_hasRoom (l : Launch) (D : va_G) (cI cZ cJ : ClassId) (a : Nat → Nat) (G : ld_gT) (R : Int32) (h : lf_hasRoom G = R) : Met l y_hasRoom (Cond.code y_hasRoom prog_2_method_3_code 1 (some .boolean) :: bgT) ({ frames := 0, cells := 0, slots := 0, locals := 0 }) (ld_PR D cI cZ cJ (ld_gW a cI G) [.ref (a 1)]) (vp_Si (fun z => z = R)) 0 0 (fun _ => False) := by
  refine Met.ofW (cc := prog_2_method_3_code) (maxL := 1) (ret := (some .boolean)) (by decide) rfl ?_
  intro p e s m args below meth c s₁ B hml hv
  obtain ⟨rfl, hP, hK, hN⟩ := hv
  have hx := B.exec
  have hb := B.bytes
  have hr := B.returns
  have hg : ∀ w ∈ bgT, w.before _ s = true := fun w h => atoms_spec (ws := (Cond.code y_hasRoom prog_2_method_3_code 1 (some .boolean) :: bgT)) B.pre w (List.mem_cons_of_mem _ h)
  have hown : s.vm.findClass "LoanDesk$Graph" = some m.cls := findClass_of_methodNamed B.named
  have hlocks := B.notSynchronized
  have hl := lv_entry ([.ref (a 1)]) (n := 1) (Nat.le_of_ble_eq_true rfl)
  rw [lg_entry_eq]
  generalize (lg_sl ([.ref (a 1)]) ++ List.replicate (1 - (lg_sl ([.ref (a 1)])).length) Slot.unset).toArray = ls at hl ⊢
  have hl : lv_has ls 1 [(0, .ref (a 1))] := hl
  refine lv_aload_n hx hb d_hasRoom_0 rfl (lv_at hl 0 rfl) ?_
  refine va_get (D := D) (ci := 0) (v := .int G.2.2.2.2.2.2) (C := "LoanDesk$Graph") (T := T_Graph) (N := 7) hx hb hg u_Graph hown hK hP 0 rfl rfl 6 (by decide) (hg _ k_52) (fun _ h9 => h9) rfl d_hasRoom_1 ?_
  refine lv_bipush (v := 120) hx hb d_hasRoom_4 (by decide) ?_
  refine lv_icmp_ge (tgt := 13) hx hb d_hasRoom_6 (by decide) (fun c_1 => ?_) (fun c_1 => ?_)
  · have h := (if_pos c_1).symm.trans h
    refine lv_iconst (v := 0) hx hb d_hasRoom_13 (by decide) ?_
    exact W.zret (v := 0) hx hb hr rfl (fun t ht hW => ⟨_, rfl, h, ht⟩) (fun _ q => by cases q) d_hasRoom_14
  · have h := (if_neg c_1).symm.trans h
    refine lv_iconst (v := 1) hx hb d_hasRoom_9 (by decide) ?_
    refine lv_goto (tgt := 14) hx hb d_hasRoom_10 (by decide) ?_
    exact W.zret (v := 1) hx hb hr rfl (fun t ht hW => ⟨_, rfl, h, ht⟩) (fun _ q => by cases q) d_hasRoom_14
def lf_isPoint (G : ld_gT) (p0 : Int32) : Int32 := if p0 < 0 then 0 else if G.2.2.2.2.2.2 ≤ p0 then 0 else if 120 ≤ p0 then 0 else 1
set_option maxHeartbeats 4000000 in
set_option maxRecDepth 100000 in
theorem lc_isPoint (l : Launch) (D : va_G) (cI cZ cJ : ClassId) (a : Nat → Nat) (G : ld_gT) (p0 : Int32) (R : Int32) (h : lf_isPoint G p0 = R) : Met l y_isPoint (Cond.code y_isPoint prog_2_method_4_code 2 (some .boolean) :: bgT) ({ frames := 0, cells := 0, slots := 0, locals := 0 }) (ld_PR D cI cZ cJ (ld_gW a cI G) [.ref (a 1), .int p0]) (vp_Si (fun z => z = R)) 0 0 (fun _ => False) := by
  refine Met.ofW (cc := prog_2_method_4_code) (maxL := 2) (ret := (some .boolean)) (by decide) rfl ?_
  intro p e s m args below meth c s₁ B hml hv
  obtain ⟨rfl, hP, hK, hN⟩ := hv
  have hx := B.exec
  have hb := B.bytes
  have hr := B.returns
  have hg : ∀ w ∈ bgT, w.before _ s = true := fun w h => atoms_spec (ws := (Cond.code y_isPoint prog_2_method_4_code 2 (some .boolean) :: bgT)) B.pre w (List.mem_cons_of_mem _ h)
  have hown : s.vm.findClass "LoanDesk$Graph" = some m.cls := findClass_of_methodNamed B.named
  have hlocks := B.notSynchronized
  have hl := lv_entry ([.ref (a 1), .int p0]) (n := 2) (Nat.le_of_ble_eq_true rfl)
  rw [lg_entry_eq]
  generalize (lg_sl ([.ref (a 1), .int p0]) ++ List.replicate (2 - (lg_sl ([.ref (a 1), .int p0])).length) Slot.unset).toArray = ls at hl ⊢
  have hl : lv_has ls 2 [(0, .ref (a 1)), (1, .int p0)] := hl
  refine lv_iload_n hx hb d_isPoint_0 rfl (lv_at hl 1 rfl) ?_
  refine lv_if_lt (tgt := 22) hx hb d_isPoint_1 (by decide) (fun c_1 => ?_) (fun c_1 => ?_)
  · have h := (if_pos c_1).symm.trans h
    refine lv_iconst (v := 0) hx hb d_isPoint_22 (by decide) ?_
    exact W.zret (v := 0) hx hb hr rfl (fun t ht hW => ⟨_, rfl, h, ht⟩) (fun _ q => by cases q) d_isPoint_23
  · have h := (if_neg c_1).symm.trans h
    refine lv_iload_n hx hb d_isPoint_4 rfl (lv_at hl 1 rfl) ?_
    refine lv_aload_n hx hb d_isPoint_5 rfl (lv_at hl 0 rfl) ?_
    refine va_get (D := D) (ci := 0) (v := .int G.2.2.2.2.2.2) (C := "LoanDesk$Graph") (T := T_Graph) (N := 7) hx hb hg u_Graph hown hK hP 0 rfl rfl 6 (by decide) (hg _ k_52) (fun _ h9 => h9) rfl d_isPoint_6 ?_
    refine lv_icmp_ge (tgt := 22) hx hb d_isPoint_9 (by decide) (fun c_2 => ?_) (fun c_2 => ?_)
    · have h := (if_pos c_2).symm.trans h
      refine lv_iconst (v := 0) hx hb d_isPoint_22 (by decide) ?_
      exact W.zret (v := 0) hx hb hr rfl (fun t ht hW => ⟨_, rfl, h, ht⟩) (fun _ q => by cases q) d_isPoint_23
    · have h := (if_neg c_2).symm.trans h
      refine lv_iload_n hx hb d_isPoint_12 rfl (lv_at hl 1 rfl) ?_
      refine lv_bipush (v := 120) hx hb d_isPoint_13 (by decide) ?_
      refine lv_icmp_ge (tgt := 22) hx hb d_isPoint_15 (by decide) (fun c_3 => ?_) (fun c_3 => ?_)
      · have h := (if_pos c_3).symm.trans h
        refine lv_iconst (v := 0) hx hb d_isPoint_22 (by decide) ?_
        exact W.zret (v := 0) hx hb hr rfl (fun t ht hW => ⟨_, rfl, h, ht⟩) (fun _ q => by cases q) d_isPoint_23
      · have h := (if_neg c_3).symm.trans h
        refine lv_iconst (v := 1) hx hb d_isPoint_18 (by decide) ?_
        refine lv_goto (tgt := 23) hx hb d_isPoint_19 (by decide) ?_
        exact W.zret (v := 1) hx hb hr rfl (fun t ht hW => ⟨_, rfl, h, ht⟩) (fun _ q => by cases q) d_isPoint_23
theorem ld_pt {G : ld_gT} {x r : Int32} (h : lf_isPoint G x = r) (c : ¬ r = 0) : vp_in x 120 := by
  unfold lf_isPoint at h
  by_cases h1 : x < 0
  · rw [if_pos h1] at h
    exact absurd h.symm c
  · rw [if_neg h1] at h
    by_cases h2 : G.2.2.2.2.2.2 ≤ x
    · rw [if_pos h2] at h
      exact absurd h.symm c
    · rw [if_neg h2] at h
      by_cases h3 : 120 ≤ x
      · rw [if_pos h3] at h
        exact absurd h.symm c
      · exact ld_rg h1 h3
def lf_isLoan (G : ld_gT) (p0 : Int32) : Int32 := ld_lt (lf_isPoint G p0) (fun r_1 => if r_1 = 0 then 0 else if (G.1 p0.toNatClampNeg) = 1 then 1 else 0)
set_option maxHeartbeats 4000000 in
set_option maxRecDepth 100000 in
theorem lc_isLoan (l : Launch) (D : va_G) (cI cZ cJ : ClassId) (a : Nat → Nat) (G : ld_gT) (p0 : Int32) (R : Int32) (h : lf_isLoan G p0 = R) : Met l y_isLoan (Cond.code y_isLoan prog_2_method_5_code 2 (some .boolean) :: bgT) ({ frames := 1, cells := 0, slots := 0, locals := 21 }) (ld_PR D cI cZ cJ (ld_gW a cI G) [.ref (a 1), .int p0]) (vp_Si (fun z => z = R)) 0 0 (fun _ => False) := by
  refine Met.ofW (cc := prog_2_method_5_code) (maxL := 2) (ret := (some .boolean)) (by decide) rfl ?_
  intro p e s m args below meth c s₁ B hml hv
  obtain ⟨rfl, hP, hK, hN⟩ := hv
  have hx := B.exec
  have hb := B.bytes
  have hr := B.returns
  have hg : ∀ w ∈ bgT, w.before _ s = true := fun w h => atoms_spec (ws := (Cond.code y_isLoan prog_2_method_5_code 2 (some .boolean) :: bgT)) B.pre w (List.mem_cons_of_mem _ h)
  have hown : s.vm.findClass "LoanDesk$Graph" = some m.cls := findClass_of_methodNamed B.named
  have hlocks := B.notSynchronized
  have hl := lv_entry ([.ref (a 1), .int p0]) (n := 2) (Nat.le_of_ble_eq_true rfl)
  rw [lg_entry_eq]
  generalize (lg_sl ([.ref (a 1), .int p0]) ++ List.replicate (2 - (lg_sl ([.ref (a 1), .int p0])).length) Slot.unset).toArray = ls at hl ⊢
  have hl : lv_has ls 2 [(0, .ref (a 1)), (1, .int p0)] := hl
  refine lv_aload_n hx hb d_isLoan_0 rfl (lv_at hl 0 rfl) ?_
  refine lv_iload_n hx hb d_isLoan_1 rfl (lv_at hl 1 rfl) ?_
  obtain ⟨r_1, e_1, h⟩ := ld_nm h
  refine ld_rd (W.runV (As := [.int p0]) (rest := []) ⟨hx, hb, hml, hown, hg⟩ (lc_isPoint l D cI cZ cJ a G p0 r_1 e_1) ⟨callB_of 1 hg (ld_gd k_155) rfl rfl rfl (hg _ k_24) (hg _ k_166) hd_isPoint ⟨Nat.le_of_ble_eq_true rfl, Nat.le_of_ble_eq_true rfl⟩, hg _ k_153, hg _ k_154⟩ (ld_preRV hP hK hN [0, 1, 2, 3, 4, 5, 6] rfl 0 0 rfl rfl) rfl rfl hl.1 rfl (lv_room (Nat.le_of_ble_eq_true rfl)) d_isLoan_2 ⟨Nat.zero_le _, Nat.zero_le _⟩) ?_
  refine lv_if_eq (tgt := 22) hx hb d_isLoan_5 (by decide) (fun c_2 => ?_) (fun c_2 => ?_)
  · have h := (if_pos c_2).symm.trans h
    refine lv_iconst (v := 0) hx hb d_isLoan_22 (by decide) ?_
    exact W.zret (v := 0) hx hb hr rfl (fun t ht hW => ⟨_, rfl, h, ht⟩) (fun _ q => by cases q) d_isLoan_23
  · have h := (if_neg c_2).symm.trans h
    refine lv_aload_n hx hb d_isLoan_8 rfl (lv_at hl 0 rfl) ?_
    refine va_get (D := D) (ci := 0) (v := .ref (a 2)) (C := "LoanDesk$Graph") (T := T_Graph) (N := 7) hx hb hg u_Graph hown hK hP 0 rfl rfl 0 (by decide) (hg _ k_46) (fun _ h9 => h9) rfl d_isLoan_9 ?_
    refine lv_iload_n hx hb d_isLoan_12 rfl (lv_at hl 1 rfl) ?_
    refine va_iald hx hb hK hP 1 0 rfl rfl (i := p0) (ld_pt e_1 c_2) d_isLoan_13 ?_
    refine lv_iconst (v := 1) hx hb d_isLoan_14 (by decide) ?_
    refine lv_icmp_ne (tgt := 22) hx hb d_isLoan_15 (by decide) (fun c_3 => ?_) (fun c_3 => ?_)
    · have h := (if_neg c_3).symm.trans h
      refine lv_iconst (v := 0) hx hb d_isLoan_22 (by decide) ?_
      exact W.zret (v := 0) hx hb hr rfl (fun t ht hW => ⟨_, rfl, h, ht⟩) (fun _ q => by cases q) d_isLoan_23
    · have h := (if_pos c_3).symm.trans h
      refine lv_iconst (v := 1) hx hb d_isLoan_18 (by decide) ?_
      refine lv_goto (tgt := 23) hx hb d_isLoan_19 (by decide) ?_
      exact W.zret (v := 1) hx hb hr rfl (fun t ht hW => ⟨_, rfl, h, ht⟩) (fun _ q => by cases q) d_isLoan_23
theorem ld_ln {G : ld_gT} {x r : Int32} (h : lf_isLoan G x = r) (c : ¬ r = 0) : vp_in x 120 := by
  obtain ⟨z, e, h⟩ := ld_nm h
  by_cases h1 : z = 0
  · have h := (if_pos h1).symm.trans h
    exact absurd h.symm c
  · exact ld_pt e h1
def lf_firstNext (G : ld_gT) (p0 : Int32) : Int32 := ld_lt (lf_isPoint G p0) (fun r_1 => if r_1 = 0 then (-1) else G.2.2.2.2.1 p0.toNatClampNeg)
set_option maxHeartbeats 4000000 in
set_option maxRecDepth 100000 in
theorem lc_firstNext (l : Launch) (D : va_G) (cI cZ cJ : ClassId) (a : Nat → Nat) (G : ld_gT) (p0 : Int32) (R : Int32) (h : lf_firstNext G p0 = R) : Met l y_firstNext (Cond.code y_firstNext prog_2_method_10_code 2 (some .int) :: bgT) ({ frames := 1, cells := 0, slots := 0, locals := 21 }) (ld_PR D cI cZ cJ (ld_gW a cI G) [.ref (a 1), .int p0]) (vp_Si (fun z => z = R)) 0 0 (fun _ => False) := by
  refine Met.ofW (cc := prog_2_method_10_code) (maxL := 2) (ret := (some .int)) (by decide) rfl ?_
  intro p e s m args below meth c s₁ B hml hv
  obtain ⟨rfl, hP, hK, hN⟩ := hv
  have hx := B.exec
  have hb := B.bytes
  have hr := B.returns
  have hg : ∀ w ∈ bgT, w.before _ s = true := fun w h => atoms_spec (ws := (Cond.code y_firstNext prog_2_method_10_code 2 (some .int) :: bgT)) B.pre w (List.mem_cons_of_mem _ h)
  have hown : s.vm.findClass "LoanDesk$Graph" = some m.cls := findClass_of_methodNamed B.named
  have hlocks := B.notSynchronized
  have hl := lv_entry ([.ref (a 1), .int p0]) (n := 2) (Nat.le_of_ble_eq_true rfl)
  rw [lg_entry_eq]
  generalize (lg_sl ([.ref (a 1), .int p0]) ++ List.replicate (2 - (lg_sl ([.ref (a 1), .int p0])).length) Slot.unset).toArray = ls at hl ⊢
  have hl : lv_has ls 2 [(0, .ref (a 1)), (1, .int p0)] := hl
  refine lv_aload_n hx hb d_firstNext_0 rfl (lv_at hl 0 rfl) ?_
  refine lv_iload_n hx hb d_firstNext_1 rfl (lv_at hl 1 rfl) ?_
  obtain ⟨r_1, e_1, h⟩ := ld_nm h
  refine ld_rd (W.runV (As := [.int p0]) (rest := []) ⟨hx, hb, hml, hown, hg⟩ (lc_isPoint l D cI cZ cJ a G p0 r_1 e_1) ⟨callB_of 1 hg (ld_gd k_155) rfl rfl rfl (hg _ k_24) (hg _ k_166) hd_isPoint ⟨Nat.le_of_ble_eq_true rfl, Nat.le_of_ble_eq_true rfl⟩, hg _ k_153, hg _ k_154⟩ (ld_preRV hP hK hN [0, 1, 2, 3, 4, 5, 6] rfl 0 0 rfl rfl) rfl rfl hl.1 rfl (lv_room (Nat.le_of_ble_eq_true rfl)) d_firstNext_2 ⟨Nat.zero_le _, Nat.zero_le _⟩) ?_
  refine lv_if_eq (tgt := 17) hx hb d_firstNext_5 (by decide) (fun c_2 => ?_) (fun c_2 => ?_)
  · have h := (if_pos c_2).symm.trans h
    refine lv_iconst (v := (-1)) hx hb d_firstNext_17 (by decide) ?_
    exact W.iret (v := (-1)) hx hb hr (fun t ht hW => ⟨_, rfl, h, ht⟩) (fun _ q => by cases q) d_firstNext_18
  · have h := (if_neg c_2).symm.trans h
    refine lv_aload_n hx hb d_firstNext_8 rfl (lv_at hl 0 rfl) ?_
    refine va_get (D := D) (ci := 0) (v := .ref (a 6)) (C := "LoanDesk$Graph") (T := T_Graph) (N := 7) hx hb hg u_Graph hown hK hP 0 rfl rfl 4 (by decide) (hg _ k_50) (fun _ h9 => h9) rfl d_firstNext_9 ?_
    refine lv_iload_n hx hb d_firstNext_12 rfl (lv_at hl 1 rfl) ?_
    refine va_iald hx hb hK hP 5 0 rfl rfl (i := p0) (ld_pt e_1 c_2) d_firstNext_13 ?_
    refine lv_goto (tgt := 18) hx hb d_firstNext_14 (by decide) ?_
    exact W.iret (v := G.2.2.2.2.1 p0.toNatClampNeg) hx hb hr (fun t ht hW => ⟨_, rfl, h, ht⟩) (fun _ q => by cases q) d_firstNext_18
def lf_secondNext (G : ld_gT) (p0 : Int32) : Int32 := ld_lt (lf_isPoint G p0) (fun r_1 => if r_1 = 0 then (-1) else G.2.2.2.2.2.1 p0.toNatClampNeg)
set_option maxHeartbeats 4000000 in
set_option maxRecDepth 100000 in
theorem lc_secondNext (l : Launch) (D : va_G) (cI cZ cJ : ClassId) (a : Nat → Nat) (G : ld_gT) (p0 : Int32) (R : Int32) (h : lf_secondNext G p0 = R) : Met l y_secondNext (Cond.code y_secondNext prog_2_method_11_code 2 (some .int) :: bgT) ({ frames := 1, cells := 0, slots := 0, locals := 21 }) (ld_PR D cI cZ cJ (ld_gW a cI G) [.ref (a 1), .int p0]) (vp_Si (fun z => z = R)) 0 0 (fun _ => False) := by
  refine Met.ofW (cc := prog_2_method_11_code) (maxL := 2) (ret := (some .int)) (by decide) rfl ?_
  intro p e s m args below meth c s₁ B hml hv
  obtain ⟨rfl, hP, hK, hN⟩ := hv
  have hx := B.exec
  have hb := B.bytes
  have hr := B.returns
  have hg : ∀ w ∈ bgT, w.before _ s = true := fun w h => atoms_spec (ws := (Cond.code y_secondNext prog_2_method_11_code 2 (some .int) :: bgT)) B.pre w (List.mem_cons_of_mem _ h)
  have hown : s.vm.findClass "LoanDesk$Graph" = some m.cls := findClass_of_methodNamed B.named
  have hlocks := B.notSynchronized
  have hl := lv_entry ([.ref (a 1), .int p0]) (n := 2) (Nat.le_of_ble_eq_true rfl)
  rw [lg_entry_eq]
  generalize (lg_sl ([.ref (a 1), .int p0]) ++ List.replicate (2 - (lg_sl ([.ref (a 1), .int p0])).length) Slot.unset).toArray = ls at hl ⊢
  have hl : lv_has ls 2 [(0, .ref (a 1)), (1, .int p0)] := hl
  refine lv_aload_n hx hb d_secondNext_0 rfl (lv_at hl 0 rfl) ?_
  refine lv_iload_n hx hb d_secondNext_1 rfl (lv_at hl 1 rfl) ?_
  obtain ⟨r_1, e_1, h⟩ := ld_nm h
  refine ld_rd (W.runV (As := [.int p0]) (rest := []) ⟨hx, hb, hml, hown, hg⟩ (lc_isPoint l D cI cZ cJ a G p0 r_1 e_1) ⟨callB_of 1 hg (ld_gd k_155) rfl rfl rfl (hg _ k_24) (hg _ k_166) hd_isPoint ⟨Nat.le_of_ble_eq_true rfl, Nat.le_of_ble_eq_true rfl⟩, hg _ k_153, hg _ k_154⟩ (ld_preRV hP hK hN [0, 1, 2, 3, 4, 5, 6] rfl 0 0 rfl rfl) rfl rfl hl.1 rfl (lv_room (Nat.le_of_ble_eq_true rfl)) d_secondNext_2 ⟨Nat.zero_le _, Nat.zero_le _⟩) ?_
  refine lv_if_eq (tgt := 17) hx hb d_secondNext_5 (by decide) (fun c_2 => ?_) (fun c_2 => ?_)
  · have h := (if_pos c_2).symm.trans h
    refine lv_iconst (v := (-1)) hx hb d_secondNext_17 (by decide) ?_
    exact W.iret (v := (-1)) hx hb hr (fun t ht hW => ⟨_, rfl, h, ht⟩) (fun _ q => by cases q) d_secondNext_18
  · have h := (if_neg c_2).symm.trans h
    refine lv_aload_n hx hb d_secondNext_8 rfl (lv_at hl 0 rfl) ?_
    refine va_get (D := D) (ci := 0) (v := .ref (a 7)) (C := "LoanDesk$Graph") (T := T_Graph) (N := 7) hx hb hg u_Graph hown hK hP 0 rfl rfl 5 (by decide) (hg _ k_51) (fun _ h9 => h9) rfl d_secondNext_9 ?_
    refine lv_iload_n hx hb d_secondNext_12 rfl (lv_at hl 1 rfl) ?_
    refine va_iald hx hb hK hP 6 0 rfl rfl (i := p0) (ld_pt e_1 c_2) d_secondNext_13 ?_
    refine lv_goto (tgt := 18) hx hb d_secondNext_14 (by decide) ?_
    exact W.iret (v := G.2.2.2.2.2.1 p0.toNatClampNeg) hx hb hr (fun t ht hW => ⟨_, rfl, h, ht⟩) (fun _ q => by cases q) d_secondNext_18
def ls_countLoans_1 (G : ld_gT) (v1 : Int32 × Int32) : Option ((Int32 × Int32) ⊕ (Int32 × Int32)) := if G.2.2.2.2.2.2 ≤ v1.2 then some (.inr (v1.1, v1.2)) else ld_lt (lf_isLoan G v1.2) (fun r_2 => if r_2 = 0 then some (.inl (v1.1, v1.2 + 1)) else some (.inl (v1.1 + 1, v1.2 + 1)))
def lm_countLoans (N : Nat) (G : ld_gT) : Option (Int32) := Option.bind (ld_it (ls_countLoans_1 G) N (0, 0)) (fun Y1 => some Y1.1)
set_option maxHeartbeats 4000000 in
set_option maxRecDepth 100000 in
theorem lc_countLoans (l : Launch) (D : va_G) (cI cZ cJ : ClassId) (a : Nat → Nat) (G : ld_gT) (N : Nat) (R : Int32) (h : lm_countLoans N G = some R) : Met l y_countLoans (Cond.code y_countLoans prog_2_method_6_code 3 (some .int) :: bgT) ({ frames := 2, cells := 0, slots := 0, locals := 42 }) (ld_PR D cI cZ cJ (ld_gW a cI G) [.ref (a 1)]) (vp_Si (fun z => z = R)) 0 0 (fun _ => False) := by
  refine Met.ofW (cc := prog_2_method_6_code) (maxL := 3) (ret := (some .int)) (by decide) rfl ?_
  intro p e s m args below meth c s₁ B hml hv
  obtain ⟨rfl, hP, hK, hN⟩ := hv
  have hx := B.exec
  have hb := B.bytes
  have hr := B.returns
  have hg : ∀ w ∈ bgT, w.before _ s = true := fun w h => atoms_spec (ws := (Cond.code y_countLoans prog_2_method_6_code 3 (some .int) :: bgT)) B.pre w (List.mem_cons_of_mem _ h)
  have hown : s.vm.findClass "LoanDesk$Graph" = some m.cls := findClass_of_methodNamed B.named
  have hlocks := B.notSynchronized
  have hl := lv_entry ([.ref (a 1)]) (n := 3) (Nat.le_of_ble_eq_true rfl)
  rw [lg_entry_eq]
  generalize (lg_sl ([.ref (a 1)]) ++ List.replicate (3 - (lg_sl ([.ref (a 1)])).length) Slot.unset).toArray = ls at hl ⊢
  have hl : lv_has ls 3 [(0, .ref (a 1))] := hl
  refine lv_iconst (v := 0) hx hb d_countLoans_0 (by decide) ?_
  refine lv_istore_n (lv' := [(1, .int 0), (0, .ref (a 1))]) hx hb d_countLoans_1 rfl hl (by decide) rfl (fun ls hl => ?_)
  refine lv_iconst (v := 0) hx hb d_countLoans_2 (by decide) ?_
  refine lv_istore_n (lv' := [(2, .int 0), (1, .int 0), (0, .ref (a 1))]) hx hb d_countLoans_3 rfl hl (by decide) rfl (fun ls hl => ?_)
  obtain ⟨Y1, eY1, h⟩ := ld_ob h
  have kont1 : ∀ (ls : Array Slot), lv_has ls 3 [(1, .int Y1.1)] → W p l e (headSpec (Cond.code y_countLoans prog_2_method_6_code 3 (some .int) :: bgT) ({ frames := 2, cells := 0, slots := 0, locals := 42 })).room s m ([.ref (a 1)] : List Value).toArray below meth c s.heap [] 0 0 (MQ below (vp_Si (fun z => z = R)) ([.ref (a 1)] : List Value).toArray s 0 0 (fun _ => False)) (F0 m 29 ls []) := by
    intro ls hl
    refine lv_iload_n hx hb d_countLoans_29 rfl (lv_at hl 0 rfl) ?_
    have h := Option.some.inj h
    exact W.iret (v := Y1.1) hx hb hr (fun t ht hW => ⟨_, rfl, h, ht⟩) (fun _ q => by cases q) d_countLoans_30
  have key1 : ∀ (n : Nat) (v1 : Int32 × Int32) (ls : Array Slot), ld_it (ls_countLoans_1 G) n v1 = some Y1 → lv_has ls 3 [(0, .ref (a 1)), (1, .int v1.1), (2, .int v1.2)] → W p l e (headSpec (Cond.code y_countLoans prog_2_method_6_code 3 (some .int) :: bgT) ({ frames := 2, cells := 0, slots := 0, locals := 42 })).room s m ([.ref (a 1)] : List Value).toArray below meth c s.heap [] 0 0 (MQ below (vp_Si (fun z => z = R)) ([.ref (a 1)] : List Value).toArray s 0 0 (fun _ => False)) (F0 m 4 ls []) := by
    intro n
    induction n with
    | zero => intro v1 ls g1 hl; cases g1
    | succ n ih1 =>
      intro v1 ls g1 hl
      obtain ⟨z1, hy1, g1⟩ := ld_its g1
      refine lv_iload_n hx hb d_countLoans_4 rfl (lv_at hl 2 rfl) ?_
      refine lv_aload_n hx hb d_countLoans_5 rfl (lv_at hl 0 rfl) ?_
      refine va_get (D := D) (ci := 0) (v := .int G.2.2.2.2.2.2) (C := "LoanDesk$Graph") (T := T_Graph) (N := 7) hx hb hg u_Graph hown hK hP 0 rfl rfl 6 (by decide) (hg _ k_52) (fun _ h9 => h9) rfl d_countLoans_6 ?_
      refine lv_icmp_ge (tgt := 29) hx hb d_countLoans_9 (by decide) (fun c_1 => ?_) (fun c_1 => ?_)
      · have hy1 := (if_pos c_1).symm.trans hy1
        obtain rfl := Option.some.inj hy1
        obtain rfl := Option.some.inj g1
        exact kont1 _ (lv_sub hl [1] rfl)
      · have hy1 := (if_neg c_1).symm.trans hy1
        refine lv_aload_n hx hb d_countLoans_12 rfl (lv_at hl 0 rfl) ?_
        refine lv_iload_n hx hb d_countLoans_13 rfl (lv_at hl 2 rfl) ?_
        obtain ⟨r_2, e_2, hy1⟩ := ld_nm hy1
        refine ld_rd (W.runV (As := [.int v1.2]) (rest := []) ⟨hx, hb, hml, hown, hg⟩ (lc_isLoan l D cI cZ cJ a G v1.2 r_2 e_2) ⟨callB_of 1 hg (ld_gd k_242) rfl rfl rfl (hg _ k_24) (hg _ k_304) hd_isLoan ⟨Nat.le_of_ble_eq_true rfl, Nat.le_of_ble_eq_true rfl⟩, hg _ k_240, hg _ k_241⟩ (ld_preRV hP hK hN [0, 1, 2, 3, 4, 5, 6] rfl 0 0 rfl rfl) rfl rfl hl.1 rfl (lv_room (Nat.le_of_ble_eq_true rfl)) d_countLoans_14 ⟨Nat.zero_le _, Nat.zero_le _⟩) ?_
        refine lv_if_eq (tgt := 23) hx hb d_countLoans_17 (by decide) (fun c_3 => ?_) (fun c_3 => ?_)
        · have hy1 := (if_pos c_3).symm.trans hy1
          refine lv_iinc (v := v1.2 + 1) (lv' := [(2, .int (v1.2 + 1)), (0, .ref (a 1)), (1, .int v1.1)]) hx hb d_countLoans_23 hl (k := 2) rfl rfl (by decide) rfl (fun ls hl => ?_)
          refine lv_goto (tgt := 4) hx hb d_countLoans_26 (by decide) ?_
          obtain rfl := Option.some.inj hy1
          exact ih1 (v1.1, v1.2 + 1) _ g1 (lv_sub hl [1, 2, 0] rfl)
        · have hy1 := (if_neg c_3).symm.trans hy1
          refine lv_iinc (v := v1.1 + 1) (lv' := [(1, .int (v1.1 + 1)), (0, .ref (a 1)), (2, .int v1.2)]) hx hb d_countLoans_20 hl (k := 1) rfl rfl (by decide) rfl (fun ls hl => ?_)
          refine lv_iinc (v := v1.2 + 1) (lv' := [(2, .int (v1.2 + 1)), (1, .int (v1.1 + 1)), (0, .ref (a 1))]) hx hb d_countLoans_23 hl (k := 2) rfl rfl (by decide) rfl (fun ls hl => ?_)
          refine lv_goto (tgt := 4) hx hb d_countLoans_26 (by decide) ?_
          obtain rfl := Option.some.inj hy1
          exact ih1 (v1.1 + 1, v1.2 + 1) _ g1 (lv_sub hl [2, 1, 0] rfl)
  exact key1 N (0, 0) _ eY1 (lv_sub hl [2, 1, 0] rfl)
def lm_add (N : Nat) (G : ld_gT) (p0 : Int32) (p1 : Int32) (p2 : Int32) (p3 : Int32) : Option (Int32 × ld_gT) := ld_lt (lf_hasRoom G) (fun r_1 => if r_1 = 0 then some ((-1), G) else if ld_in G.2.2.2.2.2.2 120 = true then (some (G.2.2.2.2.2.2, (upd G.1 G.2.2.2.2.2.2.toNatClampNeg p0, upd G.2.1 G.2.2.2.2.2.2.toNatClampNeg p1, upd G.2.2.1 G.2.2.2.2.2.2.toNatClampNeg p2, upd G.2.2.2.1 G.2.2.2.2.2.2.toNatClampNeg p3, upd G.2.2.2.2.1 G.2.2.2.2.2.2.toNatClampNeg (G.2.2.2.2.2.2 + 1), upd G.2.2.2.2.2.1 G.2.2.2.2.2.2.toNatClampNeg (-1), G.2.2.2.2.2.2 + 1))) else none)
set_option maxHeartbeats 4000000 in
set_option maxRecDepth 100000 in
theorem lc_add (l : Launch) (D : va_G) (cI cZ cJ : ClassId) (a : Nat → Nat) (G : ld_gT) (p0 : Int32) (p1 : Int32) (p2 : Int32) (p3 : Int32) (sz : Nat) (N : Nat) (R : Int32 × ld_gT) (h : lm_add N G p0 p1 p2 p3 = some R) : Met l y_add (Cond.code y_add prog_2_method_7_code 6 (some .int) :: bgT) ({ frames := 1, cells := 0, slots := 0, locals := 20 }) (ld_PM D cI cZ cJ (ld_gW a cI G) sz [.ref (a 1), .int p0, .int p1, .int p2, .int p3]) (ld_QI D (ld_gW a cI R.2) (va_A (ld_gW a cI G) sz) R.1) 0 0 ((va_A (ld_gW a cI G) sz)) := by
  refine Met.ofW (cc := prog_2_method_7_code) (maxL := 6) (ret := (some .int)) (by decide) rfl ?_
  intro p e s m args below meth c s₁ B hml hv
  obtain ⟨rfl, hsz, hP, hK, hD0, hN⟩ := hv
  have hx := B.exec
  have hb := B.bytes
  have hr := B.returns
  have hg : ∀ w ∈ bgT, w.before _ s = true := fun w h => atoms_spec (ws := (Cond.code y_add prog_2_method_7_code 6 (some .int) :: bgT)) B.pre w (List.mem_cons_of_mem _ h)
  have hown : s.vm.findClass "LoanDesk$Graph" = some m.cls := findClass_of_methodNamed B.named
  have hlocks := B.notSynchronized
  subst hsz
  have hD := hD0.self (sz := s.heap.size)
  generalize hAe : va_A (ld_gW a cI G) s.heap.size = A at hD ⊢
  have hA : ∀ q : Nat, s.heap.size ≤ q → A q := fun q h => by rw [← hAe]; exact Or.inr h
  have hS : va_S A s.heap s.heap [] := va_S.rf
  have hl := lv_entry ([.ref (a 1), .int p0, .int p1, .int p2, .int p3]) (n := 6) (Nat.le_of_ble_eq_true rfl)
  rw [lg_entry_eq]
  generalize (lg_sl ([.ref (a 1), .int p0, .int p1, .int p2, .int p3]) ++ List.replicate (6 - (lg_sl ([.ref (a 1), .int p0, .int p1, .int p2, .int p3])).length) Slot.unset).toArray = ls at hl ⊢
  have hl : lv_has ls 6 [(0, .ref (a 1)), (1, .int p0), (2, .int p1), (3, .int p2), (4, .int p3)] := hl
  refine lv_aload_n hx hb d_add_0 rfl (lv_at hl 0 rfl) ?_
  obtain ⟨r_1, e_1, h⟩ := ld_nm h
  refine ld_rd (W.runV (As := []) (rest := []) ⟨hx, hb, hml, hown, hg⟩ (lc_hasRoom l D cI cZ cJ a G r_1 e_1) ⟨callB_of 0 hg (ld_gd k_139) rfl rfl rfl (hg _ k_24) (hg _ k_147) hd_hasRoom ⟨Nat.le_of_ble_eq_true rfl, Nat.le_of_ble_eq_true rfl⟩, hg _ k_137, hg _ k_138⟩ (ld_preRV hP hK hN [0, 1, 2, 3, 4, 5, 6] rfl 0 0 rfl rfl) rfl rfl hl.1 rfl (lv_room (Nat.le_of_ble_eq_true rfl)) d_add_1 ⟨Nat.zero_le _, Nat.zero_le _⟩) ?_
  refine lv_if_ne (tgt := 9) hx hb d_add_4 (by decide) (fun c_2 => ?_) (fun c_2 => ?_)
  · have h := (if_neg c_2).symm.trans h
    refine lv_aload_n hx hb d_add_9 rfl (lv_at hl 0 rfl) ?_
    refine va_get (D := D) (ci := 0) (v := .int G.2.2.2.2.2.2) (C := "LoanDesk$Graph") (T := T_Graph) (N := 7) hx hb hg u_Graph hown hK hP 0 rfl rfl 6 (by decide) (hg _ k_52) (fun _ h9 => h9) rfl d_add_10 ?_
    refine lv_istore (lv' := [(5, .int G.2.2.2.2.2.2), (0, .ref (a 1)), (1, .int p0), (2, .int p1), (3, .int p2), (4, .int p3)]) hx hb d_add_13 hl (by decide) rfl (fun ls hl => ?_)
    refine lv_aload_n hx hb d_add_15 rfl (lv_at hl 1 rfl) ?_
    refine va_get (D := D) (ci := 0) (v := .ref (a 2)) (C := "LoanDesk$Graph") (T := T_Graph) (N := 7) hx hb hg u_Graph hown hK hP 0 rfl rfl 0 (by decide) (hg _ k_46) (fun _ h9 => h9) rfl d_add_16 ?_
    refine lv_iload hx hb d_add_19 (lv_at hl 0 rfl) ?_
    refine lv_iload_n hx hb d_add_21 rfl (lv_at hl 2 rfl) ?_
    obtain ⟨i_3, h⟩ := ld_grd h
    refine va_iast hx hb hK hP hD hS 1 0 rfl rfl (i := G.2.2.2.2.2.2) i_3 d_add_22 (fun H locs hP hD hS => ?_)
    have hP : va_P D vwCl (ld_gW a cI (upd G.1 G.2.2.2.2.2.2.toNatClampNeg p0, G.2.1, G.2.2.1, G.2.2.2.1, G.2.2.2.2.1, G.2.2.2.2.2.1, G.2.2.2.2.2.2)) H := hP
    have hD : va_D A (ld_gW a cI (upd G.1 G.2.2.2.2.2.2.toNatClampNeg p0, G.2.1, G.2.2.1, G.2.2.2.1, G.2.2.2.2.1, G.2.2.2.2.2.1, G.2.2.2.2.2.2)) := hD
    refine lv_aload_n hx hb d_add_23 rfl (lv_at hl 1 rfl) ?_
    refine va_get (D := D) (ci := 0) (v := .ref (a 3)) (C := "LoanDesk$Graph") (T := T_Graph) (N := 7) hx hb hg u_Graph hown hK hP 0 rfl rfl 1 (by decide) (hg _ k_47) (fun _ h9 => h9) rfl d_add_24 ?_
    refine lv_iload hx hb d_add_27 (lv_at hl 0 rfl) ?_
    refine lv_iload_n hx hb d_add_29 rfl (lv_at hl 3 rfl) ?_
    refine va_iast hx hb hK hP hD hS 2 0 rfl rfl (i := G.2.2.2.2.2.2) i_3 d_add_30 (fun H locs hP hD hS => ?_)
    have hP : va_P D vwCl (ld_gW a cI (upd G.1 G.2.2.2.2.2.2.toNatClampNeg p0, upd G.2.1 G.2.2.2.2.2.2.toNatClampNeg p1, G.2.2.1, G.2.2.2.1, G.2.2.2.2.1, G.2.2.2.2.2.1, G.2.2.2.2.2.2)) H := hP
    have hD : va_D A (ld_gW a cI (upd G.1 G.2.2.2.2.2.2.toNatClampNeg p0, upd G.2.1 G.2.2.2.2.2.2.toNatClampNeg p1, G.2.2.1, G.2.2.2.1, G.2.2.2.2.1, G.2.2.2.2.2.1, G.2.2.2.2.2.2)) := hD
    refine lv_aload_n hx hb d_add_31 rfl (lv_at hl 1 rfl) ?_
    refine va_get (D := D) (ci := 0) (v := .ref (a 4)) (C := "LoanDesk$Graph") (T := T_Graph) (N := 7) hx hb hg u_Graph hown hK hP 0 rfl rfl 2 (by decide) (hg _ k_48) (fun _ h9 => h9) rfl d_add_32 ?_
    refine lv_iload hx hb d_add_35 (lv_at hl 0 rfl) ?_
    refine lv_iload_n hx hb d_add_37 rfl (lv_at hl 4 rfl) ?_
    refine va_iast hx hb hK hP hD hS 3 0 rfl rfl (i := G.2.2.2.2.2.2) i_3 d_add_38 (fun H locs hP hD hS => ?_)
    have hP : va_P D vwCl (ld_gW a cI (upd G.1 G.2.2.2.2.2.2.toNatClampNeg p0, upd G.2.1 G.2.2.2.2.2.2.toNatClampNeg p1, upd G.2.2.1 G.2.2.2.2.2.2.toNatClampNeg p2, G.2.2.2.1, G.2.2.2.2.1, G.2.2.2.2.2.1, G.2.2.2.2.2.2)) H := hP
    have hD : va_D A (ld_gW a cI (upd G.1 G.2.2.2.2.2.2.toNatClampNeg p0, upd G.2.1 G.2.2.2.2.2.2.toNatClampNeg p1, upd G.2.2.1 G.2.2.2.2.2.2.toNatClampNeg p2, G.2.2.2.1, G.2.2.2.2.1, G.2.2.2.2.2.1, G.2.2.2.2.2.2)) := hD
    refine lv_aload_n hx hb d_add_39 rfl (lv_at hl 1 rfl) ?_
    refine va_get (D := D) (ci := 0) (v := .ref (a 5)) (C := "LoanDesk$Graph") (T := T_Graph) (N := 7) hx hb hg u_Graph hown hK hP 0 rfl rfl 3 (by decide) (hg _ k_49) (fun _ h9 => h9) rfl d_add_40 ?_
    refine lv_iload hx hb d_add_43 (lv_at hl 0 rfl) ?_
    refine lv_iload hx hb d_add_45 (lv_at hl 5 rfl) ?_
    refine va_iast hx hb hK hP hD hS 4 0 rfl rfl (i := G.2.2.2.2.2.2) i_3 d_add_47 (fun H locs hP hD hS => ?_)
    have hP : va_P D vwCl (ld_gW a cI (upd G.1 G.2.2.2.2.2.2.toNatClampNeg p0, upd G.2.1 G.2.2.2.2.2.2.toNatClampNeg p1, upd G.2.2.1 G.2.2.2.2.2.2.toNatClampNeg p2, upd G.2.2.2.1 G.2.2.2.2.2.2.toNatClampNeg p3, G.2.2.2.2.1, G.2.2.2.2.2.1, G.2.2.2.2.2.2)) H := hP
    have hD : va_D A (ld_gW a cI (upd G.1 G.2.2.2.2.2.2.toNatClampNeg p0, upd G.2.1 G.2.2.2.2.2.2.toNatClampNeg p1, upd G.2.2.1 G.2.2.2.2.2.2.toNatClampNeg p2, upd G.2.2.2.1 G.2.2.2.2.2.2.toNatClampNeg p3, G.2.2.2.2.1, G.2.2.2.2.2.1, G.2.2.2.2.2.2)) := hD
    refine lv_aload_n hx hb d_add_48 rfl (lv_at hl 1 rfl) ?_
    refine va_get (D := D) (ci := 0) (v := .ref (a 6)) (C := "LoanDesk$Graph") (T := T_Graph) (N := 7) hx hb hg u_Graph hown hK hP 0 rfl rfl 4 (by decide) (hg _ k_50) (fun _ h9 => h9) rfl d_add_49 ?_
    refine lv_iload hx hb d_add_52 (lv_at hl 0 rfl) ?_
    refine lv_iload hx hb d_add_54 (lv_at hl 0 rfl) ?_
    refine lv_iconst (v := 1) hx hb d_add_56 (by decide) ?_
    refine lv_iadd hx hb d_add_57 ?_
    refine va_iast hx hb hK hP hD hS 5 0 rfl rfl (i := G.2.2.2.2.2.2) i_3 d_add_58 (fun H locs hP hD hS => ?_)
    have hP : va_P D vwCl (ld_gW a cI (upd G.1 G.2.2.2.2.2.2.toNatClampNeg p0, upd G.2.1 G.2.2.2.2.2.2.toNatClampNeg p1, upd G.2.2.1 G.2.2.2.2.2.2.toNatClampNeg p2, upd G.2.2.2.1 G.2.2.2.2.2.2.toNatClampNeg p3, upd G.2.2.2.2.1 G.2.2.2.2.2.2.toNatClampNeg (G.2.2.2.2.2.2 + 1), G.2.2.2.2.2.1, G.2.2.2.2.2.2)) H := hP
    have hD : va_D A (ld_gW a cI (upd G.1 G.2.2.2.2.2.2.toNatClampNeg p0, upd G.2.1 G.2.2.2.2.2.2.toNatClampNeg p1, upd G.2.2.1 G.2.2.2.2.2.2.toNatClampNeg p2, upd G.2.2.2.1 G.2.2.2.2.2.2.toNatClampNeg p3, upd G.2.2.2.2.1 G.2.2.2.2.2.2.toNatClampNeg (G.2.2.2.2.2.2 + 1), G.2.2.2.2.2.1, G.2.2.2.2.2.2)) := hD
    refine lv_aload_n hx hb d_add_59 rfl (lv_at hl 1 rfl) ?_
    refine va_get (D := D) (ci := 0) (v := .ref (a 7)) (C := "LoanDesk$Graph") (T := T_Graph) (N := 7) hx hb hg u_Graph hown hK hP 0 rfl rfl 5 (by decide) (hg _ k_51) (fun _ h9 => h9) rfl d_add_60 ?_
    refine lv_iload hx hb d_add_63 (lv_at hl 0 rfl) ?_
    refine lv_iconst (v := (-1)) hx hb d_add_65 (by decide) ?_
    refine va_iast hx hb hK hP hD hS 6 0 rfl rfl (i := G.2.2.2.2.2.2) i_3 d_add_66 (fun H locs hP hD hS => ?_)
    have hP : va_P D vwCl (ld_gW a cI (upd G.1 G.2.2.2.2.2.2.toNatClampNeg p0, upd G.2.1 G.2.2.2.2.2.2.toNatClampNeg p1, upd G.2.2.1 G.2.2.2.2.2.2.toNatClampNeg p2, upd G.2.2.2.1 G.2.2.2.2.2.2.toNatClampNeg p3, upd G.2.2.2.2.1 G.2.2.2.2.2.2.toNatClampNeg (G.2.2.2.2.2.2 + 1), upd G.2.2.2.2.2.1 G.2.2.2.2.2.2.toNatClampNeg (-1), G.2.2.2.2.2.2)) H := hP
    have hD : va_D A (ld_gW a cI (upd G.1 G.2.2.2.2.2.2.toNatClampNeg p0, upd G.2.1 G.2.2.2.2.2.2.toNatClampNeg p1, upd G.2.2.1 G.2.2.2.2.2.2.toNatClampNeg p2, upd G.2.2.2.1 G.2.2.2.2.2.2.toNatClampNeg p3, upd G.2.2.2.2.1 G.2.2.2.2.2.2.toNatClampNeg (G.2.2.2.2.2.2 + 1), upd G.2.2.2.2.2.1 G.2.2.2.2.2.2.toNatClampNeg (-1), G.2.2.2.2.2.2)) := hD
    refine lv_aload_n hx hb d_add_67 rfl (lv_at hl 1 rfl) ?_
    refine lv_iload hx hb d_add_68 (lv_at hl 0 rfl) ?_
    refine lv_iconst (v := 1) hx hb d_add_70 (by decide) ?_
    refine lv_iadd hx hb d_add_71 ?_
    refine va_put (D := D) (ci := 0) (v := .int (G.2.2.2.2.2.2 + 1)) (ty := .int) (C := "LoanDesk$Graph") (T := T_Graph) (N := 7) hx hb hg u_Graph t_Graph tk_Graph n_Graph hown hK hP hD hS 0 rfl rfl 6 (by decide) (hg _ k_52) (fun _ h9 => h9) rfl (by decide +kernel) rfl rfl (Nat.le_of_ble_eq_true rfl) d_add_72 (fun H locs hP hD hS => ?_)
    have hP : va_P D vwCl (ld_gW a cI (upd G.1 G.2.2.2.2.2.2.toNatClampNeg p0, upd G.2.1 G.2.2.2.2.2.2.toNatClampNeg p1, upd G.2.2.1 G.2.2.2.2.2.2.toNatClampNeg p2, upd G.2.2.2.1 G.2.2.2.2.2.2.toNatClampNeg p3, upd G.2.2.2.2.1 G.2.2.2.2.2.2.toNatClampNeg (G.2.2.2.2.2.2 + 1), upd G.2.2.2.2.2.1 G.2.2.2.2.2.2.toNatClampNeg (-1), G.2.2.2.2.2.2 + 1)) H := hP
    have hD : va_D A (ld_gW a cI (upd G.1 G.2.2.2.2.2.2.toNatClampNeg p0, upd G.2.1 G.2.2.2.2.2.2.toNatClampNeg p1, upd G.2.2.1 G.2.2.2.2.2.2.toNatClampNeg p2, upd G.2.2.2.1 G.2.2.2.2.2.2.toNatClampNeg p3, upd G.2.2.2.2.1 G.2.2.2.2.2.2.toNatClampNeg (G.2.2.2.2.2.2 + 1), upd G.2.2.2.2.2.1 G.2.2.2.2.2.2.toNatClampNeg (-1), G.2.2.2.2.2.2 + 1)) := hD
    refine lv_iload hx hb d_add_75 (lv_at hl 0 rfl) ?_
    have h := Option.some.inj h
    subst h
    exact W.iret (v := G.2.2.2.2.2.2) hx hb hr (fun t ht hW => ⟨⟨_, (), rfl, rfl, by rw [ht]; exact hP, hD⟩, hS.F ht⟩) hS.2.2 d_add_77
  · have h := (if_pos c_2).symm.trans h
    refine lv_iconst (v := (-1)) hx hb d_add_7 (by decide) ?_
    have h := Option.some.inj h
    subst h
    exact W.iret (v := (-1)) hx hb hr (fun t ht hW => ⟨⟨_, (), rfl, rfl, by rw [ht]; exact hP, hD⟩, hS.F ht⟩) hS.2.2 d_add_8
def lf_tellNext (G : ld_gT) (p0 : Int32) (p1 : Int32) (p2 : Int32) : ld_gT := ld_lt (lf_isPoint G p0) (fun r_1 => if r_1 = 0 then G else (G.1, G.2.1, G.2.2.1, G.2.2.2.1, upd G.2.2.2.2.1 p0.toNatClampNeg p1, upd G.2.2.2.2.2.1 p0.toNatClampNeg p2, G.2.2.2.2.2.2))
set_option maxHeartbeats 4000000 in
set_option maxRecDepth 100000 in
theorem lc_tellNext (l : Launch) (D : va_G) (cI cZ cJ : ClassId) (a : Nat → Nat) (G : ld_gT) (p0 : Int32) (p1 : Int32) (p2 : Int32) (sz : Nat) (R : ld_gT) (h : lf_tellNext G p0 p1 p2 = R) : Met l y_tellNext (Cond.code y_tellNext prog_2_method_8_code 4 none :: bgT) ({ frames := 1, cells := 0, slots := 0, locals := 21 }) (ld_PM D cI cZ cJ (ld_gW a cI G) sz [.ref (a 1), .int p0, .int p1, .int p2]) (ld_QV D (ld_gW a cI R) (va_A (ld_gW a cI G) sz)) 0 0 ((va_A (ld_gW a cI G) sz)) := by
  refine Met.ofW (cc := prog_2_method_8_code) (maxL := 4) (ret := none) (by decide) rfl ?_
  intro p e s m args below meth c s₁ B hml hv
  obtain ⟨rfl, hsz, hP, hK, hD0, hN⟩ := hv
  have hx := B.exec
  have hb := B.bytes
  have hr := B.returns
  have hg : ∀ w ∈ bgT, w.before _ s = true := fun w h => atoms_spec (ws := (Cond.code y_tellNext prog_2_method_8_code 4 none :: bgT)) B.pre w (List.mem_cons_of_mem _ h)
  have hown : s.vm.findClass "LoanDesk$Graph" = some m.cls := findClass_of_methodNamed B.named
  have hlocks := B.notSynchronized
  subst hsz
  have hD := hD0.self (sz := s.heap.size)
  generalize hAe : va_A (ld_gW a cI G) s.heap.size = A at hD ⊢
  have hA : ∀ q : Nat, s.heap.size ≤ q → A q := fun q h => by rw [← hAe]; exact Or.inr h
  have hS : va_S A s.heap s.heap [] := va_S.rf
  have hl := lv_entry ([.ref (a 1), .int p0, .int p1, .int p2]) (n := 4) (Nat.le_of_ble_eq_true rfl)
  rw [lg_entry_eq]
  generalize (lg_sl ([.ref (a 1), .int p0, .int p1, .int p2]) ++ List.replicate (4 - (lg_sl ([.ref (a 1), .int p0, .int p1, .int p2])).length) Slot.unset).toArray = ls at hl ⊢
  have hl : lv_has ls 4 [(0, .ref (a 1)), (1, .int p0), (2, .int p1), (3, .int p2)] := hl
  refine lv_aload_n hx hb d_tellNext_0 rfl (lv_at hl 0 rfl) ?_
  refine lv_iload_n hx hb d_tellNext_1 rfl (lv_at hl 1 rfl) ?_
  obtain ⟨r_1, e_1, h⟩ := ld_nm h
  refine ld_rd (W.runV (As := [.int p0]) (rest := []) ⟨hx, hb, hml, hown, hg⟩ (lc_isPoint l D cI cZ cJ a G p0 r_1 e_1) ⟨callB_of 1 hg (ld_gd k_155) rfl rfl rfl (hg _ k_24) (hg _ k_166) hd_isPoint ⟨Nat.le_of_ble_eq_true rfl, Nat.le_of_ble_eq_true rfl⟩, hg _ k_153, hg _ k_154⟩ (ld_preRV hP hK hN [0, 1, 2, 3, 4, 5, 6] rfl 0 0 rfl rfl) rfl rfl hl.1 rfl (lv_room (Nat.le_of_ble_eq_true rfl)) d_tellNext_2 ⟨Nat.zero_le _, Nat.zero_le _⟩) ?_
  refine lv_if_eq (tgt := 22) hx hb d_tellNext_5 (by decide) (fun c_2 => ?_) (fun c_2 => ?_)
  · have h := (if_pos c_2).symm.trans h
    subst h
    exact W.vret hx hb hr (fun t ht hW => ⟨⟨(), rfl, trivial, by rw [ht]; exact hP, hD⟩, hS.F ht⟩) hS.2.2 d_tellNext_22
  · have h := (if_neg c_2).symm.trans h
    refine lv_aload_n hx hb d_tellNext_8 rfl (lv_at hl 0 rfl) ?_
    refine va_get (D := D) (ci := 0) (v := .ref (a 6)) (C := "LoanDesk$Graph") (T := T_Graph) (N := 7) hx hb hg u_Graph hown hK hP 0 rfl rfl 4 (by decide) (hg _ k_50) (fun _ h9 => h9) rfl d_tellNext_9 ?_
    refine lv_iload_n hx hb d_tellNext_12 rfl (lv_at hl 1 rfl) ?_
    refine lv_iload_n hx hb d_tellNext_13 rfl (lv_at hl 2 rfl) ?_
    refine va_iast hx hb hK hP hD hS 5 0 rfl rfl (i := p0) (ld_pt e_1 c_2) d_tellNext_14 (fun H locs hP hD hS => ?_)
    have hP : va_P D vwCl (ld_gW a cI (G.1, G.2.1, G.2.2.1, G.2.2.2.1, upd G.2.2.2.2.1 p0.toNatClampNeg p1, G.2.2.2.2.2.1, G.2.2.2.2.2.2)) H := hP
    have hD : va_D A (ld_gW a cI (G.1, G.2.1, G.2.2.1, G.2.2.2.1, upd G.2.2.2.2.1 p0.toNatClampNeg p1, G.2.2.2.2.2.1, G.2.2.2.2.2.2)) := hD
    refine lv_aload_n hx hb d_tellNext_15 rfl (lv_at hl 0 rfl) ?_
    refine va_get (D := D) (ci := 0) (v := .ref (a 7)) (C := "LoanDesk$Graph") (T := T_Graph) (N := 7) hx hb hg u_Graph hown hK hP 0 rfl rfl 5 (by decide) (hg _ k_51) (fun _ h9 => h9) rfl d_tellNext_16 ?_
    refine lv_iload_n hx hb d_tellNext_19 rfl (lv_at hl 1 rfl) ?_
    refine lv_iload_n hx hb d_tellNext_20 rfl (lv_at hl 3 rfl) ?_
    refine va_iast hx hb hK hP hD hS 6 0 rfl rfl (i := p0) (ld_pt e_1 c_2) d_tellNext_21 (fun H locs hP hD hS => ?_)
    have hP : va_P D vwCl (ld_gW a cI (G.1, G.2.1, G.2.2.1, G.2.2.2.1, upd G.2.2.2.2.1 p0.toNatClampNeg p1, upd G.2.2.2.2.2.1 p0.toNatClampNeg p2, G.2.2.2.2.2.2)) H := hP
    have hD : va_D A (ld_gW a cI (G.1, G.2.1, G.2.2.1, G.2.2.2.1, upd G.2.2.2.2.1 p0.toNatClampNeg p1, upd G.2.2.2.2.2.1 p0.toNatClampNeg p2, G.2.2.2.2.2.2)) := hD
    subst h
    exact W.vret hx hb hr (fun t ht hW => ⟨⟨(), rfl, trivial, by rw [ht]; exact hP, hD⟩, hS.F ht⟩) hS.2.2 d_tellNext_22
def lf_gempty (G : ld_gT) : ld_gT := (G.1, G.2.1, G.2.2.1, G.2.2.2.1, G.2.2.2.2.1, G.2.2.2.2.2.1, 0)
set_option maxHeartbeats 4000000 in
set_option maxRecDepth 100000 in
theorem lc_gempty (l : Launch) (D : va_G) (cI cZ cJ : ClassId) (a : Nat → Nat) (G : ld_gT) (sz : Nat) (R : ld_gT) (h : lf_gempty G = R) : Met l y_gempty (Cond.code y_gempty prog_2_method_9_code 1 none :: bgT) ({ frames := 0, cells := 0, slots := 0, locals := 0 }) (ld_PM D cI cZ cJ (ld_gW a cI G) sz [.ref (a 1)]) (ld_QV D (ld_gW a cI R) (va_A (ld_gW a cI G) sz)) 0 0 ((va_A (ld_gW a cI G) sz)) := by
  refine Met.ofW (cc := prog_2_method_9_code) (maxL := 1) (ret := none) (by decide) rfl ?_
  intro p e s m args below meth c s₁ B hml hv
  obtain ⟨rfl, hsz, hP, hK, hD0, hN⟩ := hv
  have hx := B.exec
  have hb := B.bytes
  have hr := B.returns
  have hg : ∀ w ∈ bgT, w.before _ s = true := fun w h => atoms_spec (ws := (Cond.code y_gempty prog_2_method_9_code 1 none :: bgT)) B.pre w (List.mem_cons_of_mem _ h)
  have hown : s.vm.findClass "LoanDesk$Graph" = some m.cls := findClass_of_methodNamed B.named
  have hlocks := B.notSynchronized
  subst hsz
  have hD := hD0.self (sz := s.heap.size)
  generalize hAe : va_A (ld_gW a cI G) s.heap.size = A at hD ⊢
  have hA : ∀ q : Nat, s.heap.size ≤ q → A q := fun q h => by rw [← hAe]; exact Or.inr h
  have hS : va_S A s.heap s.heap [] := va_S.rf
  have hl := lv_entry ([.ref (a 1)]) (n := 1) (Nat.le_of_ble_eq_true rfl)
  rw [lg_entry_eq]
  generalize (lg_sl ([.ref (a 1)]) ++ List.replicate (1 - (lg_sl ([.ref (a 1)])).length) Slot.unset).toArray = ls at hl ⊢
  have hl : lv_has ls 1 [(0, .ref (a 1))] := hl
  refine lv_aload_n hx hb d_gempty_0 rfl (lv_at hl 0 rfl) ?_
  refine lv_iconst (v := 0) hx hb d_gempty_1 (by decide) ?_
  refine va_put (D := D) (ci := 0) (v := .int 0) (ty := .int) (C := "LoanDesk$Graph") (T := T_Graph) (N := 7) hx hb hg u_Graph t_Graph tk_Graph n_Graph hown hK hP hD hS 0 rfl rfl 6 (by decide) (hg _ k_52) (fun _ h9 => h9) rfl (by decide +kernel) rfl rfl (Nat.le_of_ble_eq_true rfl) d_gempty_2 (fun H locs hP hD hS => ?_)
  have hP : va_P D vwCl (ld_gW a cI (G.1, G.2.1, G.2.2.1, G.2.2.2.1, G.2.2.2.2.1, G.2.2.2.2.2.1, 0)) H := hP
  have hD : va_D A (ld_gW a cI (G.1, G.2.1, G.2.2.1, G.2.2.2.1, G.2.2.2.2.1, G.2.2.2.2.2.1, 0)) := hD
  subst h
  exact W.vret hx hb hr (fun t ht hW => ⟨⟨(), rfl, trivial, by rw [ht]; exact hP, hD⟩, hS.F ht⟩) hS.2.2 d_gempty_5
