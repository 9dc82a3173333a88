def lf_isRef (p0 : Int32) : Int32 := if p0 < 0 then 0 else if 16 ≤ p0 then 0 else 1
set_option maxHeartbeats 4000000 in
set_option maxRecDepth 100000 in
theorem lc_isRef (l : Launch) (D : va_G) (cI cZ cJ : ClassId)  (p0 : Int32) (R : Int32) (h : lf_isRef p0 = R) : Met l y_isRef (Cond.code y_isRef prog_1_method_12_code 1 (some .boolean) :: bgT) ({ frames := 0, cells := 0, slots := 0, locals := 0 }) (ld_PR D cI cZ cJ ([]) [.int p0]) (vp_Si (fun z => z = R)) 0 0 (fun _ => False) := by
  refine Met.ofW (cc := prog_1_method_12_code) (maxL := 1) (ret := (some .boolean)) (by decide) rfl ?_
  intro p e s m args below meth c s₁ B hml hv
  obtain ⟨rfl, hP, hK, hN⟩ := hv
  have hx := B.exec
  have hb := B.bytes
  have hr := B.returns
  have hg : ∀ w ∈ bgT, w.before _ s = true := fun w h => atoms_spec (ws := (Cond.code y_isRef prog_1_method_12_code 1 (some .boolean) :: bgT)) B.pre w (List.mem_cons_of_mem _ h)
  have hown : s.vm.findClass "LoanDesk" = some m.cls := findClass_of_methodNamed B.named
  have hlocks := B.notSynchronized
  have hl := lv_entry ([.int p0]) (n := 1) (Nat.le_of_ble_eq_true rfl)
  rw [lg_entry_eq]
  generalize (lg_sl ([.int p0]) ++ List.replicate (1 - (lg_sl ([.int p0])).length) Slot.unset).toArray = ls at hl ⊢
  have hl : lv_has ls 1 [(0, .int p0)] := hl
  refine lv_iload_n hx hb d_isRef_0 rfl (lv_at hl 0 rfl) ?_
  refine lv_if_lt (tgt := 14) hx hb d_isRef_1 (by decide) (fun c_1 => ?_) (fun c_1 => ?_)
  · have h := (if_pos c_1).symm.trans h
    refine lv_iconst (v := 0) hx hb d_isRef_14 (by decide) ?_
    exact W.zret (v := 0) hx hb hr rfl (fun t ht hW => ⟨_, rfl, h, ht⟩) (fun _ q => by cases q) d_isRef_15
  · have h := (if_neg c_1).symm.trans h
    refine lv_iload_n hx hb d_isRef_4 rfl (lv_at hl 0 rfl) ?_
    refine lv_bipush (v := 16) hx hb d_isRef_5 (by decide) ?_
    refine lv_icmp_ge (tgt := 14) hx hb d_isRef_7 (by decide) (fun c_2 => ?_) (fun c_2 => ?_)
    · have h := (if_pos c_2).symm.trans h
      refine lv_iconst (v := 0) hx hb d_isRef_14 (by decide) ?_
      exact W.zret (v := 0) hx hb hr rfl (fun t ht hW => ⟨_, rfl, h, ht⟩) (fun _ q => by cases q) d_isRef_15
    · have h := (if_neg c_2).symm.trans h
      refine lv_iconst (v := 1) hx hb d_isRef_10 (by decide) ?_
      refine lv_goto (tgt := 15) hx hb d_isRef_11 (by decide) ?_
      exact W.zret (v := 1) hx hb hr rfl (fun t ht hW => ⟨_, rfl, h, ht⟩) (fun _ q => by cases q) d_isRef_15
theorem lnb_isRef {p r : Int32} (h : lf_isRef p = r) : narrow .boolean (.int r) = .int r := by
  apply ld_nb
  unfold lf_isRef at h
  split at h
  · exact Or.inl h.symm
  · split at h
    · exact Or.inl h.symm
    · exact Or.inr h.symm
def lf_isIndex (p0 : Int32) : Int32 := if p0 < 0 then 0 else if 120 ≤ p0 then 0 else 1
set_option maxHeartbeats 4000000 in
set_option maxRecDepth 100000 in
theorem lc_isIndex (l : Launch) (D : va_G) (cI cZ cJ : ClassId)  (p0 : Int32) (R : Int32) (h : lf_isIndex p0 = R) : Met l y_isIndex (Cond.code y_isIndex prog_1_method_15_code 1 (some .boolean) :: bgT) ({ frames := 0, cells := 0, slots := 0, locals := 0 }) (ld_PR D cI cZ cJ ([]) [.int p0]) (vp_Si (fun z => z = R)) 0 0 (fun _ => False) := by
  refine Met.ofW (cc := prog_1_method_15_code) (maxL := 1) (ret := (some .boolean)) (by decide) rfl ?_
  intro p e s m args below meth c s₁ B hml hv
  obtain ⟨rfl, hP, hK, hN⟩ := hv
  have hx := B.exec
  have hb := B.bytes
  have hr := B.returns
  have hg : ∀ w ∈ bgT, w.before _ s = true := fun w h => atoms_spec (ws := (Cond.code y_isIndex prog_1_method_15_code 1 (some .boolean) :: bgT)) B.pre w (List.mem_cons_of_mem _ h)
  have hown : s.vm.findClass "LoanDesk" = some m.cls := findClass_of_methodNamed B.named
  have hlocks := B.notSynchronized
  have hl := lv_entry ([.int p0]) (n := 1) (Nat.le_of_ble_eq_true rfl)
  rw [lg_entry_eq]
  generalize (lg_sl ([.int p0]) ++ List.replicate (1 - (lg_sl ([.int p0])).length) Slot.unset).toArray = ls at hl ⊢
  have hl : lv_has ls 1 [(0, .int p0)] := hl
  refine lv_iload_n hx hb d_isIndex_0 rfl (lv_at hl 0 rfl) ?_
  refine lv_if_lt (tgt := 14) hx hb d_isIndex_1 (by decide) (fun c_1 => ?_) (fun c_1 => ?_)
  · have h := (if_pos c_1).symm.trans h
    refine lv_iconst (v := 0) hx hb d_isIndex_14 (by decide) ?_
    exact W.zret (v := 0) hx hb hr rfl (fun t ht hW => ⟨_, rfl, h, ht⟩) (fun _ q => by cases q) d_isIndex_15
  · have h := (if_neg c_1).symm.trans h
    refine lv_iload_n hx hb d_isIndex_4 rfl (lv_at hl 0 rfl) ?_
    refine lv_bipush (v := 120) hx hb d_isIndex_5 (by decide) ?_
    refine lv_icmp_ge (tgt := 14) hx hb d_isIndex_7 (by decide) (fun c_2 => ?_) (fun c_2 => ?_)
    · have h := (if_pos c_2).symm.trans h
      refine lv_iconst (v := 0) hx hb d_isIndex_14 (by decide) ?_
      exact W.zret (v := 0) hx hb hr rfl (fun t ht hW => ⟨_, rfl, h, ht⟩) (fun _ q => by cases q) d_isIndex_15
    · have h := (if_neg c_2).symm.trans h
      refine lv_iconst (v := 1) hx hb d_isIndex_10 (by decide) ?_
      refine lv_goto (tgt := 15) hx hb d_isIndex_11 (by decide) ?_
      exact W.zret (v := 1) hx hb hr rfl (fun t ht hW => ⟨_, rfl, h, ht⟩) (fun _ q => by cases q) d_isIndex_15
theorem ld_ix {x r : Int32} (h : lf_isIndex x = r) (c : ¬ r = 0) : vp_in x 120 := by
  unfold lf_isIndex at h
  by_cases h1 : x < 0
  · rw [if_pos h1] at h
    exact absurd h.symm c
  · rw [if_neg h1] at h
    by_cases h2 : 120 ≤ x
    · rw [if_pos h2] at h
      exact absurd h.symm c
    · exact ld_rg h1 h2
theorem ld_ix1 {j : Nat} (h : j < 120) : lf_isIndex (nI j) = 1 := by
  unfold lf_isIndex
  rw [if_neg (nI_pos (by omega)), if_neg (show ¬ (120 : Int32) ≤ nI j from nI_ge (b := 120) h (by omega))]
theorem ld_ix0 {x : Int32} (h : ∀ j, j < 120 → x ≠ nI j) : lf_isIndex x = 0 := by
  unfold lf_isIndex
  rcases pk_ix x (n := 120) (by omega) with q | q | ⟨j, hj, q⟩
  · rw [if_pos q]
  · by_cases h0 : x < 0
    · rw [if_pos h0]
    · rw [if_neg h0, if_pos (show (120 : Int32) ≤ x from q)]
  · exact absurd q (h j hj)
def lf_isNext (p0 : Int32) : Int32 := if p0 = (-1) then 1 else ld_lt (lf_isIndex p0) (fun r_2 => if r_2 = 0 then 0 else 1)
set_option maxHeartbeats 4000000 in
set_option maxRecDepth 100000 in
theorem lc_isNext (l : Launch) (D : va_G) (cI cZ cJ : ClassId)  (p0 : Int32) (R : Int32) (h : lf_isNext p0 = R) : Met l y_isNext (Cond.code y_isNext prog_1_method_14_code 1 (some .boolean) :: bgT) ({ frames := 1, cells := 0, slots := 0, locals := 20 }) (ld_PR D cI cZ cJ ([]) [.int p0]) (vp_Si (fun z => z = R)) 0 0 (fun _ => False) := by
  refine Met.ofW (cc := prog_1_method_14_code) (maxL := 1) (ret := (some .boolean)) (by decide) rfl ?_
  intro p e s m args below meth c s₁ B hml hv
  obtain ⟨rfl, hP, hK, hN⟩ := hv
  have hx := B.exec
  have hb := B.bytes
  have hr := B.returns
  have hg : ∀ w ∈ bgT, w.before _ s = true := fun w h => atoms_spec (ws := (Cond.code y_isNext prog_1_method_14_code 1 (some .boolean) :: bgT)) B.pre w (List.mem_cons_of_mem _ h)
  have hown : s.vm.findClass "LoanDesk" = some m.cls := findClass_of_methodNamed B.named
  have hlocks := B.notSynchronized
  have hl := lv_entry ([.int p0]) (n := 1) (Nat.le_of_ble_eq_true rfl)
  rw [lg_entry_eq]
  generalize (lg_sl ([.int p0]) ++ List.replicate (1 - (lg_sl ([.int p0])).length) Slot.unset).toArray = ls at hl ⊢
  have hl : lv_has ls 1 [(0, .int p0)] := hl
  refine lv_iload_n hx hb d_isNext_0 rfl (lv_at hl 0 rfl) ?_
  refine lv_iconst (v := (-1)) hx hb d_isNext_1 (by decide) ?_
  refine lv_icmp_eq (tgt := 12) hx hb d_isNext_2 (by decide) (fun c_1 => ?_) (fun c_1 => ?_)
  · have h := (if_pos c_1).symm.trans h
    refine lv_iconst (v := 1) hx hb d_isNext_12 (by decide) ?_
    refine lv_goto (tgt := 17) hx hb d_isNext_13 (by decide) ?_
    exact W.zret (v := 1) hx hb hr rfl (fun t ht hW => ⟨_, rfl, h, ht⟩) (fun _ q => by cases q) d_isNext_17
  · have h := (if_neg c_1).symm.trans h
    refine lv_iload_n hx hb d_isNext_5 rfl (lv_at hl 0 rfl) ?_
    obtain ⟨r_2, e_2, h⟩ := ld_nm h
    refine ld_rd (W.runS (As := [.int p0]) (rest := []) ⟨hx, hb, hml, hown, hg⟩ (lc_isIndex l D cI cZ cJ p0 r_2 e_2) ⟨callB_of 1 hg (ld_gd k_161) rfl rfl rfl (hg _ k_23) (hg _ k_159) hd_isIndex ⟨Nat.le_of_ble_eq_true rfl, Nat.le_of_ble_eq_true rfl⟩, hg _ k_160⟩ (ld_preR hP hK hN [] rfl) rfl rfl hl.1 rfl (lv_room (Nat.le_of_ble_eq_true rfl)) d_isNext_6 ⟨Nat.zero_le _, Nat.zero_le _⟩) ?_
    refine lv_if_eq (tgt := 16) hx hb d_isNext_9 (by decide) (fun c_3 => ?_) (fun c_3 => ?_)
    · have h := (if_pos c_3).symm.trans h
      refine lv_iconst (v := 0) hx hb d_isNext_16 (by decide) ?_
      exact W.zret (v := 0) hx hb hr rfl (fun t ht hW => ⟨_, rfl, h, ht⟩) (fun _ q => by cases q) d_isNext_17
    · have h := (if_neg c_3).symm.trans h
      refine lv_iconst (v := 1) hx hb d_isNext_12 (by decide) ?_
      refine lv_goto (tgt := 17) hx hb d_isNext_13 (by decide) ?_
      exact W.zret (v := 1) hx hb hr rfl (fun t ht hW => ⟨_, rfl, h, ht⟩) (fun _ q => by cases q) d_isNext_17
def ls_isPlace_1 (v1 : Int32 × Int32) : Option ((Int32 × Int32) ⊕ ((Int32 × Int32) ⊕ (Int32))) := if 4 ≤ v1.2 then some (.inr (.inl (v1.1, v1.2))) else if v1.1 ≤ 0 then some (.inr (.inl (v1.1, v1.2))) else if (v1.1 - v1.1 / 10 * 10) = 0 then some (.inr (.inr 0)) else some (.inl (v1.1 / 10, v1.2 + 1))
def lm_isPlace (N : Nat) (p0 : Int32) : Option (Int32) := Option.bind (ld_it (ls_isPlace_1) N (p0, 0)) (fun Y1 => ld_ex Y1 (fun y1 => if p0 ≤ 0 then some 0 else if y1.1 = 0 then some 1 else some 0) (fun R9 => some R9))
set_option maxHeartbeats 4000000 in
set_option maxRecDepth 100000 in
theorem lc_isPlace (l : Launch) (D : va_G) (cI cZ cJ : ClassId)  (p0 : Int32) (N : Nat) (R : Int32) (h : lm_isPlace N p0 = some R) : Met l y_isPlace (Cond.code y_isPlace prog_1_method_13_code 3 (some .boolean) :: bgT) ({ frames := 0, cells := 0, slots := 0, locals := 0 }) (ld_PR D cI cZ cJ ([]) [.int p0]) (vp_Si (fun z => z = R)) 0 0 (fun _ => False) := by
  refine Met.ofW (cc := prog_1_method_13_code) (maxL := 3) (ret := (some .boolean)) (by decide) rfl ?_
  intro p e s m args below meth c s₁ B hml hv
  obtain ⟨rfl, hP, hK, hN⟩ := hv
  have hx := B.exec
  have hb := B.bytes
  have hr := B.returns
  have hg : ∀ w ∈ bgT, w.before _ s = true := fun w h => atoms_spec (ws := (Cond.code y_isPlace prog_1_method_13_code 3 (some .boolean) :: bgT)) B.pre w (List.mem_cons_of_mem _ h)
  have hown : s.vm.findClass "LoanDesk" = some m.cls := findClass_of_methodNamed B.named
  have hlocks := B.notSynchronized
  have hl := lv_entry ([.int p0]) (n := 3) (Nat.le_of_ble_eq_true rfl)
  rw [lg_entry_eq]
  generalize (lg_sl ([.int p0]) ++ List.replicate (3 - (lg_sl ([.int p0])).length) Slot.unset).toArray = ls at hl ⊢
  have hl : lv_has ls 3 [(0, .int p0)] := hl
  refine lv_iload_n hx hb d_isPlace_0 rfl (lv_at hl 0 rfl) ?_
  refine lv_istore_n (lv' := [(1, .int p0), (0, .int p0)]) hx hb d_isPlace_1 rfl hl (by decide) rfl (fun ls hl => ?_)
  refine lv_iconst (v := 0) hx hb d_isPlace_2 (by decide) ?_
  refine lv_istore_n (lv' := [(2, .int 0), (1, .int p0), (0, .int p0)]) hx hb d_isPlace_3 rfl hl (by decide) rfl (fun ls hl => ?_)
  obtain ⟨Y1, eY1, h⟩ := ld_ob h
  have kont1 : ∀ (y1 : Int32 × Int32) (ls : Array Slot), Y1 = .inl y1 → lv_has ls 3 [(0, .int p0), (1, .int y1.1)] → W p l e (headSpec (Cond.code y_isPlace prog_1_method_13_code 3 (some .boolean) :: bgT) ({ frames := 0, cells := 0, slots := 0, locals := 0 })).room s m ([.int p0] : List Value).toArray below meth c s.heap [] 0 0 (MQ below (vp_Si (fun z => z = R)) ([.int p0] : List Value).toArray s 0 0 (fun _ => False)) (F0 m 33 ls []) := by
    intro y1 ls eq1 hl
    subst eq1
    refine lv_iload_n hx hb d_isPlace_33 rfl (lv_at hl 0 rfl) ?_
    refine lv_if_le (tgt := 45) hx hb d_isPlace_34 (by decide) (fun c_1 => ?_) (fun c_1 => ?_)
    · have h := (if_pos c_1).symm.trans h
      refine lv_iconst (v := 0) hx hb d_isPlace_45 (by decide) ?_
      have h := Option.some.inj h
      exact W.zret (v := 0) hx hb hr rfl (fun t ht hW => ⟨_, rfl, h, ht⟩) (fun _ q => by cases q) d_isPlace_46
    · have h := (if_neg c_1).symm.trans h
      refine lv_iload_n hx hb d_isPlace_37 rfl (lv_at hl 1 rfl) ?_
      refine lv_if_ne (tgt := 45) hx hb d_isPlace_38 (by decide) (fun c_2 => ?_) (fun c_2 => ?_)
      · have h := (if_neg c_2).symm.trans h
        refine lv_iconst (v := 0) hx hb d_isPlace_45 (by decide) ?_
        have h := Option.some.inj h
        exact W.zret (v := 0) hx hb hr rfl (fun t ht hW => ⟨_, rfl, h, ht⟩) (fun _ q => by cases q) d_isPlace_46
      · have h := (if_pos c_2).symm.trans h
        refine lv_iconst (v := 1) hx hb d_isPlace_41 (by decide) ?_
        refine lv_goto (tgt := 46) hx hb d_isPlace_42 (by decide) ?_
        have h := Option.some.inj h
        exact W.zret (v := 1) hx hb hr rfl (fun t ht hW => ⟨_, rfl, h, ht⟩) (fun _ q => by cases q) d_isPlace_46
  have key1 : ∀ (n : Nat) (v1 : Int32 × Int32) (ls : Array Slot), ld_it (ls_isPlace_1) n v1 = some Y1 → lv_has ls 3 [(0, .int p0), (1, .int v1.1), (2, .int v1.2)] → W p l e (headSpec (Cond.code y_isPlace prog_1_method_13_code 3 (some .boolean) :: bgT) ({ frames := 0, cells := 0, slots := 0, locals := 0 })).room s m ([.int p0] : List Value).toArray below meth c s.heap [] 0 0 (MQ below (vp_Si (fun z => z = R)) ([.int p0] : List Value).toArray s 0 0 (fun _ => False)) (F0 m 4 ls []) := by
    intro n
    induction n with
    | zero => intro v1 ls g1 hl; cases g1
    | succ n ih1 =>
      intro v1 ls g1 hl
      obtain ⟨z1, hy1, g1⟩ := ld_its g1
      refine lv_iload_n hx hb d_isPlace_4 rfl (lv_at hl 2 rfl) ?_
      refine lv_iconst (v := 4) hx hb d_isPlace_5 (by decide) ?_
      refine lv_icmp_ge (tgt := 33) hx hb d_isPlace_6 (by decide) (fun c_3 => ?_) (fun c_3 => ?_)
      · have hy1 := (if_pos c_3).symm.trans hy1
        obtain rfl := Option.some.inj hy1
        exact kont1 (v1.1, v1.2) _ (Option.some.inj g1).symm (lv_sub hl [0, 1] rfl)
      · have hy1 := (if_neg c_3).symm.trans hy1
        refine lv_iload_n hx hb d_isPlace_9 rfl (lv_at hl 1 rfl) ?_
        refine lv_if_le (tgt := 33) hx hb d_isPlace_10 (by decide) (fun c_4 => ?_) (fun c_4 => ?_)
        · have hy1 := (if_pos c_4).symm.trans hy1
          obtain rfl := Option.some.inj hy1
          exact kont1 (v1.1, v1.2) _ (Option.some.inj g1).symm (lv_sub hl [0, 1] rfl)
        · have hy1 := (if_neg c_4).symm.trans hy1
          refine lv_iload_n hx hb d_isPlace_13 rfl (lv_at hl 1 rfl) ?_
          refine lv_bipush (v := 10) hx hb d_isPlace_14 (by decide) ?_
          refine lv_irem hx hb d_isPlace_16 (by decide) ?_
          refine lv_if_ne (tgt := 22) hx hb d_isPlace_17 (by decide) (fun c_5 => ?_) (fun c_5 => ?_)
          · have hy1 := (if_neg c_5).symm.trans hy1
            refine lv_iload_n hx hb d_isPlace_22 rfl (lv_at hl 1 rfl) ?_
            refine lv_bipush (v := 10) hx hb d_isPlace_23 (by decide) ?_
            refine lv_idiv hx hb d_isPlace_25 (by decide) ?_
            refine lv_istore_n (lv' := [(1, .int (v1.1 / 10)), (0, .int p0), (2, .int v1.2)]) hx hb d_isPlace_26 rfl hl (by decide) rfl (fun ls hl => ?_)
            refine lv_iinc (v := v1.2 + 1) (lv' := [(2, .int (v1.2 + 1)), (1, .int (v1.1 / 10)), (0, .int p0)]) hx hb d_isPlace_27 hl (k := 2) rfl rfl (by decide) rfl (fun ls hl => ?_)
            refine lv_goto (tgt := 4) hx hb d_isPlace_30 (by decide) ?_
            obtain rfl := Option.some.inj hy1
            exact ih1 (v1.1 / 10, v1.2 + 1) _ g1 (lv_sub hl [2, 1, 0] rfl)
          · have hy1 := (if_pos c_5).symm.trans hy1
            refine lv_iconst (v := 0) hx hb d_isPlace_20 (by decide) ?_
            obtain rfl := Option.some.inj hy1
            obtain rfl := Option.some.inj g1
            have h := Option.some.inj h
            exact W.zret (v := 0) hx hb hr rfl (fun t ht hW => ⟨_, rfl, h, ht⟩) (fun _ q => by cases q) d_isPlace_21
  exact key1 N (p0, 0) _ eY1 (lv_sub hl [2, 1, 0] rfl)
theorem lnb_isPlace {N : Nat} {p r : Int32} (h : lm_isPlace N p = some r) : narrow .boolean (.int r) = .int r := by
  apply ld_nb
  unfold lm_isPlace at h
  obtain ⟨Y, hY, h⟩ := ld_ob h
  have hJ := ld_inv (f := ls_isPlace_1) (fun _ => True) (fun y => ∀ R, y = .inr R → R = 0) (fun _ _ _ _ => trivial) (fun x y _ hx R hR => by
    subst hR
    unfold ls_isPlace_1 at hx
    split at hx
    · cases hx
    · split at hx
      · cases hx
      · split at hx
        · cases hx; rfl
        · cases hx) N _ _ trivial hY
  cases Y with
  | inl y =>
    have h : (if p ≤ 0 then some 0 else if y.1 = 0 then some 1 else some 0) = some r := h
    split at h
    · exact Or.inl (Option.some.inj h).symm
    · split at h
      · exact Or.inr (Option.some.inj h).symm
      · exact Or.inl (Option.some.inj h).symm
  | inr q =>
    have h : some q = some r := h
    exact Or.inl ((Option.some.inj h).symm.trans (hJ q rfl))
def lm_isDoing (N : Nat) (p0 : Int32) (p1 : Int32) (p2 : Int32) (p3 : Int32) : Option (Int32) := if p0 = 0 then (some 1) else (if p0 = 1 then (ld_lt (lf_isRef p1) (fun r_3 => if r_3 = 0 then some 0 else Option.bind (lm_isPlace N p2) (fun r_5 => if r_5 = 0 then some 0 else if p3 = 0 then some 1 else if p3 = 1 then some 1 else some 0))) else (if p0 = 2 then (ld_lt (lf_isRef p1) (fun r_10 => if r_10 = 0 then some 0 else ld_lt (lf_isRef p2) (fun r_12 => if r_12 = 0 then some 0 else some 1))) else (if p0 = 3 then (ld_lt (lf_isRef p1) (fun r_15 => some r_15)) else (if p0 = 4 then (ld_lt (lf_isRef p1) (fun r_17 => some r_17)) else (if p0 = 5 then (Option.bind (lm_isPlace N p2) (fun r_19 => some r_19)) else (if p0 = 6 then Option.bind (lm_isPlace N p2) (fun r_21 => some r_21) else some 0))))))
set_option maxHeartbeats 4000000 in
set_option maxRecDepth 100000 in
theorem lc_isDoing (l : Launch) (D : va_G) (cI cZ cJ : ClassId)  (p0 : Int32) (p1 : Int32) (p2 : Int32) (p3 : Int32) (N : Nat) (R : Int32) (h : lm_isDoing N p0 p1 p2 p3 = some R) : Met l y_isDoing (Cond.code y_isDoing prog_1_method_11_code 4 (some .boolean) :: bgT) ({ frames := 1, cells := 0, slots := 0, locals := 22 }) (ld_PR D cI cZ cJ ([]) [.int p0, .int p1, .int p2, .int p3]) (vp_Si (fun z => z = R)) 0 0 (fun _ => False) := by
  refine Met.ofW (cc := prog_1_method_11_code) (maxL := 4) (ret := (some .boolean)) (by decide) rfl ?_
  intro p e s m args below meth c s₁ B hml hv
  obtain ⟨rfl, hP, hK, hN⟩ := hv
  have hx := B.exec
  have hb := B.bytes
  have hr := B.returns
  have hg : ∀ w ∈ bgT, w.before _ s = true := fun w h => atoms_spec (ws := (Cond.code y_isDoing prog_1_method_11_code 4 (some .boolean) :: bgT)) B.pre w (List.mem_cons_of_mem _ h)
  have hown : s.vm.findClass "LoanDesk" = some m.cls := findClass_of_methodNamed B.named
  have hlocks := B.notSynchronized
  have hl := lv_entry ([.int p0, .int p1, .int p2, .int p3]) (n := 4) (Nat.le_of_ble_eq_true rfl)
  rw [lg_entry_eq]
  generalize (lg_sl ([.int p0, .int p1, .int p2, .int p3]) ++ List.replicate (4 - (lg_sl ([.int p0, .int p1, .int p2, .int p3])).length) Slot.unset).toArray = ls at hl ⊢
  have hl : lv_has ls 4 [(0, .int p0), (1, .int p1), (2, .int p2), (3, .int p3)] := hl
  refine lv_iload_n hx hb d_isDoing_0 rfl (lv_at hl 0 rfl) ?_
  by_cases c_1 : p0 = 0
  · have h := (if_pos c_1).symm.trans h
    refine lv_tableIn (tgt := 44) hx hb d_isDoing_1 (by rw [c_1]; decide) (by rw [c_1]; decide) (by rw [c_1]; rfl) (by decide) ?_
    refine lv_iconst (v := 1) hx hb d_isDoing_44 (by decide) ?_
    have h := Option.some.inj h
    exact W.zret (v := 1) hx hb hr rfl (fun t ht hW => ⟨_, rfl, h, ht⟩) (fun _ q => by cases q) d_isDoing_45
  have h := (if_neg c_1).symm.trans h
  by_cases c_2 : p0 = 1
  · have h := (if_pos c_2).symm.trans h
    refine lv_tableIn (tgt := 46) hx hb d_isDoing_1 (by rw [c_2]; decide) (by rw [c_2]; decide) (by rw [c_2]; rfl) (by decide) ?_
    refine lv_iload_n hx hb d_isDoing_46 rfl (lv_at hl 1 rfl) ?_
    obtain ⟨r_3, e_3, h⟩ := ld_nm h
    refine ld_rd (W.runS (As := [.int p1]) (rest := []) ⟨hx, hb, hml, hown, hg⟩ (lc_isRef l D cI cZ cJ p1 r_3 e_3) ⟨callB_of 1 hg (ld_gd k_132) rfl rfl rfl (hg _ k_23) (hg _ k_130) hd_isRef ⟨Nat.le_of_ble_eq_true rfl, Nat.le_of_ble_eq_true rfl⟩, hg _ k_131⟩ (ld_preR hP hK hN [] rfl) rfl rfl hl.1 rfl (lv_room (Nat.le_of_ble_eq_true rfl)) d_isDoing_47 ⟨Nat.zero_le _, Nat.zero_le _⟩) ?_
    refine lv_if_eq (tgt := 73) hx hb d_isDoing_50 (by decide) (fun c_4 => ?_) (fun c_4 => ?_)
    · have h := (if_pos c_4).symm.trans h
      refine lv_iconst (v := 0) hx hb d_isDoing_73 (by decide) ?_
      have h := Option.some.inj h
      exact W.zret (v := 0) hx hb hr rfl (fun t ht hW => ⟨_, rfl, h, ht⟩) (fun _ q => by cases q) d_isDoing_74
    · have h := (if_neg c_4).symm.trans h
      refine lv_iload_n hx hb d_isDoing_53 rfl (lv_at hl 2 rfl) ?_
      obtain ⟨r_5, e_5, h⟩ := ld_ob h
      refine ld_rd (W.runS (As := [.int p2]) (rest := []) ⟨hx, hb, hml, hown, hg⟩ (lc_isPlace l D cI cZ cJ p2 N r_5 e_5) ⟨callB_of 1 hg (ld_gd k_135) rfl rfl rfl (hg _ k_23) (hg _ k_133) hd_isPlace ⟨Nat.le_of_ble_eq_true rfl, Nat.le_of_ble_eq_true rfl⟩, hg _ k_134⟩ (ld_preR hP hK hN [] rfl) rfl rfl hl.1 rfl (lv_room (Nat.le_of_ble_eq_true rfl)) d_isDoing_54 ⟨Nat.zero_le _, Nat.zero_le _⟩) ?_
      refine lv_if_eq (tgt := 73) hx hb d_isDoing_57 (by decide) (fun c_6 => ?_) (fun c_6 => ?_)
      · have h := (if_pos c_6).symm.trans h
        refine lv_iconst (v := 0) hx hb d_isDoing_73 (by decide) ?_
        have h := Option.some.inj h
        exact W.zret (v := 0) hx hb hr rfl (fun t ht hW => ⟨_, rfl, h, ht⟩) (fun _ q => by cases q) d_isDoing_74
      · have h := (if_neg c_6).symm.trans h
        refine lv_iload_n hx hb d_isDoing_60 rfl (lv_at hl 3 rfl) ?_
        refine lv_if_eq (tgt := 69) hx hb d_isDoing_61 (by decide) (fun c_7 => ?_) (fun c_7 => ?_)
        · have h := (if_pos c_7).symm.trans h
          refine lv_iconst (v := 1) hx hb d_isDoing_69 (by decide) ?_
          refine lv_goto (tgt := 74) hx hb d_isDoing_70 (by decide) ?_
          have h := Option.some.inj h
          exact W.zret (v := 1) hx hb hr rfl (fun t ht hW => ⟨_, rfl, h, ht⟩) (fun _ q => by cases q) d_isDoing_74
        · have h := (if_neg c_7).symm.trans h
          refine lv_iload_n hx hb d_isDoing_64 rfl (lv_at hl 3 rfl) ?_
          refine lv_iconst (v := 1) hx hb d_isDoing_65 (by decide) ?_
          refine lv_icmp_ne (tgt := 73) hx hb d_isDoing_66 (by decide) (fun c_8 => ?_) (fun c_8 => ?_)
          · have h := (if_neg c_8).symm.trans h
            refine lv_iconst (v := 0) hx hb d_isDoing_73 (by decide) ?_
            have h := Option.some.inj h
            exact W.zret (v := 0) hx hb hr rfl (fun t ht hW => ⟨_, rfl, h, ht⟩) (fun _ q => by cases q) d_isDoing_74
          · have h := (if_pos c_8).symm.trans h
            refine lv_iconst (v := 1) hx hb d_isDoing_69 (by decide) ?_
            refine lv_goto (tgt := 74) hx hb d_isDoing_70 (by decide) ?_
            have h := Option.some.inj h
            exact W.zret (v := 1) hx hb hr rfl (fun t ht hW => ⟨_, rfl, h, ht⟩) (fun _ q => by cases q) d_isDoing_74
  have h := (if_neg c_2).symm.trans h
  by_cases c_9 : p0 = 2
  · have h := (if_pos c_9).symm.trans h
    refine lv_tableIn (tgt := 75) hx hb d_isDoing_1 (by rw [c_9]; decide) (by rw [c_9]; decide) (by rw [c_9]; rfl) (by decide) ?_
    refine lv_iload_n hx hb d_isDoing_75 rfl (lv_at hl 1 rfl) ?_
    obtain ⟨r_10, e_10, h⟩ := ld_nm h
    refine ld_rd (W.runS (As := [.int p1]) (rest := []) ⟨hx, hb, hml, hown, hg⟩ (lc_isRef l D cI cZ cJ p1 r_10 e_10) ⟨callB_of 1 hg (ld_gd k_132) rfl rfl rfl (hg _ k_23) (hg _ k_130) hd_isRef ⟨Nat.le_of_ble_eq_true rfl, Nat.le_of_ble_eq_true rfl⟩, hg _ k_131⟩ (ld_preR hP hK hN [] rfl) rfl rfl hl.1 rfl (lv_room (Nat.le_of_ble_eq_true rfl)) d_isDoing_76 ⟨Nat.zero_le _, Nat.zero_le _⟩) ?_
    refine lv_if_eq (tgt := 93) hx hb d_isDoing_79 (by decide) (fun c_11 => ?_) (fun c_11 => ?_)
    · have h := (if_pos c_11).symm.trans h
      refine lv_iconst (v := 0) hx hb d_isDoing_93 (by decide) ?_
      have h := Option.some.inj h
      exact W.zret (v := 0) hx hb hr rfl (fun t ht hW => ⟨_, rfl, h, ht⟩) (fun _ q => by cases q) d_isDoing_94
    · have h := (if_neg c_11).symm.trans h
      refine lv_iload_n hx hb d_isDoing_82 rfl (lv_at hl 2 rfl) ?_
      obtain ⟨r_12, e_12, h⟩ := ld_nm h
      refine ld_rd (W.runS (As := [.int p2]) (rest := []) ⟨hx, hb, hml, hown, hg⟩ (lc_isRef l D cI cZ cJ p2 r_12 e_12) ⟨callB_of 1 hg (ld_gd k_132) rfl rfl rfl (hg _ k_23) (hg _ k_130) hd_isRef ⟨Nat.le_of_ble_eq_true rfl, Nat.le_of_ble_eq_true rfl⟩, hg _ k_131⟩ (ld_preR hP hK hN [] rfl) rfl rfl hl.1 rfl (lv_room (Nat.le_of_ble_eq_true rfl)) d_isDoing_83 ⟨Nat.zero_le _, Nat.zero_le _⟩) ?_
      refine lv_if_eq (tgt := 93) hx hb d_isDoing_86 (by decide) (fun c_13 => ?_) (fun c_13 => ?_)
      · have h := (if_pos c_13).symm.trans h
        refine lv_iconst (v := 0) hx hb d_isDoing_93 (by decide) ?_
        have h := Option.some.inj h
        exact W.zret (v := 0) hx hb hr rfl (fun t ht hW => ⟨_, rfl, h, ht⟩) (fun _ q => by cases q) d_isDoing_94
      · have h := (if_neg c_13).symm.trans h
        refine lv_iconst (v := 1) hx hb d_isDoing_89 (by decide) ?_
        refine lv_goto (tgt := 94) hx hb d_isDoing_90 (by decide) ?_
        have h := Option.some.inj h
        exact W.zret (v := 1) hx hb hr rfl (fun t ht hW => ⟨_, rfl, h, ht⟩) (fun _ q => by cases q) d_isDoing_94
  have h := (if_neg c_9).symm.trans h
  by_cases c_14 : p0 = 3
  · have h := (if_pos c_14).symm.trans h
    refine lv_tableIn (tgt := 95) hx hb d_isDoing_1 (by rw [c_14]; decide) (by rw [c_14]; decide) (by rw [c_14]; rfl) (by decide) ?_
    refine lv_iload_n hx hb d_isDoing_95 rfl (lv_at hl 1 rfl) ?_
    obtain ⟨r_15, e_15, h⟩ := ld_nm h
    refine ld_rd (W.runS (As := [.int p1]) (rest := []) ⟨hx, hb, hml, hown, hg⟩ (lc_isRef l D cI cZ cJ p1 r_15 e_15) ⟨callB_of 1 hg (ld_gd k_132) rfl rfl rfl (hg _ k_23) (hg _ k_130) hd_isRef ⟨Nat.le_of_ble_eq_true rfl, Nat.le_of_ble_eq_true rfl⟩, hg _ k_131⟩ (ld_preR hP hK hN [] rfl) rfl rfl hl.1 rfl (lv_room (Nat.le_of_ble_eq_true rfl)) d_isDoing_96 ⟨Nat.zero_le _, Nat.zero_le _⟩) ?_
    have h := Option.some.inj h
    exact W.zret (v := r_15) hx hb hr (lnb_isRef e_15) (fun t ht hW => ⟨_, rfl, h, ht⟩) (fun _ q => by cases q) d_isDoing_99
  have h := (if_neg c_14).symm.trans h
  by_cases c_16 : p0 = 4
  · have h := (if_pos c_16).symm.trans h
    refine lv_tableIn (tgt := 95) hx hb d_isDoing_1 (by rw [c_16]; decide) (by rw [c_16]; decide) (by rw [c_16]; rfl) (by decide) ?_
    refine lv_iload_n hx hb d_isDoing_95 rfl (lv_at hl 1 rfl) ?_
    obtain ⟨r_17, e_17, h⟩ := ld_nm h
    refine ld_rd (W.runS (As := [.int p1]) (rest := []) ⟨hx, hb, hml, hown, hg⟩ (lc_isRef l D cI cZ cJ p1 r_17 e_17) ⟨callB_of 1 hg (ld_gd k_132) rfl rfl rfl (hg _ k_23) (hg _ k_130) hd_isRef ⟨Nat.le_of_ble_eq_true rfl, Nat.le_of_ble_eq_true rfl⟩, hg _ k_131⟩ (ld_preR hP hK hN [] rfl) rfl rfl hl.1 rfl (lv_room (Nat.le_of_ble_eq_true rfl)) d_isDoing_96 ⟨Nat.zero_le _, Nat.zero_le _⟩) ?_
    have h := Option.some.inj h
    exact W.zret (v := r_17) hx hb hr (lnb_isRef e_17) (fun t ht hW => ⟨_, rfl, h, ht⟩) (fun _ q => by cases q) d_isDoing_99
  have h := (if_neg c_16).symm.trans h
  by_cases c_18 : p0 = 5
  · have h := (if_pos c_18).symm.trans h
    refine lv_tableIn (tgt := 100) hx hb d_isDoing_1 (by rw [c_18]; decide) (by rw [c_18]; decide) (by rw [c_18]; rfl) (by decide) ?_
    refine lv_iload_n hx hb d_isDoing_100 rfl (lv_at hl 2 rfl) ?_
    obtain ⟨r_19, e_19, h⟩ := ld_ob h
    refine ld_rd (W.runS (As := [.int p2]) (rest := []) ⟨hx, hb, hml, hown, hg⟩ (lc_isPlace l D cI cZ cJ p2 N r_19 e_19) ⟨callB_of 1 hg (ld_gd k_135) rfl rfl rfl (hg _ k_23) (hg _ k_133) hd_isPlace ⟨Nat.le_of_ble_eq_true rfl, Nat.le_of_ble_eq_true rfl⟩, hg _ k_134⟩ (ld_preR hP hK hN [] rfl) rfl rfl hl.1 rfl (lv_room (Nat.le_of_ble_eq_true rfl)) d_isDoing_101 ⟨Nat.zero_le _, Nat.zero_le _⟩) ?_
    have h := Option.some.inj h
    exact W.zret (v := r_19) hx hb hr (lnb_isPlace e_19) (fun t ht hW => ⟨_, rfl, h, ht⟩) (fun _ q => by cases q) d_isDoing_104
  have h := (if_neg c_18).symm.trans h
  by_cases c_20 : p0 = 6
  · have h := (if_pos c_20).symm.trans h
    refine lv_tableIn (tgt := 100) hx hb d_isDoing_1 (by rw [c_20]; decide) (by rw [c_20]; decide) (by rw [c_20]; rfl) (by decide) ?_
    refine lv_iload_n hx hb d_isDoing_100 rfl (lv_at hl 2 rfl) ?_
    obtain ⟨r_21, e_21, h⟩ := ld_ob h
    refine ld_rd (W.runS (As := [.int p2]) (rest := []) ⟨hx, hb, hml, hown, hg⟩ (lc_isPlace l D cI cZ cJ p2 N r_21 e_21) ⟨callB_of 1 hg (ld_gd k_135) rfl rfl rfl (hg _ k_23) (hg _ k_133) hd_isPlace ⟨Nat.le_of_ble_eq_true rfl, Nat.le_of_ble_eq_true rfl⟩, hg _ k_134⟩ (ld_preR hP hK hN [] rfl) rfl rfl hl.1 rfl (lv_room (Nat.le_of_ble_eq_true rfl)) d_isDoing_101 ⟨Nat.zero_le _, Nat.zero_le _⟩) ?_
    have h := Option.some.inj h
    exact W.zret (v := r_21) hx hb hr (lnb_isPlace e_21) (fun t ht hW => ⟨_, rfl, h, ht⟩) (fun _ q => by cases q) d_isDoing_104
  have h := (if_neg c_20).symm.trans h
  refine lv_tableOut (tgt := 105) hx hb d_isDoing_1 (by have e_c_1 := lv_neT c_1 (a := 0) (by decide); have e_c_2 := lv_neT c_2 (a := 1) (by decide); have e_c_9 := lv_neT c_9 (a := 2) (by decide); have e_c_14 := lv_neT c_14 (a := 3) (by decide); have e_c_16 := lv_neT c_16 (a := 4) (by decide); have e_c_18 := lv_neT c_18 (a := 5) (by decide); have e_c_20 := lv_neT c_20 (a := 6) (by decide); omega) (by decide) ?_
  refine lv_iconst (v := 0) hx hb d_isDoing_105 (by decide) ?_
  have h := Option.some.inj h
  exact W.zret (v := 0) hx hb hr rfl (fun t ht hW => ⟨_, rfl, h, ht⟩) (fun _ q => by cases q) d_isDoing_106
