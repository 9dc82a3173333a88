def ld_n1 : Int32 := -1
abbrev ld_bT : Type := (Nat → Int32) × (Nat → Int32) × (Nat → Int32) × (Nat → Int32) × (Nat → Int32) × (Nat → Int32)
abbrev ld_eT : Type := (Nat → Int32) × (Nat → Int32) × (Nat → Int32)
abbrev ld_sT : Type := (Nat → Int32) × (Nat → Int32)
def ld_oW (f : Nat → Nat) (t : Int32 × Int32 × Int32) : va_W := [(f 0, .inr (7, [.int t.1, .ref (f 1), .ref (f 2), .ref (f 3), .ref (f 4), .ref (f 5), .ref (f 6), .int t.2.1, .ref (f 7), .ref (f 8), .ref (f 9), .ref (f 10), .ref (f 11), .int t.2.2]))]
def ld_bW (f : Nat → Nat) (cI : ClassId) (t : ld_bT) : va_W := [(f 1, .inl (cI, 120, .inl (t.1))), (f 2, .inl (cI, 120, .inl (t.2.1))), (f 3, .inl (cI, 120, .inl (t.2.2.1))), (f 4, .inl (cI, 120, .inl (t.2.2.2.1))), (f 5, .inl (cI, 120, .inl (t.2.2.2.2.1))), (f 6, .inl (cI, 120, .inl (t.2.2.2.2.2)))]
def ld_eW (f : Nat → Nat) (cI cZ : ClassId) (t : ld_eT) : va_W := [(f 7, .inl (cZ, 120, .inl (t.1))), (f 8, .inl (cI, 120, .inl (t.2.1))), (f 9, .inl (cI, 14400, .inl (t.2.2)))]
def ld_sW (f : Nat → Nat) (cI cZ : ClassId) (t : ld_sT) : va_W := [(f 10, .inl (cI, 1920, .inl (t.1))), (f 11, .inl (cZ, 1920, .inl (t.2)))]
def lf_fIsRef (p0 : Int32) : Int32 := if p0 < 0 then 0 else if 16 ≤ p0 then 0 else 1
set_option maxHeartbeats 4000000 in
set_option maxRecDepth 100000 in
theorem lc_fIsRef (l : Launch) (D : va_G) (cI cZ cJ : ClassId)  (p0 : Int32) (R : Int32) (h : lf_fIsRef p0 = R) : Met l y_fIsRef (Cond.code y_fIsRef prog_9_method_2_code 1 (some .boolean) :: bgT) ({ frames := 0, cells := 0, slots := 0, locals := 0 }) (ld_PR D cI cZ cJ ([]) [.int p0]) (vp_Si (fun z => z = R)) 0 0 (fun _ => False) := by
  refine Met.ofW (cc := prog_9_method_2_code) (maxL := 1) (ret := (some .boolean)) (by decide) rfl ?_
  intro p e s m args below meth c s₁ B hml hv
  obtain ⟨rfl, hP, hK, hN⟩ := hv
  have hx := B.exec
  have hb := B.bytes
  have hr := B.returns
  have hg : ∀ w ∈ bgT, w.before _ s = true := fun w h => atoms_spec (ws := (Cond.code y_fIsRef prog_9_method_2_code 1 (some .boolean) :: bgT)) B.pre w (List.mem_cons_of_mem _ h)
  have hown : s.vm.findClass "LoanDeskModel" = some m.cls := findClass_of_methodNamed B.named
  have hlocks := B.notSynchronized
  have hl := lv_entry ([.int p0]) (n := 1) (Nat.le_of_ble_eq_true rfl)
  rw [lg_entry_eq]
  generalize (lg_sl ([.int p0]) ++ List.replicate (1 - (lg_sl ([.int p0])).length) Slot.unset).toArray = ls at hl ⊢
  have hl : lv_has ls 1 [(0, .int p0)] := hl
  refine lv_iload_n hx hb d_fIsRef_0 rfl (lv_at hl 0 rfl) ?_
  refine lv_if_lt (tgt := 14) hx hb d_fIsRef_1 (by decide) (fun c_1 => ?_) (fun c_1 => ?_)
  · have h := (if_pos c_1).symm.trans h
    refine lv_iconst (v := 0) hx hb d_fIsRef_14 (by decide) ?_
    exact W.zret (v := 0) hx hb hr rfl (fun t ht hW => ⟨_, rfl, h, ht⟩) (fun _ q => by cases q) d_fIsRef_15
  · have h := (if_neg c_1).symm.trans h
    refine lv_iload_n hx hb d_fIsRef_4 rfl (lv_at hl 0 rfl) ?_
    refine lv_bipush (v := 16) hx hb d_fIsRef_5 (by decide) ?_
    refine lv_icmp_ge (tgt := 14) hx hb d_fIsRef_7 (by decide) (fun c_2 => ?_) (fun c_2 => ?_)
    · have h := (if_pos c_2).symm.trans h
      refine lv_iconst (v := 0) hx hb d_fIsRef_14 (by decide) ?_
      exact W.zret (v := 0) hx hb hr rfl (fun t ht hW => ⟨_, rfl, h, ht⟩) (fun _ q => by cases q) d_fIsRef_15
    · have h := (if_neg c_2).symm.trans h
      refine lv_iconst (v := 1) hx hb d_fIsRef_10 (by decide) ?_
      refine lv_goto (tgt := 15) hx hb d_fIsRef_11 (by decide) ?_
      exact W.zret (v := 1) hx hb hr rfl (fun t ht hW => ⟨_, rfl, h, ht⟩) (fun _ q => by cases q) d_fIsRef_15
def ls_fIsPlace_1 (v1 : Int32 × Int32 × Int32) : Option ((Int32 × Int32 × Int32) ⊕ (Int32 × Int32 × Int32)) := if v1.1 ≤ 0 then some (.inr (v1.1, v1.2.1, v1.2.2)) else if v1.2.2 = 0 then some (.inl (v1.1 / 10, v1.2.1 + 1, 0)) else if (v1.1 - v1.1 / 10 * 10) = 0 then some (.inl (v1.1 / 10, v1.2.1 + 1, 0)) else some (.inl (v1.1 / 10, v1.2.1 + 1, 1))
def ls_fIsPlace_2 (v2 : Int32 × Int32 × Int32) : Option ((Int32 × Int32 × Int32) ⊕ (Int32 × Int32 × Int32)) := if v2.1 ≤ 0 then some (.inr (v2.1, v2.2.1, v2.2.2)) else if v2.2.2 = 0 then some (.inl (v2.1 / 10, v2.2.1 + 1, 0)) else if (v2.1 - v2.1 / 10 * 10) = 0 then some (.inl (v2.1 / 10, v2.2.1 + 1, 0)) else some (.inl (v2.1 / 10, v2.2.1 + 1, 1))
def lm_fIsPlace (N : Nat) (p0 : Int32) : Option (Int32) := if p0 ≤ 0 then Option.bind (ld_it (ls_fIsPlace_1) N (p0, 0, 0)) (fun Y1 => if Y1.2.2 = 0 then some 0 else if 5 ≤ Y1.2.1 then some 0 else some 1) else Option.bind (ld_it (ls_fIsPlace_2) N (p0, 0, 1)) (fun Y2 => if Y2.2.2 = 0 then some 0 else if 5 ≤ Y2.2.1 then some 0 else some 1)
set_option maxHeartbeats 4000000 in
set_option maxRecDepth 100000 in
theorem lc_fIsPlace (l : Launch) (D : va_G) (cI cZ cJ : ClassId)  (p0 : Int32) (N : Nat) (R : Int32) (h : lm_fIsPlace N p0 = some R) : Met l y_fIsPlace (Cond.code y_fIsPlace prog_9_method_3_code 4 (some .boolean) :: bgT) ({ frames := 0, cells := 0, slots := 0, locals := 0 }) (ld_PR D cI cZ cJ ([]) [.int p0]) (vp_Si (fun z => z = R)) 0 0 (fun _ => False) := by
  refine Met.ofW (cc := prog_9_method_3_code) (maxL := 4) (ret := (some .boolean)) (by decide) rfl ?_
  intro p e s m args below meth c s₁ B hml hv
  obtain ⟨rfl, hP, hK, hN⟩ := hv
  have hx := B.exec
  have hb := B.bytes
  have hr := B.returns
  have hg : ∀ w ∈ bgT, w.before _ s = true := fun w h => atoms_spec (ws := (Cond.code y_fIsPlace prog_9_method_3_code 4 (some .boolean) :: bgT)) B.pre w (List.mem_cons_of_mem _ h)
  have hown : s.vm.findClass "LoanDeskModel" = some m.cls := findClass_of_methodNamed B.named
  have hlocks := B.notSynchronized
  have hl := lv_entry ([.int p0]) (n := 4) (Nat.le_of_ble_eq_true rfl)
  rw [lg_entry_eq]
  generalize (lg_sl ([.int p0]) ++ List.replicate (4 - (lg_sl ([.int p0])).length) Slot.unset).toArray = ls at hl ⊢
  have hl : lv_has ls 4 [(0, .int p0)] := hl
  refine lv_iload_n hx hb d_fIsPlace_0 rfl (lv_at hl 0 rfl) ?_
  refine lv_istore_n (lv' := [(1, .int p0), (0, .int p0)]) hx hb d_fIsPlace_1 rfl hl (by decide) rfl (fun ls hl => ?_)
  refine lv_iconst (v := 0) hx hb d_fIsPlace_2 (by decide) ?_
  refine lv_istore_n (lv' := [(2, .int 0), (1, .int p0), (0, .int p0)]) hx hb d_fIsPlace_3 rfl hl (by decide) rfl (fun ls hl => ?_)
  refine lv_iload_n hx hb d_fIsPlace_4 rfl (lv_at hl 2 rfl) ?_
  refine lv_if_le (tgt := 12) hx hb d_fIsPlace_5 (by decide) (fun c_1 => ?_) (fun c_1 => ?_)
  · have h := (if_pos c_1).symm.trans h
    refine lv_iconst (v := 0) hx hb d_fIsPlace_12 (by decide) ?_
    refine lv_istore_n (lv' := [(3, .int 0), (2, .int 0), (1, .int p0), (0, .int p0)]) hx hb d_fIsPlace_13 rfl hl (by decide) rfl (fun ls hl => ?_)
    obtain ⟨Y1, eY1, h⟩ := ld_ob h
    have kont1 : ∀ (ls : Array Slot), lv_has ls 4 [(2, .int Y1.2.1), (3, .int Y1.2.2)] → W p l e (headSpec (Cond.code y_fIsPlace prog_9_method_3_code 4 (some .boolean) :: bgT) ({ frames := 0, cells := 0, slots := 0, locals := 0 })).room s m ([.int p0] : List Value).toArray below meth c s.heap [] 0 0 (MQ below (vp_Si (fun z => z = R)) ([.int p0] : List Value).toArray s 0 0 (fun _ => False)) (F0 m 46 ls []) := by
      intro ls hl
      refine lv_iload_n hx hb d_fIsPlace_46 rfl (lv_at hl 1 rfl) ?_
      refine lv_if_eq (tgt := 59) hx hb d_fIsPlace_47 (by decide) (fun c_2 => ?_) (fun c_2 => ?_)
      · have h := (if_pos c_2).symm.trans h
        refine lv_iconst (v := 0) hx hb d_fIsPlace_59 (by decide) ?_
        have h := Option.some.inj h
        exact W.zret (v := 0) hx hb hr rfl (fun t ht hW => ⟨_, rfl, h, ht⟩) (fun _ q => by cases q) d_fIsPlace_60
      · have h := (if_neg c_2).symm.trans h
        refine lv_iload_n hx hb d_fIsPlace_50 rfl (lv_at hl 0 rfl) ?_
        refine lv_iconst (v := 5) hx hb d_fIsPlace_51 (by decide) ?_
        refine lv_icmp_ge (tgt := 59) hx hb d_fIsPlace_52 (by decide) (fun c_3 => ?_) (fun c_3 => ?_)
        · have h := (if_pos c_3).symm.trans h
          refine lv_iconst (v := 0) hx hb d_fIsPlace_59 (by decide) ?_
          have h := Option.some.inj h
          exact W.zret (v := 0) hx hb hr rfl (fun t ht hW => ⟨_, rfl, h, ht⟩) (fun _ q => by cases q) d_fIsPlace_60
        · have h := (if_neg c_3).symm.trans h
          refine lv_iconst (v := 1) hx hb d_fIsPlace_55 (by decide) ?_
          refine lv_goto (tgt := 60) hx hb d_fIsPlace_56 (by decide) ?_
          have h := Option.some.inj h
          exact W.zret (v := 1) hx hb hr rfl (fun t ht hW => ⟨_, rfl, h, ht⟩) (fun _ q => by cases q) d_fIsPlace_60
    have key1 : ∀ (n : Nat) (v1 : Int32 × Int32 × Int32) (ls : Array Slot), ld_it (ls_fIsPlace_1) n v1 = some Y1 → lv_has ls 4 [(1, .int v1.1), (2, .int v1.2.1), (3, .int v1.2.2)] → W p l e (headSpec (Cond.code y_fIsPlace prog_9_method_3_code 4 (some .boolean) :: bgT) ({ frames := 0, cells := 0, slots := 0, locals := 0 })).room s m ([.int p0] : List Value).toArray below meth c s.heap [] 0 0 (MQ below (vp_Si (fun z => z = R)) ([.int p0] : List Value).toArray s 0 0 (fun _ => False)) (F0 m 14 ls []) := by
      intro n
      induction n with
      | zero => intro v1 ls g1 hl; cases g1
      | succ n ih1 =>
        intro v1 ls g1 hl
        obtain ⟨z1, hy1, g1⟩ := ld_its g1
        refine lv_iload_n hx hb d_fIsPlace_14 rfl (lv_at hl 0 rfl) ?_
        refine lv_if_le (tgt := 46) hx hb d_fIsPlace_15 (by decide) (fun c_4 => ?_) (fun c_4 => ?_)
        · have hy1 := (if_pos c_4).symm.trans hy1
          obtain rfl := Option.some.inj hy1
          obtain rfl := Option.some.inj g1
          exact kont1 _ (lv_sub hl [1, 2] rfl)
        · have hy1 := (if_neg c_4).symm.trans hy1
          refine lv_iload_n hx hb d_fIsPlace_18 rfl (lv_at hl 2 rfl) ?_
          refine lv_if_eq (tgt := 33) hx hb d_fIsPlace_19 (by decide) (fun c_5 => ?_) (fun c_5 => ?_)
          · have hy1 := (if_pos c_5).symm.trans hy1
            refine lv_iconst (v := 0) hx hb d_fIsPlace_33 (by decide) ?_
            refine lv_istore_n (lv' := [(3, .int 0), (1, .int v1.1), (2, .int v1.2.1)]) hx hb d_fIsPlace_34 rfl hl (by decide) rfl (fun ls hl => ?_)
            refine lv_iload_n hx hb d_fIsPlace_35 rfl (lv_at hl 1 rfl) ?_
            refine lv_bipush (v := 10) hx hb d_fIsPlace_36 (by decide) ?_
            refine lv_idiv hx hb d_fIsPlace_38 (by decide) ?_
            refine lv_istore_n (lv' := [(1, .int (v1.1 / 10)), (3, .int 0), (2, .int v1.2.1)]) hx hb d_fIsPlace_39 rfl hl (by decide) rfl (fun ls hl => ?_)
            refine lv_iinc (v := v1.2.1 + 1) (lv' := [(2, .int (v1.2.1 + 1)), (1, .int (v1.1 / 10)), (3, .int 0)]) hx hb d_fIsPlace_40 hl (k := 2) rfl rfl (by decide) rfl (fun ls hl => ?_)
            refine lv_goto (tgt := 14) hx hb d_fIsPlace_43 (by decide) ?_
            obtain rfl := Option.some.inj hy1
            exact ih1 (v1.1 / 10, v1.2.1 + 1, 0) _ g1 (lv_sub hl [1, 0, 2] rfl)
          · have hy1 := (if_neg c_5).symm.trans hy1
            refine lv_iload_n hx hb d_fIsPlace_22 rfl (lv_at hl 0 rfl) ?_
            refine lv_bipush (v := 10) hx hb d_fIsPlace_23 (by decide) ?_
            refine lv_irem hx hb d_fIsPlace_25 (by decide) ?_
            refine lv_if_eq (tgt := 33) hx hb d_fIsPlace_26 (by decide) (fun c_6 => ?_) (fun c_6 => ?_)
            · have hy1 := (if_pos c_6).symm.trans hy1
              refine lv_iconst (v := 0) hx hb d_fIsPlace_33 (by decide) ?_
              refine lv_istore_n (lv' := [(3, .int 0), (1, .int v1.1), (2, .int v1.2.1)]) hx hb d_fIsPlace_34 rfl hl (by decide) rfl (fun ls hl => ?_)
              refine lv_iload_n hx hb d_fIsPlace_35 rfl (lv_at hl 1 rfl) ?_
              refine lv_bipush (v := 10) hx hb d_fIsPlace_36 (by decide) ?_
              refine lv_idiv hx hb d_fIsPlace_38 (by decide) ?_
              refine lv_istore_n (lv' := [(1, .int (v1.1 / 10)), (3, .int 0), (2, .int v1.2.1)]) hx hb d_fIsPlace_39 rfl hl (by decide) rfl (fun ls hl => ?_)
              refine lv_iinc (v := v1.2.1 + 1) (lv' := [(2, .int (v1.2.1 + 1)), (1, .int (v1.1 / 10)), (3, .int 0)]) hx hb d_fIsPlace_40 hl (k := 2) rfl rfl (by decide) rfl (fun ls hl => ?_)
              refine lv_goto (tgt := 14) hx hb d_fIsPlace_43 (by decide) ?_
              obtain rfl := Option.some.inj hy1
              exact ih1 (v1.1 / 10, v1.2.1 + 1, 0) _ g1 (lv_sub hl [1, 0, 2] rfl)
            · have hy1 := (if_neg c_6).symm.trans hy1
              refine lv_iconst (v := 1) hx hb d_fIsPlace_29 (by decide) ?_
              refine lv_goto (tgt := 34) hx hb d_fIsPlace_30 (by decide) ?_
              refine lv_istore_n (lv' := [(3, .int 1), (1, .int v1.1), (2, .int v1.2.1)]) hx hb d_fIsPlace_34 rfl hl (by decide) rfl (fun ls hl => ?_)
              refine lv_iload_n hx hb d_fIsPlace_35 rfl (lv_at hl 1 rfl) ?_
              refine lv_bipush (v := 10) hx hb d_fIsPlace_36 (by decide) ?_
              refine lv_idiv hx hb d_fIsPlace_38 (by decide) ?_
              refine lv_istore_n (lv' := [(1, .int (v1.1 / 10)), (3, .int 1), (2, .int v1.2.1)]) hx hb d_fIsPlace_39 rfl hl (by decide) rfl (fun ls hl => ?_)
              refine lv_iinc (v := v1.2.1 + 1) (lv' := [(2, .int (v1.2.1 + 1)), (1, .int (v1.1 / 10)), (3, .int 1)]) hx hb d_fIsPlace_40 hl (k := 2) rfl rfl (by decide) rfl (fun ls hl => ?_)
              refine lv_goto (tgt := 14) hx hb d_fIsPlace_43 (by decide) ?_
              obtain rfl := Option.some.inj hy1
              exact ih1 (v1.1 / 10, v1.2.1 + 1, 1) _ g1 (lv_sub hl [1, 0, 2] rfl)
    exact key1 N (p0, 0, 0) _ eY1 (lv_sub hl [2, 1, 0] rfl)
  · have h := (if_neg c_1).symm.trans h
    refine lv_iconst (v := 1) hx hb d_fIsPlace_8 (by decide) ?_
    refine lv_goto (tgt := 13) hx hb d_fIsPlace_9 (by decide) ?_
    refine lv_istore_n (lv' := [(3, .int 1), (2, .int 0), (1, .int p0), (0, .int p0)]) hx hb d_fIsPlace_13 rfl hl (by decide) rfl (fun ls hl => ?_)
    obtain ⟨Y2, eY2, h⟩ := ld_ob h
    have kont2 : ∀ (ls : Array Slot), lv_has ls 4 [(2, .int Y2.2.1), (3, .int Y2.2.2)] → W p l e (headSpec (Cond.code y_fIsPlace prog_9_method_3_code 4 (some .boolean) :: bgT) ({ frames := 0, cells := 0, slots := 0, locals := 0 })).room s m ([.int p0] : List Value).toArray below meth c s.heap [] 0 0 (MQ below (vp_Si (fun z => z = R)) ([.int p0] : List Value).toArray s 0 0 (fun _ => False)) (F0 m 46 ls []) := by
      intro ls hl
      refine lv_iload_n hx hb d_fIsPlace_46 rfl (lv_at hl 1 rfl) ?_
      refine lv_if_eq (tgt := 59) hx hb d_fIsPlace_47 (by decide) (fun c_7 => ?_) (fun c_7 => ?_)
      · have h := (if_pos c_7).symm.trans h
        refine lv_iconst (v := 0) hx hb d_fIsPlace_59 (by decide) ?_
        have h := Option.some.inj h
        exact W.zret (v := 0) hx hb hr rfl (fun t ht hW => ⟨_, rfl, h, ht⟩) (fun _ q => by cases q) d_fIsPlace_60
      · have h := (if_neg c_7).symm.trans h
        refine lv_iload_n hx hb d_fIsPlace_50 rfl (lv_at hl 0 rfl) ?_
        refine lv_iconst (v := 5) hx hb d_fIsPlace_51 (by decide) ?_
        refine lv_icmp_ge (tgt := 59) hx hb d_fIsPlace_52 (by decide) (fun c_8 => ?_) (fun c_8 => ?_)
        · have h := (if_pos c_8).symm.trans h
          refine lv_iconst (v := 0) hx hb d_fIsPlace_59 (by decide) ?_
          have h := Option.some.inj h
          exact W.zret (v := 0) hx hb hr rfl (fun t ht hW => ⟨_, rfl, h, ht⟩) (fun _ q => by cases q) d_fIsPlace_60
        · have h := (if_neg c_8).symm.trans h
          refine lv_iconst (v := 1) hx hb d_fIsPlace_55 (by decide) ?_
          refine lv_goto (tgt := 60) hx hb d_fIsPlace_56 (by decide) ?_
          have h := Option.some.inj h
          exact W.zret (v := 1) hx hb hr rfl (fun t ht hW => ⟨_, rfl, h, ht⟩) (fun _ q => by cases q) d_fIsPlace_60
    have key2 : ∀ (n : Nat) (v2 : Int32 × Int32 × Int32) (ls : Array Slot), ld_it (ls_fIsPlace_2) n v2 = some Y2 → lv_has ls 4 [(1, .int v2.1), (2, .int v2.2.1), (3, .int v2.2.2)] → W p l e (headSpec (Cond.code y_fIsPlace prog_9_method_3_code 4 (some .boolean) :: bgT) ({ frames := 0, cells := 0, slots := 0, locals := 0 })).room s m ([.int p0] : List Value).toArray below meth c s.heap [] 0 0 (MQ below (vp_Si (fun z => z = R)) ([.int p0] : List Value).toArray s 0 0 (fun _ => False)) (F0 m 14 ls []) := by
      intro n
      induction n with
      | zero => intro v2 ls g2 hl; cases g2
      | succ n ih2 =>
        intro v2 ls g2 hl
        obtain ⟨z2, hy2, g2⟩ := ld_its g2
        refine lv_iload_n hx hb d_fIsPlace_14 rfl (lv_at hl 0 rfl) ?_
        refine lv_if_le (tgt := 46) hx hb d_fIsPlace_15 (by decide) (fun c_9 => ?_) (fun c_9 => ?_)
        · have hy2 := (if_pos c_9).symm.trans hy2
          obtain rfl := Option.some.inj hy2
          obtain rfl := Option.some.inj g2
          exact kont2 _ (lv_sub hl [1, 2] rfl)
        · have hy2 := (if_neg c_9).symm.trans hy2
          refine lv_iload_n hx hb d_fIsPlace_18 rfl (lv_at hl 2 rfl) ?_
          refine lv_if_eq (tgt := 33) hx hb d_fIsPlace_19 (by decide) (fun c_10 => ?_) (fun c_10 => ?_)
          · have hy2 := (if_pos c_10).symm.trans hy2
            refine lv_iconst (v := 0) hx hb d_fIsPlace_33 (by decide) ?_
            refine lv_istore_n (lv' := [(3, .int 0), (1, .int v2.1), (2, .int v2.2.1)]) hx hb d_fIsPlace_34 rfl hl (by decide) rfl (fun ls hl => ?_)
            refine lv_iload_n hx hb d_fIsPlace_35 rfl (lv_at hl 1 rfl) ?_
            refine lv_bipush (v := 10) hx hb d_fIsPlace_36 (by decide) ?_
            refine lv_idiv hx hb d_fIsPlace_38 (by decide) ?_
            refine lv_istore_n (lv' := [(1, .int (v2.1 / 10)), (3, .int 0), (2, .int v2.2.1)]) hx hb d_fIsPlace_39 rfl hl (by decide) rfl (fun ls hl => ?_)
            refine lv_iinc (v := v2.2.1 + 1) (lv' := [(2, .int (v2.2.1 + 1)), (1, .int (v2.1 / 10)), (3, .int 0)]) hx hb d_fIsPlace_40 hl (k := 2) rfl rfl (by decide) rfl (fun ls hl => ?_)
            refine lv_goto (tgt := 14) hx hb d_fIsPlace_43 (by decide) ?_
            obtain rfl := Option.some.inj hy2
            exact ih2 (v2.1 / 10, v2.2.1 + 1, 0) _ g2 (lv_sub hl [1, 0, 2] rfl)
          · have hy2 := (if_neg c_10).symm.trans hy2
            refine lv_iload_n hx hb d_fIsPlace_22 rfl (lv_at hl 0 rfl) ?_
            refine lv_bipush (v := 10) hx hb d_fIsPlace_23 (by decide) ?_
            refine lv_irem hx hb d_fIsPlace_25 (by decide) ?_
            refine lv_if_eq (tgt := 33) hx hb d_fIsPlace_26 (by decide) (fun c_11 => ?_) (fun c_11 => ?_)
            · have hy2 := (if_pos c_11).symm.trans hy2
              refine lv_iconst (v := 0) hx hb d_fIsPlace_33 (by decide) ?_
              refine lv_istore_n (lv' := [(3, .int 0), (1, .int v2.1), (2, .int v2.2.1)]) hx hb d_fIsPlace_34 rfl hl (by decide) rfl (fun ls hl => ?_)
              refine lv_iload_n hx hb d_fIsPlace_35 rfl (lv_at hl 1 rfl) ?_
              refine lv_bipush (v := 10) hx hb d_fIsPlace_36 (by decide) ?_
              refine lv_idiv hx hb d_fIsPlace_38 (by decide) ?_
              refine lv_istore_n (lv' := [(1, .int (v2.1 / 10)), (3, .int 0), (2, .int v2.2.1)]) hx hb d_fIsPlace_39 rfl hl (by decide) rfl (fun ls hl => ?_)
              refine lv_iinc (v := v2.2.1 + 1) (lv' := [(2, .int (v2.2.1 + 1)), (1, .int (v2.1 / 10)), (3, .int 0)]) hx hb d_fIsPlace_40 hl (k := 2) rfl rfl (by decide) rfl (fun ls hl => ?_)
              refine lv_goto (tgt := 14) hx hb d_fIsPlace_43 (by decide) ?_
              obtain rfl := Option.some.inj hy2
              exact ih2 (v2.1 / 10, v2.2.1 + 1, 0) _ g2 (lv_sub hl [1, 0, 2] rfl)
            · have hy2 := (if_neg c_11).symm.trans hy2
              refine lv_iconst (v := 1) hx hb d_fIsPlace_29 (by decide) ?_
              refine lv_goto (tgt := 34) hx hb d_fIsPlace_30 (by decide) ?_
              refine lv_istore_n (lv' := [(3, .int 1), (1, .int v2.1), (2, .int v2.2.1)]) hx hb d_fIsPlace_34 rfl hl (by decide) rfl (fun ls hl => ?_)
              refine lv_iload_n hx hb d_fIsPlace_35 rfl (lv_at hl 1 rfl) ?_
              refine lv_bipush (v := 10) hx hb d_fIsPlace_36 (by decide) ?_
              refine lv_idiv hx hb d_fIsPlace_38 (by decide) ?_
              refine lv_istore_n (lv' := [(1, .int (v2.1 / 10)), (3, .int 1), (2, .int v2.2.1)]) hx hb d_fIsPlace_39 rfl hl (by decide) rfl (fun ls hl => ?_)
              refine lv_iinc (v := v2.2.1 + 1) (lv' := [(2, .int (v2.2.1 + 1)), (1, .int (v2.1 / 10)), (3, .int 1)]) hx hb d_fIsPlace_40 hl (k := 2) rfl rfl (by decide) rfl (fun ls hl => ?_)
              refine lv_goto (tgt := 14) hx hb d_fIsPlace_43 (by decide) ?_
              obtain rfl := Option.some.inj hy2
              exact ih2 (v2.1 / 10, v2.2.1 + 1, 1) _ g2 (lv_sub hl [1, 0, 2] rfl)
    exact key2 N (p0, 0, 1) _ eY2 (lv_sub hl [2, 1, 0] rfl)
def ls_foverlap_2 (Y1 : Int32) (v2 : Int32) : Option ((Int32) ⊕ (Int32)) := if v2 ≤ Y1 then some (.inr v2) else if (v2 / 10) < Y1 then some (.inr v2) else some (.inl (v2 / 10))
def ls_foverlap_1 (p1 : Int32) (v1 : Int32) : Option ((Int32) ⊕ (Int32)) := if v1 ≤ p1 then some (.inr v1) else if (v1 / 10) < p1 then some (.inr v1) else some (.inl (v1 / 10))
def lm_foverlap (N : Nat) (p0 : Int32) (p1 : Int32) : Option (Int32) := Option.bind (ld_it (ls_foverlap_1 p1) N p0) (fun Y1 => Option.bind (ld_it (ls_foverlap_2 Y1) N p1) (fun Y2 => if Y1 = Y2 then some 1 else some 0))
set_option maxHeartbeats 4000000 in
set_option maxRecDepth 100000 in
theorem lc_foverlap (l : Launch) (D : va_G) (cI cZ cJ : ClassId)  (p0 : Int32) (p1 : Int32) (N : Nat) (R : Int32) (h : lm_foverlap N p0 p1 = some R) : Met l y_foverlap (Cond.code y_foverlap prog_9_method_19_code 4 (some .boolean) :: bgT) ({ frames := 0, cells := 0, slots := 0, locals := 0 }) (ld_PR D cI cZ cJ ([]) [.int p0, .int p1]) (vp_Si (fun z => z = R)) 0 0 (fun _ => False) := by
  refine Met.ofW (cc := prog_9_method_19_code) (maxL := 4) (ret := (some .boolean)) (by decide) rfl ?_
  intro p e s m args below meth c s₁ B hml hv
  obtain ⟨rfl, hP, hK, hN⟩ := hv
  have hx := B.exec
  have hb := B.bytes
  have hr := B.returns
  have hg : ∀ w ∈ bgT, w.before _ s = true := fun w h => atoms_spec (ws := (Cond.code y_foverlap prog_9_method_19_code 4 (some .boolean) :: bgT)) B.pre w (List.mem_cons_of_mem _ h)
  have hown : s.vm.findClass "LoanDeskModel" = some m.cls := findClass_of_methodNamed B.named
  have hlocks := B.notSynchronized
  have hl := lv_entry ([.int p0, .int p1]) (n := 4) (Nat.le_of_ble_eq_true rfl)
  rw [lg_entry_eq]
  generalize (lg_sl ([.int p0, .int p1]) ++ List.replicate (4 - (lg_sl ([.int p0, .int p1])).length) Slot.unset).toArray = ls at hl ⊢
  have hl : lv_has ls 4 [(0, .int p0), (1, .int p1)] := hl
  refine lv_iload_n hx hb d_foverlap_0 rfl (lv_at hl 0 rfl) ?_
  refine lv_istore_n (lv' := [(2, .int p0), (0, .int p0), (1, .int p1)]) hx hb d_foverlap_1 rfl hl (by decide) rfl (fun ls hl => ?_)
  refine lv_iload_n hx hb d_foverlap_2 rfl (lv_at hl 2 rfl) ?_
  refine lv_istore_n (lv' := [(3, .int p1), (2, .int p0), (0, .int p0), (1, .int p1)]) hx hb d_foverlap_3 rfl hl (by decide) rfl (fun ls hl => ?_)
  obtain ⟨Y1, eY1, h⟩ := ld_ob h
  have kont1 : ∀ (ls : Array Slot), lv_has ls 4 [(3, .int p1), (2, .int Y1)] → W p l e (headSpec (Cond.code y_foverlap prog_9_method_19_code 4 (some .boolean) :: bgT) ({ frames := 0, cells := 0, slots := 0, locals := 0 })).room s m ([.int p0, .int p1] : List Value).toArray below meth c s.heap [] 0 0 (MQ below (vp_Si (fun z => z = R)) ([.int p0, .int p1] : List Value).toArray s 0 0 (fun _ => False)) (F0 m 25 ls []) := by
    intro ls hl
    obtain ⟨Y2, eY2, h⟩ := ld_ob h
    have kont2 : ∀ (ls : Array Slot), lv_has ls 4 [(2, .int Y1), (3, .int Y2)] → W p l e (headSpec (Cond.code y_foverlap prog_9_method_19_code 4 (some .boolean) :: bgT) ({ frames := 0, cells := 0, slots := 0, locals := 0 })).room s m ([.int p0, .int p1] : List Value).toArray below meth c s.heap [] 0 0 (MQ below (vp_Si (fun z => z = R)) ([.int p0, .int p1] : List Value).toArray s 0 0 (fun _ => False)) (F0 m 46 ls []) := by
      intro ls hl
      refine lv_iload_n hx hb d_foverlap_46 rfl (lv_at hl 0 rfl) ?_
      refine lv_iload_n hx hb d_foverlap_47 rfl (lv_at hl 1 rfl) ?_
      refine lv_icmp_ne (tgt := 55) hx hb d_foverlap_48 (by decide) (fun c_1 => ?_) (fun c_1 => ?_)
      · have h := (if_neg c_1).symm.trans h
        refine lv_iconst (v := 0) hx hb d_foverlap_55 (by decide) ?_
        have h := Option.some.inj h
        exact W.zret (v := 0) hx hb hr rfl (fun t ht hW => ⟨_, rfl, h, ht⟩) (fun _ q => by cases q) d_foverlap_56
      · have h := (if_pos c_1).symm.trans h
        refine lv_iconst (v := 1) hx hb d_foverlap_51 (by decide) ?_
        refine lv_goto (tgt := 56) hx hb d_foverlap_52 (by decide) ?_
        have h := Option.some.inj h
        exact W.zret (v := 1) hx hb hr rfl (fun t ht hW => ⟨_, rfl, h, ht⟩) (fun _ q => by cases q) d_foverlap_56
    have key2 : ∀ (n : Nat) (v2 : Int32) (ls : Array Slot), ld_it (ls_foverlap_2 Y1) n v2 = some Y2 → lv_has ls 4 [(2, .int Y1), (3, .int v2)] → W p l e (headSpec (Cond.code y_foverlap prog_9_method_19_code 4 (some .boolean) :: bgT) ({ frames := 0, cells := 0, slots := 0, locals := 0 })).room s m ([.int p0, .int p1] : List Value).toArray below meth c s.heap [] 0 0 (MQ below (vp_Si (fun z => z = R)) ([.int p0, .int p1] : List Value).toArray s 0 0 (fun _ => False)) (F0 m 25 ls []) := by
      intro n
      induction n with
      | zero => intro v2 ls g2 hl; cases g2
      | succ n ih2 =>
        intro v2 ls g2 hl
        obtain ⟨z2, hy2, g2⟩ := ld_its g2
        refine lv_iload_n hx hb d_foverlap_25 rfl (lv_at hl 1 rfl) ?_
        refine lv_iload_n hx hb d_foverlap_26 rfl (lv_at hl 0 rfl) ?_
        refine lv_icmp_le (tgt := 46) hx hb d_foverlap_27 (by decide) (fun c_2 => ?_) (fun c_2 => ?_)
        · have hy2 := (if_pos c_2).symm.trans hy2
          obtain rfl := Option.some.inj hy2
          obtain rfl := Option.some.inj g2
          exact kont2 _ (lv_sub hl [0, 1] rfl)
        · have hy2 := (if_neg c_2).symm.trans hy2
          refine lv_iload_n hx hb d_foverlap_30 rfl (lv_at hl 1 rfl) ?_
          refine lv_bipush (v := 10) hx hb d_foverlap_31 (by decide) ?_
          refine lv_idiv hx hb d_foverlap_33 (by decide) ?_
          refine lv_iload_n hx hb d_foverlap_34 rfl (lv_at hl 0 rfl) ?_
          refine lv_icmp_lt (tgt := 46) hx hb d_foverlap_35 (by decide) (fun c_3 => ?_) (fun c_3 => ?_)
          · have hy2 := (if_pos c_3).symm.trans hy2
            obtain rfl := Option.some.inj hy2
            obtain rfl := Option.some.inj g2
            exact kont2 _ (lv_sub hl [0, 1] rfl)
          · have hy2 := (if_neg c_3).symm.trans hy2
            refine lv_iload_n hx hb d_foverlap_38 rfl (lv_at hl 1 rfl) ?_
            refine lv_bipush (v := 10) hx hb d_foverlap_39 (by decide) ?_
            refine lv_idiv hx hb d_foverlap_41 (by decide) ?_
            refine lv_istore_n (lv' := [(3, .int (v2 / 10)), (2, .int Y1)]) hx hb d_foverlap_42 rfl hl (by decide) rfl (fun ls hl => ?_)
            refine lv_goto (tgt := 25) hx hb d_foverlap_43 (by decide) ?_
            obtain rfl := Option.some.inj hy2
            exact ih2 (v2 / 10) _ g2 (lv_sub hl [1, 0] rfl)
    exact key2 N p1 _ eY2 (lv_sub hl [1, 0] rfl)
  have key1 : ∀ (n : Nat) (v1 : Int32) (ls : Array Slot), ld_it (ls_foverlap_1 p1) n v1 = some Y1 → lv_has ls 4 [(3, .int p1), (2, .int v1)] → W p l e (headSpec (Cond.code y_foverlap prog_9_method_19_code 4 (some .boolean) :: bgT) ({ frames := 0, cells := 0, slots := 0, locals := 0 })).room s m ([.int p0, .int p1] : List Value).toArray below meth c s.heap [] 0 0 (MQ below (vp_Si (fun z => z = R)) ([.int p0, .int p1] : List Value).toArray s 0 0 (fun _ => False)) (F0 m 4 ls []) := by
    intro n
    induction n with
    | zero => intro v1 ls g1 hl; cases g1
    | succ n ih1 =>
      intro v1 ls g1 hl
      obtain ⟨z1, hy1, g1⟩ := ld_its g1
      refine lv_iload_n hx hb d_foverlap_4 rfl (lv_at hl 1 rfl) ?_
      refine lv_iload_n hx hb d_foverlap_5 rfl (lv_at hl 0 rfl) ?_
      refine lv_icmp_le (tgt := 25) hx hb d_foverlap_6 (by decide) (fun c_4 => ?_) (fun c_4 => ?_)
      · have hy1 := (if_pos c_4).symm.trans hy1
        obtain rfl := Option.some.inj hy1
        obtain rfl := Option.some.inj g1
        exact kont1 _ (lv_sub hl [0, 1] rfl)
      · have hy1 := (if_neg c_4).symm.trans hy1
        refine lv_iload_n hx hb d_foverlap_9 rfl (lv_at hl 1 rfl) ?_
        refine lv_bipush (v := 10) hx hb d_foverlap_10 (by decide) ?_
        refine lv_idiv hx hb d_foverlap_12 (by decide) ?_
        refine lv_iload_n hx hb d_foverlap_13 rfl (lv_at hl 0 rfl) ?_
        refine lv_icmp_lt (tgt := 25) hx hb d_foverlap_14 (by decide) (fun c_5 => ?_) (fun c_5 => ?_)
        · have hy1 := (if_pos c_5).symm.trans hy1
          obtain rfl := Option.some.inj hy1
          obtain rfl := Option.some.inj g1
          exact kont1 _ (lv_sub hl [0, 1] rfl)
        · have hy1 := (if_neg c_5).symm.trans hy1
          refine lv_iload_n hx hb d_foverlap_17 rfl (lv_at hl 1 rfl) ?_
          refine lv_bipush (v := 10) hx hb d_foverlap_18 (by decide) ?_
          refine lv_idiv hx hb d_foverlap_20 (by decide) ?_
          refine lv_istore_n (lv' := [(2, .int (v1 / 10)), (3, .int p1)]) hx hb d_foverlap_21 rfl hl (by decide) rfl (fun ls hl => ?_)
          refine lv_goto (tgt := 4) hx hb d_foverlap_22 (by decide) ?_
          obtain rfl := Option.some.inj hy1
          exact ih1 (v1 / 10) _ g1 (lv_sub hl [1, 0] rfl)
  exact key1 N p0 _ eY1 (lv_sub hl [0, 1] rfl)
def lf_fIsPoint (fo : Int32 × Int32 × Int32) (p0 : Int32) : Int32 := if p0 < 0 then 0 else if fo.1 ≤ p0 then 0 else 1
set_option maxHeartbeats 4000000 in
set_option maxRecDepth 100000 in
theorem lc_fIsPoint (l : Launch) (D : va_G) (cI cZ cJ : ClassId) (f : Nat → Nat) (fo : Int32 × Int32 × Int32) (p0 : Int32) (R : Int32) (h : lf_fIsPoint fo p0 = R) : Met l y_fIsPoint (Cond.code y_fIsPoint prog_9_method_6_code 2 (some .boolean) :: bgT) ({ frames := 0, cells := 0, slots := 0, locals := 0 }) (ld_PR D cI cZ cJ (ld_oW f fo) [.ref (f 0), .int p0]) (vp_Si (fun z => z = R)) 0 0 (fun _ => False) := by
  refine Met.ofW (cc := prog_9_method_6_code) (maxL := 2) (ret := (some .boolean)) (by decide) rfl ?_
  intro p e s m args below meth c s₁ B hml hv
  obtain ⟨rfl, hP, hK, hN⟩ := hv
  have hx := B.exec
  have hb := B.bytes
  have hr := B.returns
  have hg : ∀ w ∈ bgT, w.before _ s = true := fun w h => atoms_spec (ws := (Cond.code y_fIsPoint prog_9_method_6_code 2 (some .boolean) :: bgT)) B.pre w (List.mem_cons_of_mem _ h)
  have hown : s.vm.findClass "LoanDeskModel" = some m.cls := findClass_of_methodNamed B.named
  have hlocks := B.notSynchronized
  have hl := lv_entry ([.ref (f 0), .int p0]) (n := 2) (Nat.le_of_ble_eq_true rfl)
  rw [lg_entry_eq]
  generalize (lg_sl ([.ref (f 0), .int p0]) ++ List.replicate (2 - (lg_sl ([.ref (f 0), .int p0])).length) Slot.unset).toArray = ls at hl ⊢
  have hl : lv_has ls 2 [(0, .ref (f 0)), (1, .int p0)] := hl
  refine lv_iload_n hx hb d_fIsPoint_0 rfl (lv_at hl 1 rfl) ?_
  refine lv_if_lt (tgt := 16) hx hb d_fIsPoint_1 (by decide) (fun c_1 => ?_) (fun c_1 => ?_)
  · have h := (if_pos c_1).symm.trans h
    refine lv_iconst (v := 0) hx hb d_fIsPoint_16 (by decide) ?_
    exact W.zret (v := 0) hx hb hr rfl (fun t ht hW => ⟨_, rfl, h, ht⟩) (fun _ q => by cases q) d_fIsPoint_17
  · have h := (if_neg c_1).symm.trans h
    refine lv_iload_n hx hb d_fIsPoint_4 rfl (lv_at hl 1 rfl) ?_
    refine lv_aload_n hx hb d_fIsPoint_5 rfl (lv_at hl 0 rfl) ?_
    refine va_get (D := D) (ci := 7) (v := .int fo.1) (C := "LoanDeskModel") (T := T_Ref) (N := 14) hx hb hg u_Ref hown hK hP 0 rfl rfl 0 (by decide) (hg _ k_370) (fun _ h9 => h9) rfl d_fIsPoint_6 ?_
    refine lv_icmp_ge (tgt := 16) hx hb d_fIsPoint_9 (by decide) (fun c_2 => ?_) (fun c_2 => ?_)
    · have h := (if_pos c_2).symm.trans h
      refine lv_iconst (v := 0) hx hb d_fIsPoint_16 (by decide) ?_
      exact W.zret (v := 0) hx hb hr rfl (fun t ht hW => ⟨_, rfl, h, ht⟩) (fun _ q => by cases q) d_fIsPoint_17
    · have h := (if_neg c_2).symm.trans h
      refine lv_iconst (v := 1) hx hb d_fIsPoint_12 (by decide) ?_
      refine lv_goto (tgt := 17) hx hb d_fIsPoint_13 (by decide) ?_
      exact W.zret (v := 1) hx hb hr rfl (fun t ht hW => ⟨_, rfl, h, ht⟩) (fun _ q => by cases q) d_fIsPoint_17
def lm_fpoint (N : Nat) (fo : Int32 × Int32 × Int32) (fb : ld_bT) (p0 : Int32) (p1 : Int32) (p2 : Int32) (p3 : Int32) : Option (Int32 × (Int32 × Int32 × Int32) × ld_bT) := Option.bind ((if p0 < 0 then some 0 else if 6 < p0 then some 0 else if 120 ≤ fo.1 then some 0 else some 1) : Option (Int32)) (fun (Y1 : Int32) => Option.bind ((if Y1 = 0 then some 0 else if p0 < 1 then some 1 else if 4 < p0 then some 1 else ld_lt (lf_fIsRef p1) (fun r_24 => if r_24 = 0 then some 0 else some 1)) : Option (Int32)) (fun (Y2 : Int32) => Option.bind ((if Y2 = 0 then some 0 else if p0 = 2 then ld_lt (lf_fIsRef p2) (fun r_19 => if r_19 = 0 then some 0 else some 1) else some 1) : Option (Int32)) (fun (Y3 : Int32) => Option.bind ((if Y3 = 0 then some 0 else if p0 = 1 then Option.bind (lm_fIsPlace N p2) (fun r_9 => if r_9 = 0 then some 0 else some 1) else if p0 = 5 then Option.bind (lm_fIsPlace N p2) (fun r_12 => if r_12 = 0 then some 0 else some 1) else if p0 = 6 then Option.bind (lm_fIsPlace N p2) (fun r_15 => if r_15 = 0 then some 0 else some 1) else some 1) : Option (Int32)) (fun (Y4 : Int32) => Option.bind ((if Y4 = 0 then some 0 else if p0 = 1 then if p3 = 0 then some 1 else if p3 = 1 then some 1 else some 0 else some 1) : Option (Int32)) (fun (Y5 : Int32) => if Y5 = 0 then some (ld_n1, fo, fb) else if ld_in fo.1 120 = true then (some ((fo.1 + 1) - 1, (fo.1 + 1, 0, fo.2.2), (upd fb.1 fo.1.toNatClampNeg p0, upd fb.2.1 fo.1.toNatClampNeg p1, upd fb.2.2.1 fo.1.toNatClampNeg p2, upd fb.2.2.2.1 fo.1.toNatClampNeg p3, upd fb.2.2.2.2.1 fo.1.toNatClampNeg (fo.1 + 1), upd fb.2.2.2.2.2 fo.1.toNatClampNeg ld_n1))) else none)))))
set_option maxHeartbeats 4000000 in
set_option maxRecDepth 100000 in
theorem lc_fpoint (l : Launch) (D : va_G) (cI cZ cJ : ClassId) (f : Nat → Nat) (fo : Int32 × Int32 × Int32) (fb : ld_bT) (p0 : Int32) (p1 : Int32) (p2 : Int32) (p3 : Int32) (sz : Nat) (N : Nat) (R : Int32 × (Int32 × Int32 × Int32) × ld_bT) (h : lm_fpoint N fo fb p0 p1 p2 p3 = some R) : Met l y_fpoint (Cond.code y_fpoint prog_9_method_4_code 6 (some .int) :: bgT) ({ frames := 1, cells := 0, slots := 0, locals := 23 }) (ld_PM D cI cZ cJ (ld_oW f fo ++ ld_bW f cI fb) sz [.ref (f 0), .int p0, .int p1, .int p2, .int p3]) (ld_QI D (ld_oW f R.2.1 ++ ld_bW f cI R.2.2) (va_A (ld_oW f fo ++ ld_bW f cI fb) sz) R.1) 0 0 ((va_A (ld_oW f fo ++ ld_bW f cI fb) sz)) := by
  refine Met.ofW (cc := prog_9_method_4_code) (maxL := 6) (ret := (some .int)) (by decide) rfl ?_
  intro p e s m args below meth c s₁ B hml hv
  obtain ⟨rfl, hsz, hP, hK, hD0, hN⟩ := hv
  have hx := B.exec
  have hb := B.bytes
  have hr := B.returns
  have hg : ∀ w ∈ bgT, w.before _ s = true := fun w h => atoms_spec (ws := (Cond.code y_fpoint prog_9_method_4_code 6 (some .int) :: bgT)) B.pre w (List.mem_cons_of_mem _ h)
  have hown : s.vm.findClass "LoanDeskModel" = some m.cls := findClass_of_methodNamed B.named
  have hlocks := B.notSynchronized
  subst hsz
  have hD := hD0.self (sz := s.heap.size)
  generalize hAe : va_A (ld_oW f fo ++ ld_bW f cI fb) s.heap.size = A at hD ⊢
  have hA : ∀ q : Nat, s.heap.size ≤ q → A q := fun q h => by rw [← hAe]; exact Or.inr h
  have hS : va_S A s.heap s.heap [] := va_S.rf
  have hl := lv_entry ([.ref (f 0), .int p0, .int p1, .int p2, .int p3]) (n := 6) (Nat.le_of_ble_eq_true rfl)
  rw [lg_entry_eq]
  generalize (lg_sl ([.ref (f 0), .int p0, .int p1, .int p2, .int p3]) ++ List.replicate (6 - (lg_sl ([.ref (f 0), .int p0, .int p1, .int p2, .int p3])).length) Slot.unset).toArray = ls at hl ⊢
  have hl : lv_has ls 6 [(0, .ref (f 0)), (1, .int p0), (2, .int p1), (3, .int p2), (4, .int p3)] := hl
  obtain ⟨Y1, eY1, h⟩ := ld_ob h
  have kont1 : ∀ (ls : Array Slot), lv_has ls 6 [(0, .ref (f 0)), (1, .int p0), (2, .int p1), (3, .int p2), (4, .int p3), (5, .int Y1)] → W p l e (headSpec (Cond.code y_fpoint prog_9_method_4_code 6 (some .int) :: bgT) ({ frames := 1, cells := 0, slots := 0, locals := 23 })).room s m ([.ref (f 0), .int p0, .int p1, .int p2, .int p3] : List Value).toArray below meth c s.heap [] 0 0 (MQ below (ld_QI D (ld_oW f R.2.1 ++ ld_bW f cI R.2.2) A R.1) ([.ref (f 0), .int p0, .int p1, .int p2, .int p3] : List Value).toArray s 0 0 (A)) (F0 m 26 ls []) := by
    intro ls hl
    obtain ⟨Y2, eY2, h⟩ := ld_ob h
    have kont2 : ∀ (ls : Array Slot), lv_has ls 6 [(0, .ref (f 0)), (1, .int p0), (2, .int p1), (3, .int p2), (4, .int p3), (5, .int Y2)] → W p l e (headSpec (Cond.code y_fpoint prog_9_method_4_code 6 (some .int) :: bgT) ({ frames := 1, cells := 0, slots := 0, locals := 23 })).room s m ([.ref (f 0), .int p0, .int p1, .int p2, .int p3] : List Value).toArray below meth c s.heap [] 0 0 (MQ below (ld_QI D (ld_oW f R.2.1 ++ ld_bW f cI R.2.2) A R.1) ([.ref (f 0), .int p0, .int p1, .int p2, .int p3] : List Value).toArray s 0 0 (A)) (F0 m 55 ls []) := by
      intro ls hl
      obtain ⟨Y3, eY3, h⟩ := ld_ob h
      have kont3 : ∀ (ls : Array Slot), lv_has ls 6 [(0, .ref (f 0)), (1, .int p0), (2, .int p1), (3, .int p2), (4, .int p3), (5, .int Y3)] → W p l e (headSpec (Cond.code y_fpoint prog_9_method_4_code 6 (some .int) :: bgT) ({ frames := 1, cells := 0, slots := 0, locals := 23 })).room s m ([.ref (f 0), .int p0, .int p1, .int p2, .int p3] : List Value).toArray below meth c s.heap [] 0 0 (MQ below (ld_QI D (ld_oW f R.2.1 ++ ld_bW f cI R.2.2) A R.1) ([.ref (f 0), .int p0, .int p1, .int p2, .int p3] : List Value).toArray s 0 0 (A)) (F0 m 79 ls []) := by
        intro ls hl
        obtain ⟨Y4, eY4, h⟩ := ld_ob h
        have kont4 : ∀ (ls : Array Slot), lv_has ls 6 [(0, .ref (f 0)), (1, .int p0), (2, .int p1), (3, .int p2), (4, .int p3), (5, .int Y4)] → W p l e (headSpec (Cond.code y_fpoint prog_9_method_4_code 6 (some .int) :: bgT) ({ frames := 1, cells := 0, slots := 0, locals := 23 })).room s m ([.ref (f 0), .int p0, .int p1, .int p2, .int p3] : List Value).toArray below meth c s.heap [] 0 0 (MQ below (ld_QI D (ld_oW f R.2.1 ++ ld_bW f cI R.2.2) A R.1) ([.ref (f 0), .int p0, .int p1, .int p2, .int p3] : List Value).toArray s 0 0 (A)) (F0 m 114 ls []) := by
          intro ls hl
          obtain ⟨Y5, eY5, h⟩ := ld_ob h
          have kont5 : ∀ (ls : Array Slot), lv_has ls 6 [(0, .ref (f 0)), (1, .int p0), (2, .int p1), (3, .int p2), (4, .int p3), (5, .int Y5)] → W p l e (headSpec (Cond.code y_fpoint prog_9_method_4_code 6 (some .int) :: bgT) ({ frames := 1, cells := 0, slots := 0, locals := 23 })).room s m ([.ref (f 0), .int p0, .int p1, .int p2, .int p3] : List Value).toArray below meth c s.heap [] 0 0 (MQ below (ld_QI D (ld_oW f R.2.1 ++ ld_bW f cI R.2.2) A R.1) ([.ref (f 0), .int p0, .int p1, .int p2, .int p3] : List Value).toArray s 0 0 (A)) (F0 m 142 ls []) := by
            intro ls hl
            refine lv_iload hx hb d_fpoint_142 (lv_at hl 5 rfl) ?_
            refine lv_if_ne (tgt := 149) hx hb d_fpoint_144 (by decide) (fun c_1 => ?_) (fun c_1 => ?_)
            · have h := (if_neg c_1).symm.trans h
              refine lv_aload_n hx hb d_fpoint_149 rfl (lv_at hl 0 rfl) ?_
              refine va_get (D := D) (ci := 7) (v := .ref (f 1)) (C := "LoanDeskModel") (T := T_Ref) (N := 14) hx hb hg u_Ref hown hK hP 0 rfl rfl 1 (by decide) (hg _ k_371) (fun _ h9 => h9) rfl d_fpoint_150 ?_
              refine lv_aload_n hx hb d_fpoint_153 rfl (lv_at hl 0 rfl) ?_
              refine va_get (D := D) (ci := 7) (v := .int fo.1) (C := "LoanDeskModel") (T := T_Ref) (N := 14) hx hb hg u_Ref hown hK hP 0 rfl rfl 0 (by decide) (hg _ k_370) (fun _ h9 => h9) rfl d_fpoint_154 ?_
              refine lv_iload_n hx hb d_fpoint_157 rfl (lv_at hl 1 rfl) ?_
              obtain ⟨i_2, h⟩ := ld_grd h
              refine va_iast hx hb hK hP hD hS 1 0 rfl rfl (i := fo.1) i_2 d_fpoint_158 (fun H locs hP hD hS => ?_)
              have hP : va_P D vwCl (ld_oW f fo ++ ld_bW f cI (upd fb.1 fo.1.toNatClampNeg p0, fb.2.1, fb.2.2.1, fb.2.2.2.1, fb.2.2.2.2.1, fb.2.2.2.2.2)) H := hP
              have hD : va_D A (ld_oW f fo ++ ld_bW f cI (upd fb.1 fo.1.toNatClampNeg p0, fb.2.1, fb.2.2.1, fb.2.2.2.1, fb.2.2.2.2.1, fb.2.2.2.2.2)) := hD
              refine lv_aload_n hx hb d_fpoint_159 rfl (lv_at hl 0 rfl) ?_
              refine va_get (D := D) (ci := 7) (v := .ref (f 2)) (C := "LoanDeskModel") (T := T_Ref) (N := 14) hx hb hg u_Ref hown hK hP 0 rfl rfl 2 (by decide) (hg _ k_372) (fun _ h9 => h9) rfl d_fpoint_160 ?_
              refine lv_aload_n hx hb d_fpoint_163 rfl (lv_at hl 0 rfl) ?_
              refine va_get (D := D) (ci := 7) (v := .int fo.1) (C := "LoanDeskModel") (T := T_Ref) (N := 14) hx hb hg u_Ref hown hK hP 0 rfl rfl 0 (by decide) (hg _ k_370) (fun _ h9 => h9) rfl d_fpoint_164 ?_
              refine lv_iload_n hx hb d_fpoint_167 rfl (lv_at hl 2 rfl) ?_
              refine va_iast hx hb hK hP hD hS 2 0 rfl rfl (i := fo.1) i_2 d_fpoint_168 (fun H locs hP hD hS => ?_)
              have hP : va_P D vwCl (ld_oW f fo ++ ld_bW f cI (upd fb.1 fo.1.toNatClampNeg p0, upd fb.2.1 fo.1.toNatClampNeg p1, fb.2.2.1, fb.2.2.2.1, fb.2.2.2.2.1, fb.2.2.2.2.2)) H := hP
              have hD : va_D A (ld_oW f fo ++ ld_bW f cI (upd fb.1 fo.1.toNatClampNeg p0, upd fb.2.1 fo.1.toNatClampNeg p1, fb.2.2.1, fb.2.2.2.1, fb.2.2.2.2.1, fb.2.2.2.2.2)) := hD
              refine lv_aload_n hx hb d_fpoint_169 rfl (lv_at hl 0 rfl) ?_
              refine va_get (D := D) (ci := 7) (v := .ref (f 3)) (C := "LoanDeskModel") (T := T_Ref) (N := 14) hx hb hg u_Ref hown hK hP 0 rfl rfl 3 (by decide) (hg _ k_373) (fun _ h9 => h9) rfl d_fpoint_170 ?_
              refine lv_aload_n hx hb d_fpoint_173 rfl (lv_at hl 0 rfl) ?_
              refine va_get (D := D) (ci := 7) (v := .int fo.1) (C := "LoanDeskModel") (T := T_Ref) (N := 14) hx hb hg u_Ref hown hK hP 0 rfl rfl 0 (by decide) (hg _ k_370) (fun _ h9 => h9) rfl d_fpoint_174 ?_
              refine lv_iload_n hx hb d_fpoint_177 rfl (lv_at hl 3 rfl) ?_
              refine va_iast hx hb hK hP hD hS 3 0 rfl rfl (i := fo.1) i_2 d_fpoint_178 (fun H locs hP hD hS => ?_)
              have hP : va_P D vwCl (ld_oW f fo ++ ld_bW f cI (upd fb.1 fo.1.toNatClampNeg p0, upd fb.2.1 fo.1.toNatClampNeg p1, upd fb.2.2.1 fo.1.toNatClampNeg p2, fb.2.2.2.1, fb.2.2.2.2.1, fb.2.2.2.2.2)) H := hP
              have hD : va_D A (ld_oW f fo ++ ld_bW f cI (upd fb.1 fo.1.toNatClampNeg p0, upd fb.2.1 fo.1.toNatClampNeg p1, upd fb.2.2.1 fo.1.toNatClampNeg p2, fb.2.2.2.1, fb.2.2.2.2.1, fb.2.2.2.2.2)) := hD
              refine lv_aload_n hx hb d_fpoint_179 rfl (lv_at hl 0 rfl) ?_
              refine va_get (D := D) (ci := 7) (v := .ref (f 4)) (C := "LoanDeskModel") (T := T_Ref) (N := 14) hx hb hg u_Ref hown hK hP 0 rfl rfl 4 (by decide) (hg _ k_374) (fun _ h9 => h9) rfl d_fpoint_180 ?_
              refine lv_aload_n hx hb d_fpoint_183 rfl (lv_at hl 0 rfl) ?_
              refine va_get (D := D) (ci := 7) (v := .int fo.1) (C := "LoanDeskModel") (T := T_Ref) (N := 14) hx hb hg u_Ref hown hK hP 0 rfl rfl 0 (by decide) (hg _ k_370) (fun _ h9 => h9) rfl d_fpoint_184 ?_
              refine lv_iload hx hb d_fpoint_187 (lv_at hl 4 rfl) ?_
              refine va_iast hx hb hK hP hD hS 4 0 rfl rfl (i := fo.1) i_2 d_fpoint_189 (fun H locs hP hD hS => ?_)
              have hP : va_P D vwCl (ld_oW f fo ++ ld_bW f cI (upd fb.1 fo.1.toNatClampNeg p0, upd fb.2.1 fo.1.toNatClampNeg p1, upd fb.2.2.1 fo.1.toNatClampNeg p2, upd fb.2.2.2.1 fo.1.toNatClampNeg p3, fb.2.2.2.2.1, fb.2.2.2.2.2)) H := hP
              have hD : va_D A (ld_oW f fo ++ ld_bW f cI (upd fb.1 fo.1.toNatClampNeg p0, upd fb.2.1 fo.1.toNatClampNeg p1, upd fb.2.2.1 fo.1.toNatClampNeg p2, upd fb.2.2.2.1 fo.1.toNatClampNeg p3, fb.2.2.2.2.1, fb.2.2.2.2.2)) := hD
              refine lv_aload_n hx hb d_fpoint_190 rfl (lv_at hl 0 rfl) ?_
              refine va_get (D := D) (ci := 7) (v := .ref (f 5)) (C := "LoanDeskModel") (T := T_Ref) (N := 14) hx hb hg u_Ref hown hK hP 0 rfl rfl 5 (by decide) (hg _ k_375) (fun _ h9 => h9) rfl d_fpoint_191 ?_
              refine lv_aload_n hx hb d_fpoint_194 rfl (lv_at hl 0 rfl) ?_
              refine va_get (D := D) (ci := 7) (v := .int fo.1) (C := "LoanDeskModel") (T := T_Ref) (N := 14) hx hb hg u_Ref hown hK hP 0 rfl rfl 0 (by decide) (hg _ k_370) (fun _ h9 => h9) rfl d_fpoint_195 ?_
              refine lv_aload_n hx hb d_fpoint_198 rfl (lv_at hl 0 rfl) ?_
              refine va_get (D := D) (ci := 7) (v := .int fo.1) (C := "LoanDeskModel") (T := T_Ref) (N := 14) hx hb hg u_Ref hown hK hP 0 rfl rfl 0 (by decide) (hg _ k_370) (fun _ h9 => h9) rfl d_fpoint_199 ?_
              refine lv_iconst (v := 1) hx hb d_fpoint_202 (by decide) ?_
              refine lv_iadd hx hb d_fpoint_203 ?_
              refine va_iast hx hb hK hP hD hS 5 0 rfl rfl (i := fo.1) i_2 d_fpoint_204 (fun H locs hP hD hS => ?_)
              have hP : va_P D vwCl (ld_oW f fo ++ ld_bW f cI (upd fb.1 fo.1.toNatClampNeg p0, upd fb.2.1 fo.1.toNatClampNeg p1, upd fb.2.2.1 fo.1.toNatClampNeg p2, upd fb.2.2.2.1 fo.1.toNatClampNeg p3, upd fb.2.2.2.2.1 fo.1.toNatClampNeg (fo.1 + 1), fb.2.2.2.2.2)) H := hP
              have hD : va_D A (ld_oW f fo ++ ld_bW f cI (upd fb.1 fo.1.toNatClampNeg p0, upd fb.2.1 fo.1.toNatClampNeg p1, upd fb.2.2.1 fo.1.toNatClampNeg p2, upd fb.2.2.2.1 fo.1.toNatClampNeg p3, upd fb.2.2.2.2.1 fo.1.toNatClampNeg (fo.1 + 1), fb.2.2.2.2.2)) := hD
              refine lv_aload_n hx hb d_fpoint_205 rfl (lv_at hl 0 rfl) ?_
              refine va_get (D := D) (ci := 7) (v := .ref (f 6)) (C := "LoanDeskModel") (T := T_Ref) (N := 14) hx hb hg u_Ref hown hK hP 0 rfl rfl 6 (by decide) (hg _ k_376) (fun _ h9 => h9) rfl d_fpoint_206 ?_
              refine lv_aload_n hx hb d_fpoint_209 rfl (lv_at hl 0 rfl) ?_
              refine va_get (D := D) (ci := 7) (v := .int fo.1) (C := "LoanDeskModel") (T := T_Ref) (N := 14) hx hb hg u_Ref hown hK hP 0 rfl rfl 0 (by decide) (hg _ k_370) (fun _ h9 => h9) rfl d_fpoint_210 ?_
              refine lv_iconst (v := ld_n1) hx hb d_fpoint_213 (by decide) ?_
              refine va_iast hx hb hK hP hD hS 6 0 rfl rfl (i := fo.1) i_2 d_fpoint_214 (fun H locs hP hD hS => ?_)
              have hP : va_P D vwCl (ld_oW f fo ++ ld_bW f cI (upd fb.1 fo.1.toNatClampNeg p0, upd fb.2.1 fo.1.toNatClampNeg p1, upd fb.2.2.1 fo.1.toNatClampNeg p2, upd fb.2.2.2.1 fo.1.toNatClampNeg p3, upd fb.2.2.2.2.1 fo.1.toNatClampNeg (fo.1 + 1), upd fb.2.2.2.2.2 fo.1.toNatClampNeg ld_n1)) H := hP
              have hD : va_D A (ld_oW f fo ++ ld_bW f cI (upd fb.1 fo.1.toNatClampNeg p0, upd fb.2.1 fo.1.toNatClampNeg p1, upd fb.2.2.1 fo.1.toNatClampNeg p2, upd fb.2.2.2.1 fo.1.toNatClampNeg p3, upd fb.2.2.2.2.1 fo.1.toNatClampNeg (fo.1 + 1), upd fb.2.2.2.2.2 fo.1.toNatClampNeg ld_n1)) := hD
              refine lv_aload_n hx hb d_fpoint_215 rfl (lv_at hl 0 rfl) ?_
              refine lv_dup hx hb d_fpoint_216 rfl ?_
              refine va_get (D := D) (ci := 7) (v := .int fo.1) (C := "LoanDeskModel") (T := T_Ref) (N := 14) hx hb hg u_Ref hown hK hP 0 rfl rfl 0 (by decide) (hg _ k_370) (fun _ h9 => h9) rfl d_fpoint_217 ?_
              refine lv_iconst (v := 1) hx hb d_fpoint_220 (by decide) ?_
              refine lv_iadd hx hb d_fpoint_221 ?_
              refine va_put (D := D) (ci := 7) (v := .int (fo.1 + 1)) (ty := .int) (C := "LoanDeskModel") (T := T_Ref) (N := 14) hx hb hg u_Ref t_Ref tk_Ref n_Ref hown hK hP hD hS 0 rfl rfl 0 (by decide) (hg _ k_370) (fun _ h9 => h9) rfl (by decide +kernel) rfl rfl (Nat.le_of_ble_eq_true rfl) d_fpoint_222 (fun H locs hP hD hS => ?_)
              have hP : va_P D vwCl (ld_oW f (fo.1 + 1, fo.2.1, fo.2.2) ++ ld_bW f cI (upd fb.1 fo.1.toNatClampNeg p0, upd fb.2.1 fo.1.toNatClampNeg p1, upd fb.2.2.1 fo.1.toNatClampNeg p2, upd fb.2.2.2.1 fo.1.toNatClampNeg p3, upd fb.2.2.2.2.1 fo.1.toNatClampNeg (fo.1 + 1), upd fb.2.2.2.2.2 fo.1.toNatClampNeg ld_n1)) H := hP
              have hD : va_D A (ld_oW f (fo.1 + 1, fo.2.1, fo.2.2) ++ ld_bW f cI (upd fb.1 fo.1.toNatClampNeg p0, upd fb.2.1 fo.1.toNatClampNeg p1, upd fb.2.2.1 fo.1.toNatClampNeg p2, upd fb.2.2.2.1 fo.1.toNatClampNeg p3, upd fb.2.2.2.2.1 fo.1.toNatClampNeg (fo.1 + 1), upd fb.2.2.2.2.2 fo.1.toNatClampNeg ld_n1)) := hD
              refine lv_aload_n hx hb d_fpoint_225 rfl (lv_at hl 0 rfl) ?_
              refine lv_iconst (v := 0) hx hb d_fpoint_226 (by decide) ?_
              refine va_put (D := D) (ci := 7) (v := .int 0) (ty := .boolean) (C := "LoanDeskModel") (T := T_Ref) (N := 14) hx hb hg u_Ref t_Ref tk_Ref n_Ref hown hK hP hD hS 0 rfl rfl 7 (by decide) (hg _ k_377) (fun _ h9 => h9) rfl (by decide +kernel) rfl rfl (Nat.le_of_ble_eq_true rfl) d_fpoint_227 (fun H locs hP hD hS => ?_)
              have hP : va_P D vwCl (ld_oW f (fo.1 + 1, 0, fo.2.2) ++ ld_bW f cI (upd fb.1 fo.1.toNatClampNeg p0, upd fb.2.1 fo.1.toNatClampNeg p1, upd fb.2.2.1 fo.1.toNatClampNeg p2, upd fb.2.2.2.1 fo.1.toNatClampNeg p3, upd fb.2.2.2.2.1 fo.1.toNatClampNeg (fo.1 + 1), upd fb.2.2.2.2.2 fo.1.toNatClampNeg ld_n1)) H := hP
              have hD : va_D A (ld_oW f (fo.1 + 1, 0, fo.2.2) ++ ld_bW f cI (upd fb.1 fo.1.toNatClampNeg p0, upd fb.2.1 fo.1.toNatClampNeg p1, upd fb.2.2.1 fo.1.toNatClampNeg p2, upd fb.2.2.2.1 fo.1.toNatClampNeg p3, upd fb.2.2.2.2.1 fo.1.toNatClampNeg (fo.1 + 1), upd fb.2.2.2.2.2 fo.1.toNatClampNeg ld_n1)) := hD
              refine lv_aload_n hx hb d_fpoint_230 rfl (lv_at hl 0 rfl) ?_
              refine va_get (D := D) (ci := 7) (v := .int (fo.1 + 1)) (C := "LoanDeskModel") (T := T_Ref) (N := 14) hx hb hg u_Ref hown hK hP 0 rfl rfl 0 (by decide) (hg _ k_370) (fun _ h9 => h9) rfl d_fpoint_231 ?_
              refine lv_iconst (v := 1) hx hb d_fpoint_234 (by decide) ?_
              refine lv_isub hx hb d_fpoint_235 ?_
              have h := Option.some.inj h
              subst h
              exact W.iret (v := (fo.1 + 1) - 1) hx hb hr (fun t ht hW => ⟨⟨_, (), rfl, rfl, by rw [ht]; exact hP, hD⟩, hS.F ht⟩) hS.2.2 d_fpoint_236
            · have h := (if_pos c_1).symm.trans h
              refine lv_iconst (v := ld_n1) hx hb d_fpoint_147 (by decide) ?_
              have h := Option.some.inj h
              subst h
              exact W.iret (v := ld_n1) hx hb hr (fun t ht hW => ⟨⟨_, (), rfl, rfl, by rw [ht]; exact hP, hD⟩, hS.F ht⟩) hS.2.2 d_fpoint_148
          refine lv_iload hx hb d_fpoint_114 (lv_at hl 5 rfl) ?_
          refine lv_if_eq (tgt := 139) hx hb d_fpoint_116 (by decide) (fun c_3 => ?_) (fun c_3 => ?_)
          · have eY5 := (if_pos c_3).symm.trans eY5
            refine lv_iconst (v := 0) hx hb d_fpoint_139 (by decide) ?_
            refine lv_istore (lv' := [(5, .int 0), (0, .ref (f 0)), (1, .int p0), (2, .int p1), (3, .int p2), (4, .int p3)]) hx hb d_fpoint_140 hl (by decide) rfl (fun ls hl => ?_)
            obtain rfl := Option.some.inj eY5
            exact kont5 _ (lv_sub hl [1, 2, 3, 4, 5, 0] rfl)
          · have eY5 := (if_neg c_3).symm.trans eY5
            refine lv_iload_n hx hb d_fpoint_119 rfl (lv_at hl 1 rfl) ?_
            refine lv_iconst (v := 1) hx hb d_fpoint_120 (by decide) ?_
            refine lv_icmp_ne (tgt := 135) hx hb d_fpoint_121 (by decide) (fun c_4 => ?_) (fun c_4 => ?_)
            · have eY5 := (if_neg c_4).symm.trans eY5
              refine lv_iconst (v := 1) hx hb d_fpoint_135 (by decide) ?_
              refine lv_goto (tgt := 140) hx hb d_fpoint_136 (by decide) ?_
              refine lv_istore (lv' := [(5, .int 1), (0, .ref (f 0)), (1, .int p0), (2, .int p1), (3, .int p2), (4, .int p3)]) hx hb d_fpoint_140 hl (by decide) rfl (fun ls hl => ?_)
              obtain rfl := Option.some.inj eY5
              exact kont5 _ (lv_sub hl [1, 2, 3, 4, 5, 0] rfl)
            · have eY5 := (if_pos c_4).symm.trans eY5
              refine lv_iload hx hb d_fpoint_124 (lv_at hl 4 rfl) ?_
              refine lv_if_eq (tgt := 135) hx hb d_fpoint_126 (by decide) (fun c_5 => ?_) (fun c_5 => ?_)
              · have eY5 := (if_pos c_5).symm.trans eY5
                refine lv_iconst (v := 1) hx hb d_fpoint_135 (by decide) ?_
                refine lv_goto (tgt := 140) hx hb d_fpoint_136 (by decide) ?_
                refine lv_istore (lv' := [(5, .int 1), (0, .ref (f 0)), (1, .int p0), (2, .int p1), (3, .int p2), (4, .int p3)]) hx hb d_fpoint_140 hl (by decide) rfl (fun ls hl => ?_)
                obtain rfl := Option.some.inj eY5
                exact kont5 _ (lv_sub hl [1, 2, 3, 4, 5, 0] rfl)
              · have eY5 := (if_neg c_5).symm.trans eY5
                refine lv_iload hx hb d_fpoint_129 (lv_at hl 4 rfl) ?_
                refine lv_iconst (v := 1) hx hb d_fpoint_131 (by decide) ?_
                refine lv_icmp_ne (tgt := 139) hx hb d_fpoint_132 (by decide) (fun c_6 => ?_) (fun c_6 => ?_)
                · have eY5 := (if_neg c_6).symm.trans eY5
                  refine lv_iconst (v := 0) hx hb d_fpoint_139 (by decide) ?_
                  refine lv_istore (lv' := [(5, .int 0), (0, .ref (f 0)), (1, .int p0), (2, .int p1), (3, .int p2), (4, .int p3)]) hx hb d_fpoint_140 hl (by decide) rfl (fun ls hl => ?_)
                  obtain rfl := Option.some.inj eY5
                  exact kont5 _ (lv_sub hl [1, 2, 3, 4, 5, 0] rfl)
                · have eY5 := (if_pos c_6).symm.trans eY5
                  refine lv_iconst (v := 1) hx hb d_fpoint_135 (by decide) ?_
                  refine lv_goto (tgt := 140) hx hb d_fpoint_136 (by decide) ?_
                  refine lv_istore (lv' := [(5, .int 1), (0, .ref (f 0)), (1, .int p0), (2, .int p1), (3, .int p2), (4, .int p3)]) hx hb d_fpoint_140 hl (by decide) rfl (fun ls hl => ?_)
                  obtain rfl := Option.some.inj eY5
                  exact kont5 _ (lv_sub hl [1, 2, 3, 4, 5, 0] rfl)
        refine lv_iload hx hb d_fpoint_79 (lv_at hl 5 rfl) ?_
        refine lv_if_eq (tgt := 111) hx hb d_fpoint_81 (by decide) (fun c_7 => ?_) (fun c_7 => ?_)
        · have eY4 := (if_pos c_7).symm.trans eY4
          refine lv_iconst (v := 0) hx hb d_fpoint_111 (by decide) ?_
          refine lv_istore (lv' := [(5, .int 0), (0, .ref (f 0)), (1, .int p0), (2, .int p1), (3, .int p2), (4, .int p3)]) hx hb d_fpoint_112 hl (by decide) rfl (fun ls hl => ?_)
          obtain rfl := Option.some.inj eY4
          exact kont4 _ (lv_sub hl [1, 2, 3, 4, 5, 0] rfl)
        · have eY4 := (if_neg c_7).symm.trans eY4
          refine lv_iload_n hx hb d_fpoint_84 rfl (lv_at hl 1 rfl) ?_
          refine lv_iconst (v := 1) hx hb d_fpoint_85 (by decide) ?_
          refine lv_icmp_eq (tgt := 100) hx hb d_fpoint_86 (by decide) (fun c_8 => ?_) (fun c_8 => ?_)
          · have eY4 := (if_pos c_8).symm.trans eY4
            refine lv_iload_n hx hb d_fpoint_100 rfl (lv_at hl 3 rfl) ?_
            obtain ⟨r_9, e_9, eY4⟩ := ld_ob eY4
            refine ld_rd (W.runS (As := [.int p2]) (rest := []) ⟨hx, hb, hml, hown, hg⟩ (lc_fIsPlace l D cI cZ cJ p2 N r_9 e_9) ⟨callB_of 1 hg (ld_gd k_407) rfl rfl rfl (hg _ k_30) (hg _ k_405) hd_fIsPlace ⟨Nat.le_of_ble_eq_true rfl, Nat.le_of_ble_eq_true rfl⟩, hg _ k_406⟩ (ld_preR hP hK hN [] rfl) rfl rfl hl.1 rfl (lv_room (Nat.le_of_ble_eq_true rfl)) d_fpoint_101 ⟨Nat.zero_le _, Nat.zero_le _⟩) ?_
            refine lv_if_eq (tgt := 111) hx hb d_fpoint_104 (by decide) (fun c_10 => ?_) (fun c_10 => ?_)
            · have eY4 := (if_pos c_10).symm.trans eY4
              refine lv_iconst (v := 0) hx hb d_fpoint_111 (by decide) ?_
              refine lv_istore (lv' := [(5, .int 0), (0, .ref (f 0)), (1, .int p0), (2, .int p1), (3, .int p2), (4, .int p3)]) hx hb d_fpoint_112 hl (by decide) rfl (fun ls hl => ?_)
              obtain rfl := Option.some.inj eY4
              exact kont4 _ (lv_sub hl [1, 2, 3, 4, 5, 0] rfl)
            · have eY4 := (if_neg c_10).symm.trans eY4
              refine lv_iconst (v := 1) hx hb d_fpoint_107 (by decide) ?_
              refine lv_goto (tgt := 112) hx hb d_fpoint_108 (by decide) ?_
              refine lv_istore (lv' := [(5, .int 1), (0, .ref (f 0)), (1, .int p0), (2, .int p1), (3, .int p2), (4, .int p3)]) hx hb d_fpoint_112 hl (by decide) rfl (fun ls hl => ?_)
              obtain rfl := Option.some.inj eY4
              exact kont4 _ (lv_sub hl [1, 2, 3, 4, 5, 0] rfl)
          · have eY4 := (if_neg c_8).symm.trans eY4
            refine lv_iload_n hx hb d_fpoint_89 rfl (lv_at hl 1 rfl) ?_
            refine lv_iconst (v := 5) hx hb d_fpoint_90 (by decide) ?_
            refine lv_icmp_eq (tgt := 100) hx hb d_fpoint_91 (by decide) (fun c_11 => ?_) (fun c_11 => ?_)
            · have eY4 := (if_pos c_11).symm.trans eY4
              refine lv_iload_n hx hb d_fpoint_100 rfl (lv_at hl 3 rfl) ?_
              obtain ⟨r_12, e_12, eY4⟩ := ld_ob eY4
              refine ld_rd (W.runS (As := [.int p2]) (rest := []) ⟨hx, hb, hml, hown, hg⟩ (lc_fIsPlace l D cI cZ cJ p2 N r_12 e_12) ⟨callB_of 1 hg (ld_gd k_407) rfl rfl rfl (hg _ k_30) (hg _ k_405) hd_fIsPlace ⟨Nat.le_of_ble_eq_true rfl, Nat.le_of_ble_eq_true rfl⟩, hg _ k_406⟩ (ld_preR hP hK hN [] rfl) rfl rfl hl.1 rfl (lv_room (Nat.le_of_ble_eq_true rfl)) d_fpoint_101 ⟨Nat.zero_le _, Nat.zero_le _⟩) ?_
              refine lv_if_eq (tgt := 111) hx hb d_fpoint_104 (by decide) (fun c_13 => ?_) (fun c_13 => ?_)
              · have eY4 := (if_pos c_13).symm.trans eY4
                refine lv_iconst (v := 0) hx hb d_fpoint_111 (by decide) ?_
                refine lv_istore (lv' := [(5, .int 0), (0, .ref (f 0)), (1, .int p0), (2, .int p1), (3, .int p2), (4, .int p3)]) hx hb d_fpoint_112 hl (by decide) rfl (fun ls hl => ?_)
                obtain rfl := Option.some.inj eY4
                exact kont4 _ (lv_sub hl [1, 2, 3, 4, 5, 0] rfl)
              · have eY4 := (if_neg c_13).symm.trans eY4
                refine lv_iconst (v := 1) hx hb d_fpoint_107 (by decide) ?_
                refine lv_goto (tgt := 112) hx hb d_fpoint_108 (by decide) ?_
                refine lv_istore (lv' := [(5, .int 1), (0, .ref (f 0)), (1, .int p0), (2, .int p1), (3, .int p2), (4, .int p3)]) hx hb d_fpoint_112 hl (by decide) rfl (fun ls hl => ?_)
                obtain rfl := Option.some.inj eY4
                exact kont4 _ (lv_sub hl [1, 2, 3, 4, 5, 0] rfl)
            · have eY4 := (if_neg c_11).symm.trans eY4
              refine lv_iload_n hx hb d_fpoint_94 rfl (lv_at hl 1 rfl) ?_
              refine lv_bipush (v := 6) hx hb d_fpoint_95 (by decide) ?_
              refine lv_icmp_ne (tgt := 107) hx hb d_fpoint_97 (by decide) (fun c_14 => ?_) (fun c_14 => ?_)
              · have eY4 := (if_neg c_14).symm.trans eY4
                refine lv_iconst (v := 1) hx hb d_fpoint_107 (by decide) ?_
                refine lv_goto (tgt := 112) hx hb d_fpoint_108 (by decide) ?_
                refine lv_istore (lv' := [(5, .int 1), (0, .ref (f 0)), (1, .int p0), (2, .int p1), (3, .int p2), (4, .int p3)]) hx hb d_fpoint_112 hl (by decide) rfl (fun ls hl => ?_)
                obtain rfl := Option.some.inj eY4
                exact kont4 _ (lv_sub hl [1, 2, 3, 4, 5, 0] rfl)
              · have eY4 := (if_pos c_14).symm.trans eY4
                refine lv_iload_n hx hb d_fpoint_100 rfl (lv_at hl 3 rfl) ?_
                obtain ⟨r_15, e_15, eY4⟩ := ld_ob eY4
                refine ld_rd (W.runS (As := [.int p2]) (rest := []) ⟨hx, hb, hml, hown, hg⟩ (lc_fIsPlace l D cI cZ cJ p2 N r_15 e_15) ⟨callB_of 1 hg (ld_gd k_407) rfl rfl rfl (hg _ k_30) (hg _ k_405) hd_fIsPlace ⟨Nat.le_of_ble_eq_true rfl, Nat.le_of_ble_eq_true rfl⟩, hg _ k_406⟩ (ld_preR hP hK hN [] rfl) rfl rfl hl.1 rfl (lv_room (Nat.le_of_ble_eq_true rfl)) d_fpoint_101 ⟨Nat.zero_le _, Nat.zero_le _⟩) ?_
                refine lv_if_eq (tgt := 111) hx hb d_fpoint_104 (by decide) (fun c_16 => ?_) (fun c_16 => ?_)
                · have eY4 := (if_pos c_16).symm.trans eY4
                  refine lv_iconst (v := 0) hx hb d_fpoint_111 (by decide) ?_
                  refine lv_istore (lv' := [(5, .int 0), (0, .ref (f 0)), (1, .int p0), (2, .int p1), (3, .int p2), (4, .int p3)]) hx hb d_fpoint_112 hl (by decide) rfl (fun ls hl => ?_)
                  obtain rfl := Option.some.inj eY4
                  exact kont4 _ (lv_sub hl [1, 2, 3, 4, 5, 0] rfl)
                · have eY4 := (if_neg c_16).symm.trans eY4
                  refine lv_iconst (v := 1) hx hb d_fpoint_107 (by decide) ?_
                  refine lv_goto (tgt := 112) hx hb d_fpoint_108 (by decide) ?_
                  refine lv_istore (lv' := [(5, .int 1), (0, .ref (f 0)), (1, .int p0), (2, .int p1), (3, .int p2), (4, .int p3)]) hx hb d_fpoint_112 hl (by decide) rfl (fun ls hl => ?_)
                  obtain rfl := Option.some.inj eY4
                  exact kont4 _ (lv_sub hl [1, 2, 3, 4, 5, 0] rfl)
      refine lv_iload hx hb d_fpoint_55 (lv_at hl 5 rfl) ?_
      refine lv_if_eq (tgt := 76) hx hb d_fpoint_57 (by decide) (fun c_17 => ?_) (fun c_17 => ?_)
      · have eY3 := (if_pos c_17).symm.trans eY3
        refine lv_iconst (v := 0) hx hb d_fpoint_76 (by decide) ?_
        refine lv_istore (lv' := [(5, .int 0), (0, .ref (f 0)), (1, .int p0), (2, .int p1), (3, .int p2), (4, .int p3)]) hx hb d_fpoint_77 hl (by decide) rfl (fun ls hl => ?_)
        obtain rfl := Option.some.inj eY3
        exact kont3 _ (lv_sub hl [1, 2, 3, 4, 5, 0] rfl)
      · have eY3 := (if_neg c_17).symm.trans eY3
        refine lv_iload_n hx hb d_fpoint_60 rfl (lv_at hl 1 rfl) ?_
        refine lv_iconst (v := 2) hx hb d_fpoint_61 (by decide) ?_
        refine lv_icmp_ne (tgt := 72) hx hb d_fpoint_62 (by decide) (fun c_18 => ?_) (fun c_18 => ?_)
        · have eY3 := (if_neg c_18).symm.trans eY3
          refine lv_iconst (v := 1) hx hb d_fpoint_72 (by decide) ?_
          refine lv_goto (tgt := 77) hx hb d_fpoint_73 (by decide) ?_
          refine lv_istore (lv' := [(5, .int 1), (0, .ref (f 0)), (1, .int p0), (2, .int p1), (3, .int p2), (4, .int p3)]) hx hb d_fpoint_77 hl (by decide) rfl (fun ls hl => ?_)
          obtain rfl := Option.some.inj eY3
          exact kont3 _ (lv_sub hl [1, 2, 3, 4, 5, 0] rfl)
        · have eY3 := (if_pos c_18).symm.trans eY3
          refine lv_iload_n hx hb d_fpoint_65 rfl (lv_at hl 3 rfl) ?_
          obtain ⟨r_19, e_19, eY3⟩ := ld_nm eY3
          refine ld_rd (W.runS (As := [.int p2]) (rest := []) ⟨hx, hb, hml, hown, hg⟩ (lc_fIsRef l D cI cZ cJ p2 r_19 e_19) ⟨callB_of 1 hg (ld_gd k_404) rfl rfl rfl (hg _ k_30) (hg _ k_402) hd_fIsRef ⟨Nat.le_of_ble_eq_true rfl, Nat.le_of_ble_eq_true rfl⟩, hg _ k_403⟩ (ld_preR hP hK hN [] rfl) rfl rfl hl.1 rfl (lv_room (Nat.le_of_ble_eq_true rfl)) d_fpoint_66 ⟨Nat.zero_le _, Nat.zero_le _⟩) ?_
          refine lv_if_eq (tgt := 76) hx hb d_fpoint_69 (by decide) (fun c_20 => ?_) (fun c_20 => ?_)
          · have eY3 := (if_pos c_20).symm.trans eY3
            refine lv_iconst (v := 0) hx hb d_fpoint_76 (by decide) ?_
            refine lv_istore (lv' := [(5, .int 0), (0, .ref (f 0)), (1, .int p0), (2, .int p1), (3, .int p2), (4, .int p3)]) hx hb d_fpoint_77 hl (by decide) rfl (fun ls hl => ?_)
            obtain rfl := Option.some.inj eY3
            exact kont3 _ (lv_sub hl [1, 2, 3, 4, 5, 0] rfl)
          · have eY3 := (if_neg c_20).symm.trans eY3
            refine lv_iconst (v := 1) hx hb d_fpoint_72 (by decide) ?_
            refine lv_goto (tgt := 77) hx hb d_fpoint_73 (by decide) ?_
            refine lv_istore (lv' := [(5, .int 1), (0, .ref (f 0)), (1, .int p0), (2, .int p1), (3, .int p2), (4, .int p3)]) hx hb d_fpoint_77 hl (by decide) rfl (fun ls hl => ?_)
            obtain rfl := Option.some.inj eY3
            exact kont3 _ (lv_sub hl [1, 2, 3, 4, 5, 0] rfl)
    refine lv_iload hx hb d_fpoint_26 (lv_at hl 5 rfl) ?_
    refine lv_if_eq (tgt := 52) hx hb d_fpoint_28 (by decide) (fun c_21 => ?_) (fun c_21 => ?_)
    · have eY2 := (if_pos c_21).symm.trans eY2
      refine lv_iconst (v := 0) hx hb d_fpoint_52 (by decide) ?_
      refine lv_istore (lv' := [(5, .int 0), (0, .ref (f 0)), (1, .int p0), (2, .int p1), (3, .int p2), (4, .int p3)]) hx hb d_fpoint_53 hl (by decide) rfl (fun ls hl => ?_)
      obtain rfl := Option.some.inj eY2
      exact kont2 _ (lv_sub hl [1, 2, 3, 4, 5, 0] rfl)
    · have eY2 := (if_neg c_21).symm.trans eY2
      refine lv_iload_n hx hb d_fpoint_31 rfl (lv_at hl 1 rfl) ?_
      refine lv_iconst (v := 1) hx hb d_fpoint_32 (by decide) ?_
      refine lv_icmp_lt (tgt := 48) hx hb d_fpoint_33 (by decide) (fun c_22 => ?_) (fun c_22 => ?_)
      · have eY2 := (if_pos c_22).symm.trans eY2
        refine lv_iconst (v := 1) hx hb d_fpoint_48 (by decide) ?_
        refine lv_goto (tgt := 53) hx hb d_fpoint_49 (by decide) ?_
        refine lv_istore (lv' := [(5, .int 1), (0, .ref (f 0)), (1, .int p0), (2, .int p1), (3, .int p2), (4, .int p3)]) hx hb d_fpoint_53 hl (by decide) rfl (fun ls hl => ?_)
        obtain rfl := Option.some.inj eY2
        exact kont2 _ (lv_sub hl [1, 2, 3, 4, 5, 0] rfl)
      · have eY2 := (if_neg c_22).symm.trans eY2
        refine lv_iload_n hx hb d_fpoint_36 rfl (lv_at hl 1 rfl) ?_
        refine lv_iconst (v := 4) hx hb d_fpoint_37 (by decide) ?_
        refine lv_icmp_gt (tgt := 48) hx hb d_fpoint_38 (by decide) (fun c_23 => ?_) (fun c_23 => ?_)
        · have eY2 := (if_pos c_23).symm.trans eY2
          refine lv_iconst (v := 1) hx hb d_fpoint_48 (by decide) ?_
          refine lv_goto (tgt := 53) hx hb d_fpoint_49 (by decide) ?_
          refine lv_istore (lv' := [(5, .int 1), (0, .ref (f 0)), (1, .int p0), (2, .int p1), (3, .int p2), (4, .int p3)]) hx hb d_fpoint_53 hl (by decide) rfl (fun ls hl => ?_)
          obtain rfl := Option.some.inj eY2
          exact kont2 _ (lv_sub hl [1, 2, 3, 4, 5, 0] rfl)
        · have eY2 := (if_neg c_23).symm.trans eY2
          refine lv_iload_n hx hb d_fpoint_41 rfl (lv_at hl 2 rfl) ?_
          obtain ⟨r_24, e_24, eY2⟩ := ld_nm eY2
          refine ld_rd (W.runS (As := [.int p1]) (rest := []) ⟨hx, hb, hml, hown, hg⟩ (lc_fIsRef l D cI cZ cJ p1 r_24 e_24) ⟨callB_of 1 hg (ld_gd k_404) rfl rfl rfl (hg _ k_30) (hg _ k_402) hd_fIsRef ⟨Nat.le_of_ble_eq_true rfl, Nat.le_of_ble_eq_true rfl⟩, hg _ k_403⟩ (ld_preR hP hK hN [] rfl) rfl rfl hl.1 rfl (lv_room (Nat.le_of_ble_eq_true rfl)) d_fpoint_42 ⟨Nat.zero_le _, Nat.zero_le _⟩) ?_
          refine lv_if_eq (tgt := 52) hx hb d_fpoint_45 (by decide) (fun c_25 => ?_) (fun c_25 => ?_)
          · have eY2 := (if_pos c_25).symm.trans eY2
            refine lv_iconst (v := 0) hx hb d_fpoint_52 (by decide) ?_
            refine lv_istore (lv' := [(5, .int 0), (0, .ref (f 0)), (1, .int p0), (2, .int p1), (3, .int p2), (4, .int p3)]) hx hb d_fpoint_53 hl (by decide) rfl (fun ls hl => ?_)
            obtain rfl := Option.some.inj eY2
            exact kont2 _ (lv_sub hl [1, 2, 3, 4, 5, 0] rfl)
          · have eY2 := (if_neg c_25).symm.trans eY2
            refine lv_iconst (v := 1) hx hb d_fpoint_48 (by decide) ?_
            refine lv_goto (tgt := 53) hx hb d_fpoint_49 (by decide) ?_
            refine lv_istore (lv' := [(5, .int 1), (0, .ref (f 0)), (1, .int p0), (2, .int p1), (3, .int p2), (4, .int p3)]) hx hb d_fpoint_53 hl (by decide) rfl (fun ls hl => ?_)
            obtain rfl := Option.some.inj eY2
            exact kont2 _ (lv_sub hl [1, 2, 3, 4, 5, 0] rfl)
  refine lv_iload_n hx hb d_fpoint_0 rfl (lv_at hl 1 rfl) ?_
  refine lv_if_lt (tgt := 23) hx hb d_fpoint_1 (by decide) (fun c_26 => ?_) (fun c_26 => ?_)
  · have eY1 := (if_pos c_26).symm.trans eY1
    refine lv_iconst (v := 0) hx hb d_fpoint_23 (by decide) ?_
    refine lv_istore (lv' := [(5, .int 0), (0, .ref (f 0)), (1, .int p0), (2, .int p1), (3, .int p2), (4, .int p3)]) hx hb d_fpoint_24 hl (by decide) rfl (fun ls hl => ?_)
    obtain rfl := Option.some.inj eY1
    exact kont1 _ (lv_sub hl [1, 2, 3, 4, 5, 0] rfl)
  · have eY1 := (if_neg c_26).symm.trans eY1
    refine lv_iload_n hx hb d_fpoint_4 rfl (lv_at hl 1 rfl) ?_
    refine lv_bipush (v := 6) hx hb d_fpoint_5 (by decide) ?_
    refine lv_icmp_gt (tgt := 23) hx hb d_fpoint_7 (by decide) (fun c_27 => ?_) (fun c_27 => ?_)
    · have eY1 := (if_pos c_27).symm.trans eY1
      refine lv_iconst (v := 0) hx hb d_fpoint_23 (by decide) ?_
      refine lv_istore (lv' := [(5, .int 0), (0, .ref (f 0)), (1, .int p0), (2, .int p1), (3, .int p2), (4, .int p3)]) hx hb d_fpoint_24 hl (by decide) rfl (fun ls hl => ?_)
      obtain rfl := Option.some.inj eY1
      exact kont1 _ (lv_sub hl [1, 2, 3, 4, 5, 0] rfl)
    · have eY1 := (if_neg c_27).symm.trans eY1
      refine lv_aload_n hx hb d_fpoint_10 rfl (lv_at hl 0 rfl) ?_
      refine va_get (D := D) (ci := 7) (v := .int fo.1) (C := "LoanDeskModel") (T := T_Ref) (N := 14) hx hb hg u_Ref hown hK hP 0 rfl rfl 0 (by decide) (hg _ k_370) (fun _ h9 => h9) rfl d_fpoint_11 ?_
      refine lv_bipush (v := 120) hx hb d_fpoint_14 (by decide) ?_
      refine lv_icmp_ge (tgt := 23) hx hb d_fpoint_16 (by decide) (fun c_28 => ?_) (fun c_28 => ?_)
      · have eY1 := (if_pos c_28).symm.trans eY1
        refine lv_iconst (v := 0) hx hb d_fpoint_23 (by decide) ?_
        refine lv_istore (lv' := [(5, .int 0), (0, .ref (f 0)), (1, .int p0), (2, .int p1), (3, .int p2), (4, .int p3)]) hx hb d_fpoint_24 hl (by decide) rfl (fun ls hl => ?_)
        obtain rfl := Option.some.inj eY1
        exact kont1 _ (lv_sub hl [1, 2, 3, 4, 5, 0] rfl)
      · have eY1 := (if_neg c_28).symm.trans eY1
        refine lv_iconst (v := 1) hx hb d_fpoint_19 (by decide) ?_
        refine lv_goto (tgt := 24) hx hb d_fpoint_20 (by decide) ?_
        refine lv_istore (lv' := [(5, .int 1), (0, .ref (f 0)), (1, .int p0), (2, .int p1), (3, .int p2), (4, .int p3)]) hx hb d_fpoint_24 hl (by decide) rfl (fun ls hl => ?_)
        obtain rfl := Option.some.inj eY1
        exact kont1 _ (lv_sub hl [1, 2, 3, 4, 5, 0] rfl)
def lm_fnext (N : Nat) (fo : Int32 × Int32 × Int32) (fb : ld_bT) (p0 : Int32) (p1 : Int32) (p2 : Int32) : Option (Int32 × (Int32 × Int32 × Int32) × ld_bT) := if p0 < 0 then some (0, fo, fb) else if fo.1 ≤ p0 then some (0, fo, fb) else if p1 < ld_n1 then some (0, fo, fb) else if 120 ≤ p1 then some (0, fo, fb) else if p2 < ld_n1 then some (0, fo, fb) else if p2 < 120 then if ld_in p0 120 = true then (some (1, (fo.1, 0, fo.2.2), (fb.1, fb.2.1, fb.2.2.1, fb.2.2.2.1, upd fb.2.2.2.2.1 p0.toNatClampNeg p1, upd fb.2.2.2.2.2 p0.toNatClampNeg p2))) else none else some (0, fo, fb)
set_option maxHeartbeats 4000000 in
set_option maxRecDepth 100000 in
theorem lc_fnext (l : Launch) (D : va_G) (cI cZ cJ : ClassId) (f : Nat → Nat) (fo : Int32 × Int32 × Int32) (fb : ld_bT) (p0 : Int32) (p1 : Int32) (p2 : Int32) (sz : Nat) (N : Nat) (R : Int32 × (Int32 × Int32 × Int32) × ld_bT) (h : lm_fnext N fo fb p0 p1 p2 = some R) : Met l y_fnext (Cond.code y_fnext prog_9_method_5_code 4 (some .boolean) :: bgT) ({ frames := 0, cells := 0, slots := 0, locals := 0 }) (ld_PM D cI cZ cJ (ld_oW f fo ++ ld_bW f cI fb) sz [.ref (f 0), .int p0, .int p1, .int p2]) (ld_QI D (ld_oW f R.2.1 ++ ld_bW f cI R.2.2) (va_A (ld_oW f fo ++ ld_bW f cI fb) sz) R.1) 0 0 ((va_A (ld_oW f fo ++ ld_bW f cI fb) sz)) := by
  refine Met.ofW (cc := prog_9_method_5_code) (maxL := 4) (ret := (some .boolean)) (by decide) rfl ?_
  intro p e s m args below meth c s₁ B hml hv
  obtain ⟨rfl, hsz, hP, hK, hD0, hN⟩ := hv
  have hx := B.exec
  have hb := B.bytes
  have hr := B.returns
  have hg : ∀ w ∈ bgT, w.before _ s = true := fun w h => atoms_spec (ws := (Cond.code y_fnext prog_9_method_5_code 4 (some .boolean) :: bgT)) B.pre w (List.mem_cons_of_mem _ h)
  have hown : s.vm.findClass "LoanDeskModel" = some m.cls := findClass_of_methodNamed B.named
  have hlocks := B.notSynchronized
  subst hsz
  have hD := hD0.self (sz := s.heap.size)
  generalize hAe : va_A (ld_oW f fo ++ ld_bW f cI fb) s.heap.size = A at hD ⊢
  have hA : ∀ q : Nat, s.heap.size ≤ q → A q := fun q h => by rw [← hAe]; exact Or.inr h
  have hS : va_S A s.heap s.heap [] := va_S.rf
  have hl := lv_entry ([.ref (f 0), .int p0, .int p1, .int p2]) (n := 4) (Nat.le_of_ble_eq_true rfl)
  rw [lg_entry_eq]
  generalize (lg_sl ([.ref (f 0), .int p0, .int p1, .int p2]) ++ List.replicate (4 - (lg_sl ([.ref (f 0), .int p0, .int p1, .int p2])).length) Slot.unset).toArray = ls at hl ⊢
  have hl : lv_has ls 4 [(0, .ref (f 0)), (1, .int p0), (2, .int p1), (3, .int p2)] := hl
  refine lv_iload_n hx hb d_fnext_0 rfl (lv_at hl 1 rfl) ?_
  refine lv_if_lt (tgt := 34) hx hb d_fnext_1 (by decide) (fun c_1 => ?_) (fun c_1 => ?_)
  · have h := (if_pos c_1).symm.trans h
    refine lv_iconst (v := 0) hx hb d_fnext_34 (by decide) ?_
    have h := Option.some.inj h
    subst h
    exact W.zret (v := 0) hx hb hr rfl (fun t ht hW => ⟨⟨_, (), rfl, rfl, by rw [ht]; exact hP, hD⟩, hS.F ht⟩) hS.2.2 d_fnext_35
  · have h := (if_neg c_1).symm.trans h
    refine lv_iload_n hx hb d_fnext_4 rfl (lv_at hl 1 rfl) ?_
    refine lv_aload_n hx hb d_fnext_5 rfl (lv_at hl 0 rfl) ?_
    refine va_get (D := D) (ci := 7) (v := .int fo.1) (C := "LoanDeskModel") (T := T_Ref) (N := 14) hx hb hg u_Ref hown hK hP 0 rfl rfl 0 (by decide) (hg _ k_370) (fun _ h9 => h9) rfl d_fnext_6 ?_
    refine lv_icmp_ge (tgt := 34) hx hb d_fnext_9 (by decide) (fun c_2 => ?_) (fun c_2 => ?_)
    · have h := (if_pos c_2).symm.trans h
      refine lv_iconst (v := 0) hx hb d_fnext_34 (by decide) ?_
      have h := Option.some.inj h
      subst h
      exact W.zret (v := 0) hx hb hr rfl (fun t ht hW => ⟨⟨_, (), rfl, rfl, by rw [ht]; exact hP, hD⟩, hS.F ht⟩) hS.2.2 d_fnext_35
    · have h := (if_neg c_2).symm.trans h
      refine lv_iload_n hx hb d_fnext_12 rfl (lv_at hl 2 rfl) ?_
      refine lv_iconst (v := ld_n1) hx hb d_fnext_13 (by decide) ?_
      refine lv_icmp_lt (tgt := 34) hx hb d_fnext_14 (by decide) (fun c_3 => ?_) (fun c_3 => ?_)
      · have h := (if_pos c_3).symm.trans h
        refine lv_iconst (v := 0) hx hb d_fnext_34 (by decide) ?_
        have h := Option.some.inj h
        subst h
        exact W.zret (v := 0) hx hb hr rfl (fun t ht hW => ⟨⟨_, (), rfl, rfl, by rw [ht]; exact hP, hD⟩, hS.F ht⟩) hS.2.2 d_fnext_35
      · have h := (if_neg c_3).symm.trans h
        refine lv_iload_n hx hb d_fnext_17 rfl (lv_at hl 2 rfl) ?_
        refine lv_bipush (v := 120) hx hb d_fnext_18 (by decide) ?_
        refine lv_icmp_ge (tgt := 34) hx hb d_fnext_20 (by decide) (fun c_4 => ?_) (fun c_4 => ?_)
        · have h := (if_pos c_4).symm.trans h
          refine lv_iconst (v := 0) hx hb d_fnext_34 (by decide) ?_
          have h := Option.some.inj h
          subst h
          exact W.zret (v := 0) hx hb hr rfl (fun t ht hW => ⟨⟨_, (), rfl, rfl, by rw [ht]; exact hP, hD⟩, hS.F ht⟩) hS.2.2 d_fnext_35
        · have h := (if_neg c_4).symm.trans h
          refine lv_iload_n hx hb d_fnext_23 rfl (lv_at hl 3 rfl) ?_
          refine lv_iconst (v := ld_n1) hx hb d_fnext_24 (by decide) ?_
          refine lv_icmp_lt (tgt := 34) hx hb d_fnext_25 (by decide) (fun c_5 => ?_) (fun c_5 => ?_)
          · have h := (if_pos c_5).symm.trans h
            refine lv_iconst (v := 0) hx hb d_fnext_34 (by decide) ?_
            have h := Option.some.inj h
            subst h
            exact W.zret (v := 0) hx hb hr rfl (fun t ht hW => ⟨⟨_, (), rfl, rfl, by rw [ht]; exact hP, hD⟩, hS.F ht⟩) hS.2.2 d_fnext_35
          · have h := (if_neg c_5).symm.trans h
            refine lv_iload_n hx hb d_fnext_28 rfl (lv_at hl 3 rfl) ?_
            refine lv_bipush (v := 120) hx hb d_fnext_29 (by decide) ?_
            refine lv_icmp_lt (tgt := 36) hx hb d_fnext_31 (by decide) (fun c_6 => ?_) (fun c_6 => ?_)
            · have h := (if_pos c_6).symm.trans h
              refine lv_aload_n hx hb d_fnext_36 rfl (lv_at hl 0 rfl) ?_
              refine va_get (D := D) (ci := 7) (v := .ref (f 5)) (C := "LoanDeskModel") (T := T_Ref) (N := 14) hx hb hg u_Ref hown hK hP 0 rfl rfl 5 (by decide) (hg _ k_375) (fun _ h9 => h9) rfl d_fnext_37 ?_
              refine lv_iload_n hx hb d_fnext_40 rfl (lv_at hl 1 rfl) ?_
              refine lv_iload_n hx hb d_fnext_41 rfl (lv_at hl 2 rfl) ?_
              obtain ⟨i_7, h⟩ := ld_grd h
              refine va_iast hx hb hK hP hD hS 5 0 rfl rfl (i := p0) i_7 d_fnext_42 (fun H locs hP hD hS => ?_)
              have hP : va_P D vwCl (ld_oW f fo ++ ld_bW f cI (fb.1, fb.2.1, fb.2.2.1, fb.2.2.2.1, upd fb.2.2.2.2.1 p0.toNatClampNeg p1, fb.2.2.2.2.2)) H := hP
              have hD : va_D A (ld_oW f fo ++ ld_bW f cI (fb.1, fb.2.1, fb.2.2.1, fb.2.2.2.1, upd fb.2.2.2.2.1 p0.toNatClampNeg p1, fb.2.2.2.2.2)) := hD
              refine lv_aload_n hx hb d_fnext_43 rfl (lv_at hl 0 rfl) ?_
              refine va_get (D := D) (ci := 7) (v := .ref (f 6)) (C := "LoanDeskModel") (T := T_Ref) (N := 14) hx hb hg u_Ref hown hK hP 0 rfl rfl 6 (by decide) (hg _ k_376) (fun _ h9 => h9) rfl d_fnext_44 ?_
              refine lv_iload_n hx hb d_fnext_47 rfl (lv_at hl 1 rfl) ?_
              refine lv_iload_n hx hb d_fnext_48 rfl (lv_at hl 3 rfl) ?_
              refine va_iast hx hb hK hP hD hS 6 0 rfl rfl (i := p0) i_7 d_fnext_49 (fun H locs hP hD hS => ?_)
              have hP : va_P D vwCl (ld_oW f fo ++ ld_bW f cI (fb.1, fb.2.1, fb.2.2.1, fb.2.2.2.1, upd fb.2.2.2.2.1 p0.toNatClampNeg p1, upd fb.2.2.2.2.2 p0.toNatClampNeg p2)) H := hP
              have hD : va_D A (ld_oW f fo ++ ld_bW f cI (fb.1, fb.2.1, fb.2.2.1, fb.2.2.2.1, upd fb.2.2.2.2.1 p0.toNatClampNeg p1, upd fb.2.2.2.2.2 p0.toNatClampNeg p2)) := hD
              refine lv_aload_n hx hb d_fnext_50 rfl (lv_at hl 0 rfl) ?_
              refine lv_iconst (v := 0) hx hb d_fnext_51 (by decide) ?_
              refine va_put (D := D) (ci := 7) (v := .int 0) (ty := .boolean) (C := "LoanDeskModel") (T := T_Ref) (N := 14) hx hb hg u_Ref t_Ref tk_Ref n_Ref hown hK hP hD hS 0 rfl rfl 7 (by decide) (hg _ k_377) (fun _ h9 => h9) rfl (by decide +kernel) rfl rfl (Nat.le_of_ble_eq_true rfl) d_fnext_52 (fun H locs hP hD hS => ?_)
              have hP : va_P D vwCl (ld_oW f (fo.1, 0, fo.2.2) ++ ld_bW f cI (fb.1, fb.2.1, fb.2.2.1, fb.2.2.2.1, upd fb.2.2.2.2.1 p0.toNatClampNeg p1, upd fb.2.2.2.2.2 p0.toNatClampNeg p2)) H := hP
              have hD : va_D A (ld_oW f (fo.1, 0, fo.2.2) ++ ld_bW f cI (fb.1, fb.2.1, fb.2.2.1, fb.2.2.2.1, upd fb.2.2.2.2.1 p0.toNatClampNeg p1, upd fb.2.2.2.2.2 p0.toNatClampNeg p2)) := hD
              refine lv_iconst (v := 1) hx hb d_fnext_55 (by decide) ?_
              have h := Option.some.inj h
              subst h
              exact W.zret (v := 1) hx hb hr rfl (fun t ht hW => ⟨⟨_, (), rfl, rfl, by rw [ht]; exact hP, hD⟩, hS.F ht⟩) hS.2.2 d_fnext_56
            · have h := (if_neg c_6).symm.trans h
              refine lv_iconst (v := 0) hx hb d_fnext_34 (by decide) ?_
              have h := Option.some.inj h
              subst h
              exact W.zret (v := 0) hx hb hr rfl (fun t ht hW => ⟨⟨_, (), rfl, rfl, by rw [ht]; exact hP, hD⟩, hS.F ht⟩) hS.2.2 d_fnext_35
def lf_fclear (fo : Int32 × Int32 × Int32) : Int32 × (Int32 × Int32 × Int32) := (fo.1, (0, 0, fo.2.2))
set_option maxHeartbeats 4000000 in
set_option maxRecDepth 100000 in
theorem lc_fclear (l : Launch) (D : va_G) (cI cZ cJ : ClassId) (f : Nat → Nat) (fo : Int32 × Int32 × Int32) (sz : Nat) (R : Int32 × (Int32 × Int32 × Int32)) (h : lf_fclear fo = R) : Met l y_fclear (Cond.code y_fclear prog_9_method_23_code 2 (some .int) :: bgT) ({ frames := 0, cells := 0, slots := 0, locals := 0 }) (ld_PM D cI cZ cJ (ld_oW f fo) sz [.ref (f 0)]) (ld_QI D (ld_oW f R.2) (va_A (ld_oW f fo) sz) R.1) 0 0 ((va_A (ld_oW f fo) sz)) := by
  refine Met.ofW (cc := prog_9_method_23_code) (maxL := 2) (ret := (some .int)) (by decide) rfl ?_
  intro p e s m args below meth c s₁ B hml hv
  obtain ⟨rfl, hsz, hP, hK, hD0, hN⟩ := hv
  have hx := B.exec
  have hb := B.bytes
  have hr := B.returns
  have hg : ∀ w ∈ bgT, w.before _ s = true := fun w h => atoms_spec (ws := (Cond.code y_fclear prog_9_method_23_code 2 (some .int) :: bgT)) B.pre w (List.mem_cons_of_mem _ h)
  have hown : s.vm.findClass "LoanDeskModel" = some m.cls := findClass_of_methodNamed B.named
  have hlocks := B.notSynchronized
  subst hsz
  have hD := hD0.self (sz := s.heap.size)
  generalize hAe : va_A (ld_oW f fo) s.heap.size = A at hD ⊢
  have hA : ∀ q : Nat, s.heap.size ≤ q → A q := fun q h => by rw [← hAe]; exact Or.inr h
  have hS : va_S A s.heap s.heap [] := va_S.rf
  have hl := lv_entry ([.ref (f 0)]) (n := 2) (Nat.le_of_ble_eq_true rfl)
  rw [lg_entry_eq]
  generalize (lg_sl ([.ref (f 0)]) ++ List.replicate (2 - (lg_sl ([.ref (f 0)])).length) Slot.unset).toArray = ls at hl ⊢
  have hl : lv_has ls 2 [(0, .ref (f 0))] := hl
  refine lv_aload_n hx hb d_fclear_0 rfl (lv_at hl 0 rfl) ?_
  refine va_get (D := D) (ci := 7) (v := .int fo.1) (C := "LoanDeskModel") (T := T_Ref) (N := 14) hx hb hg u_Ref hown hK hP 0 rfl rfl 0 (by decide) (hg _ k_370) (fun _ h9 => h9) rfl d_fclear_1 ?_
  refine lv_istore_n (lv' := [(1, .int fo.1), (0, .ref (f 0))]) hx hb d_fclear_4 rfl hl (by decide) rfl (fun ls hl => ?_)
  refine lv_aload_n hx hb d_fclear_5 rfl (lv_at hl 1 rfl) ?_
  refine lv_iconst (v := 0) hx hb d_fclear_6 (by decide) ?_
  refine va_put (D := D) (ci := 7) (v := .int 0) (ty := .int) (C := "LoanDeskModel") (T := T_Ref) (N := 14) hx hb hg u_Ref t_Ref tk_Ref n_Ref hown hK hP hD hS 0 rfl rfl 0 (by decide) (hg _ k_370) (fun _ h9 => h9) rfl (by decide +kernel) rfl rfl (Nat.le_of_ble_eq_true rfl) d_fclear_7 (fun H locs hP hD hS => ?_)
  have hP : va_P D vwCl (ld_oW f (0, fo.2.1, fo.2.2)) H := hP
  have hD : va_D A (ld_oW f (0, fo.2.1, fo.2.2)) := hD
  refine lv_aload_n hx hb d_fclear_10 rfl (lv_at hl 1 rfl) ?_
  refine lv_iconst (v := 0) hx hb d_fclear_11 (by decide) ?_
  refine va_put (D := D) (ci := 7) (v := .int 0) (ty := .boolean) (C := "LoanDeskModel") (T := T_Ref) (N := 14) hx hb hg u_Ref t_Ref tk_Ref n_Ref hown hK hP hD hS 0 rfl rfl 7 (by decide) (hg _ k_377) (fun _ h9 => h9) rfl (by decide +kernel) rfl rfl (Nat.le_of_ble_eq_true rfl) d_fclear_12 (fun H locs hP hD hS => ?_)
  have hP : va_P D vwCl (ld_oW f (0, 0, fo.2.2)) H := hP
  have hD : va_D A (ld_oW f (0, 0, fo.2.2)) := hD
  refine lv_iload_n hx hb d_fclear_15 rfl (lv_at hl 0 rfl) ?_
  subst h
  exact W.iret (v := fo.1) hx hb hr (fun t ht hW => ⟨⟨_, (), rfl, rfl, by rw [ht]; exact hP, hD⟩, hS.F ht⟩) hS.2.2 d_fclear_16
