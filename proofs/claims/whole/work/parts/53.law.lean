theorem lw_five {L : Nat} (hL : L ≤ 2560) : (Int32.ofNat L - 5).toInt = (L : Int) - 5 := by
  have h5 : (5 : Int32).toInt = 5 := by decide
  have hn : (Int32.ofNat L).toInt = (L : Int) := nI_toInt (by omega)
  rw [Int32.toInt_sub, hn, h5]
  exact Int.bmod_eq_of_le (by omega) (by omega)
set_option maxHeartbeats 4000000 in
set_option maxRecDepth 100000 in
theorem law_loop {p : Program} {l : Launch} {e : Env} {s : State} {m : MethodId} {below : List Frame} {meth : Method} {c : Code} {D : va_G} {cI cZ cJ : ClassId} {a f : Nat → Nat} {b L : Nat} {xs : Nat → Int32} (hL : L ≤ 2560) (C0 : lw_At p s m meth c b L xs) (hK : ld_K D cI cZ cJ s) (hN : ld_nw s) :
    ∀ (n i : Nat), i ≤ L + 5 → L + 6 ≤ i + n → ∀ (H : Heap) (locs : List Loc), lw_Inv D cI cZ cJ a f s H locs → ∀ (ls : Array Slot), lv_has ls 4 [(0, .ref b), (1, .ref (a 0)), (2, .ref (f 0)), (3, .int (nI i))] → W p l e room_1 s m #[Value.ref b] below meth c H locs 35 21161 (lw_Z below #[Value.ref b] s) (F0 m 18 ls []) := by
  obtain ⟨hx, hb, hr, hml, hown, hts, hX, hbl, hlocks, hgv⟩ := id C0
  have hbA : ¬ (fun q : Nat => s.heap.size ≤ q) b := Nat.not_le.mpr hbl
  intro n
  induction n with
  | zero =>
    intro i h1 h2
    exact absurd h2 (by omega)
  | succ n ih =>
    intro i h1 h2 H locs hI ls hl
    have hS := id hI
    obtain ⟨-, -, -, -, -, -, -, -, -, -, -, -, -, -, -, -, -, hS⟩ := hS
    refine lv_iload_n hx hb d_law_18 rfl (lv_at hl 3 rfl) ?_
    refine lv_aload_n hx hb d_law_19 rfl (lv_at hl 0 rfl) ?_
    refine va_slen hx hb hX hbl hbA hS d_law_20 ?_
    refine lv_iconst (v := 5) hx hb d_law_21 (by decide) ?_
    refine lv_isub hx hb d_law_22 ?_
    refine lv_icmp_gt (tgt := 367) hx hb d_law_23 (by decide) (fun c_1 => ?_) (fun c_1 => ?_)
    · refine lv_iconst (v := 1) hx hb d_law_367 (by decide) ?_
      refine va_forget (fun q hq => hS.2.2 q hq) ?_
      exact lw_ret hx hb hr hlocks d_law_368
    · have hi : i + 5 ≤ L := by
        rw [Int32.lt_iff_toInt_lt, lw_five hL, nI_toInt (by omega)] at c_1
        omega
      have h_0 : vp_in (nI i) L := vp_in_nI (by omega) (by omega)
      have hk : ∀ (H : Heap) (locs : List Loc), lw_Inv D cI cZ cJ a f s H locs → W p l e room_1 s m #[Value.ref b] below meth c H locs 35 21161 (lw_Z below #[Value.ref b] s) (F0 m 361 ls []) := by
        intro H locs hI
        refine lv_iinc (v := nI (i + 5)) (lv' := [(3, .int (nI (i + 5))), (0, .ref b), (1, .ref (a 0)), (2, .ref (f 0))]) hx hb d_law_361 hl (k := 3) rfl (Int32.ofNat_add i 5).symm (by decide) rfl (fun ls hl => ?_)
        refine lv_goto (tgt := 18) hx hb d_law_364 (by decide) ?_
        exact ih (i + 5) (by omega) (by omega) H locs hI ls (lv_sub hl [1, 2, 3, 0] rfl)
      refine lv_aload_n hx hb d_law_26 rfl (lv_at hl 0 rfl) ?_
      refine lv_iload_n hx hb d_law_27 rfl (lv_at hl 3 rfl) ?_
      refine va_sld hx hb hX hbl hbA hS h_0 d_law_28 ?_
      refine lv_bipush (v := 15) hx hb d_law_29 (by decide) ?_
      refine lv_iand hx hb d_law_31 ?_
      refine lv_topi (fun y ey => ?_)
      clear ey
      by_cases c0 : y = 0
      · refine lv_tableIn (off := 52) (tgt := 84) hx hb d_law_32 (by rw [c0]; decide) (by rw [c0]; decide) (by rw [c0]; decide) (by decide) ?_
        exact lw_case0 hL C0 hK hN hi hl hk hI
      by_cases c1 : y = 1
      · refine lv_tableIn (off := 105) (tgt := 137) hx hb d_law_32 (by rw [c1]; decide) (by rw [c1]; decide) (by rw [c1]; decide) (by decide) ?_
        exact lw_case1 hL C0 hK hN hi hl hk hI
      by_cases c2 : y = 2
      · refine lv_tableIn (off := 148) (tgt := 180) hx hb d_law_32 (by rw [c2]; decide) (by rw [c2]; decide) (by rw [c2]; decide) (by decide) ?_
        exact lw_case2 hL C0 hK hN hi hl hk hI
      by_cases c3 : y = 3
      · refine lv_tableIn (off := 171) (tgt := 203) hx hb d_law_32 (by rw [c3]; decide) (by rw [c3]; decide) (by rw [c3]; decide) (by decide) ?_
        exact lw_case3 hL C0 hK hN hi hl hk hI
      by_cases c4 : y = 4
      · refine lv_tableIn (off := 204) (tgt := 236) hx hb d_law_32 (by rw [c4]; decide) (by rw [c4]; decide) (by rw [c4]; decide) (by decide) ?_
        exact lw_case4 hL C0 hK hN hi hl hk hI
      by_cases c5 : y = 5
      · refine lv_tableIn (off := 227) (tgt := 259) hx hb d_law_32 (by rw [c5]; decide) (by rw [c5]; decide) (by rw [c5]; decide) (by decide) ?_
        exact lw_case5 hL C0 hK hN hi hl hk hI
      by_cases c6 : y = 6
      · refine lv_tableIn (off := 260) (tgt := 292) hx hb d_law_32 (by rw [c6]; decide) (by rw [c6]; decide) (by rw [c6]; decide) (by decide) ?_
        exact lw_case6 hL C0 hK hN hi hl hk hI
      by_cases c7 : y = 7
      · refine lv_tableIn (off := 293) (tgt := 325) hx hb d_law_32 (by rw [c7]; decide) (by rw [c7]; decide) (by rw [c7]; decide) (by decide) ?_
        exact lw_case7 hL C0 hK hN hi hl hk hI
      by_cases c8 : y = 8
      · refine lv_tableIn (off := 316) (tgt := 348) hx hb d_law_32 (by rw [c8]; decide) (by rw [c8]; decide) (by rw [c8]; decide) (by decide) ?_
        exact lw_case8 hL C0 hK hN hi hl hk hI
      have n0 := lv_neT (a := 0) c0 (by decide)
      have n1 := lv_neT (a := 1) c1 (by decide)
      have n2 := lv_neT (a := 2) c2 (by decide)
      have n3 := lv_neT (a := 3) c3 (by decide)
      have n4 := lv_neT (a := 4) c4 (by decide)
      have n5 := lv_neT (a := 5) c5 (by decide)
      have n6 := lv_neT (a := 6) c6 (by decide)
      have n7 := lv_neT (a := 7) c7 (by decide)
      have n8 := lv_neT (a := 8) c8 (by decide)
      exact lv_tableOut (tgt := 361) hx hb d_law_32 (by omega) (by decide) (hk H locs hI)
set_option maxRecDepth 100000 in
theorem lw_nest : ∀ q ∈ ld_nwT, ld_nwc q ∈ lw_tbl := List.forall_mem_cons.mpr ⟨List.mem_of_getElem? (i := 43) rfl, List.forall_mem_cons.mpr ⟨List.mem_of_getElem? (i := 72) rfl, List.forall_mem_cons.mpr ⟨List.mem_of_getElem? (i := 78) rfl, List.forall_mem_cons.mpr ⟨List.mem_of_getElem? (i := 102) rfl, List.forall_mem_cons.mpr ⟨List.mem_of_getElem? (i := 112) rfl, List.forall_mem_cons.mpr ⟨List.mem_of_getElem? (i := 117) rfl, List.forall_mem_cons.mpr ⟨List.mem_of_getElem? (i := 130) rfl, List.forall_mem_cons.mpr ⟨List.mem_of_getElem? (i := 230) rfl, List.forall_mem_cons.mpr ⟨List.mem_of_getElem? (i := 235) rfl, List.forall_mem_cons.mpr ⟨List.mem_of_getElem? (i := 274) rfl, List.forall_mem_cons.mpr ⟨List.mem_of_getElem? (i := 300) rfl, List.forall_mem_cons.mpr ⟨List.mem_of_getElem? (i := 378) rfl, List.forall_mem_nil _⟩⟩⟩⟩⟩⟩⟩⟩⟩⟩⟩⟩
theorem lw_ar {ty : FieldType} {args : Array Value} {s : State} (h : (Cond.arrayClass ty).before args s = true) : ∃ cA : ClassId, ArrOfT s cA ty ∧ s.vm.findClass ("[" ++ ty.toString) = some cA := by
  obtain ⟨cA, kA, comp, h1, h2, h3⟩ := Cond.arrayClass_spec h
  exact ⟨cA, fun n z => ⟨fun k h => (by cases h), kA, h2, comp, h3⟩, h1⟩
set_option maxHeartbeats 4000000 in
set_option maxRecDepth 100000 in
/-- YOUR PART: from the entry, for every script of at most 2560 ints, the law comes to its end with true -/
theorem whole_start {p : Program} {e : Env} {s : State} {m : MethodId} {below : List Frame} {meth : Method} {c : Code} (l : Launch) {b L : Nat} {xs : Nat → Int32} (hL : L ≤ 2560) (C0 : lw_At p s m meth c b L xs) : W p l e room_1 s m #[Value.ref b] below meth c s.heap [] 0 0 (lw_Z below #[Value.ref b] s) (entryFrame m ([Value.ref b] : List Value).toArray 4) := by
  obtain ⟨hx, hb, hr, hml, hown, hts, hX, hbl, hlocks, hgv⟩ := id C0
  have hg : ∀ w ∈ bgT, w.before #[Value.ref b] s = true := fun w h => hts w (bg_in w h)
  have hA : ∀ q : Nat, s.heap.size ≤ q → (fun q : Nat => s.heap.size ≤ q) q := fun _ h => h
  have hbA : ¬ (fun q : Nat => s.heap.size ≤ q) b := Nat.not_le.mpr hbl
  obtain ⟨c0, i0, hKn0⟩ := u_known (C := "LoanDesk$Graph") (T := T_Graph) (N := 7) (n := 7) hg u_Graph (hg _ k_42)
  obtain ⟨c1, i1, hKn1⟩ := u_known (C := "LoanDesk$Pile") (T := T_Pile) (N := 3) (n := 3) hg u_Pile (hg _ k_67)
  obtain ⟨c2, i2, hKn2⟩ := u_known (C := "LoanDesk$Reach") (T := T_Reach) (N := 2) (n := 2) hg u_Reach (hg _ k_62)
  obtain ⟨c3, i3, hKn3⟩ := u_known (C := "LoanDesk$Uses") (T := T_Uses) (N := 1) (n := 1) hg u_Uses (hg _ k_83)
  obtain ⟨c4, i4, hKn4⟩ := u_known (C := "LoanDesk$Holding") (T := T_Holding) (N := 3) (n := 3) hg u_Holding (hg _ k_90)
  obtain ⟨c5, i5, hKn5⟩ := u_known (C := "LoanDesk$Meetings") (T := T_Meetings) (N := 1) (n := 1) hg u_Meetings (hg _ k_102)
  obtain ⟨c6, i6, hKn6⟩ := u_known (C := "LoanDesk") (T := T_Desk) (N := 7) (n := 7) hg u_Desk (hg _ k_34)
  obtain ⟨c7, i7, hKn7⟩ := u_known (C := "LoanDeskModel") (T := T_Ref) (N := 14) (n := 14) hg u_Ref (hg _ k_365)
  obtain ⟨D, hKc⟩ : ∃ (D : va_G), ∀ (k : Nat) (q : vw_C), vwCl[k]? = some q → u_Kn s q.1 q.2.1 q.2.2 (D.1 k) (D.2 k) := by
    refine ⟨(fun k => if k = 0 then c0 else if k = 1 then c1 else if k = 2 then c2 else if k = 3 then c3 else if k = 4 then c4 else if k = 5 then c5 else if k = 6 then c6 else c7, fun k => if k = 0 then i0 else if k = 1 then i1 else if k = 2 then i2 else if k = 3 then i3 else if k = 4 then i4 else if k = 5 then i5 else if k = 6 then i6 else i7), ?_⟩
    intro k q hq
    match k, hq with
    | 0, hq => cases hq; exact hKn0
    | 1, hq => cases hq; exact hKn1
    | 2, hq => cases hq; exact hKn2
    | 3, hq => cases hq; exact hKn3
    | 4, hq => cases hq; exact hKn4
    | 5, hq => cases hq; exact hKn5
    | 6, hq => cases hq; exact hKn6
    | 7, hq => cases hq; exact hKn7
    | k + 8, hq => simp [vwCl] at hq
  obtain ⟨cI, aI, fI⟩ := lw_ar (hg _ k_60)
  obtain ⟨cZ, aZ, fZ⟩ := lw_ar (hg _ k_77)
  obtain ⟨cJ, aJ, fJ⟩ := lw_ar (hg _ k_108)
  have hK : ld_K D cI cZ cJ s := ⟨hKc, fun k q h => by
    match k, h with
    | 0, h => cases h; exact ⟨aI, fI⟩
    | 1, h => cases h; exact ⟨aZ, fZ⟩
    | 2, h => cases h; exact ⟨aJ, fJ⟩
    | k + 3, h => simp at h⟩
  have hN : ld_nw s := fun q hq => va_Nw.of rfl (hts _ (lw_nest q hq))
  have hS : va_S (fun q : Nat => s.heap.size ≤ q) s.heap s.heap [] := va_S.rf
  have hP : va_P D vwCl [] s.heap := fun k q h => by simp at h
  have hD : va_D (fun q : Nat => s.heap.size ≤ q) [] := ⟨fun i j p q h => by simp at h, fun k q h => by simp at h⟩
  have hl := lv_entry ([.ref b]) (n := 4) (Nat.le_of_ble_eq_true rfl)
  rw [lg_entry_eq]
  generalize (lg_sl ([.ref b]) ++ List.replicate (4 - (lg_sl ([.ref b])).length) Slot.unset).toArray = ls at hl ⊢
  have hl : lv_has ls 4 [(0, .ref b)] := hl
  refine va_new (ci := 6) (fs := [.null, .null, .null, .null, .null, .int 0, .int 0]) (C := "LoanDesk") (T := T_Desk) (N := 7) hx hb hg u_Desk t_Desk tk_Desk hown (hg _ k_33) (hg _ k_34) (hg _ k_23) hK hP hD hS hA rfl (fun j hj => by rcases (show j = 0 ∨ j = 1 ∨ j = 2 ∨ j = 3 ∨ j = 4 ∨ j = 5 ∨ j = 6 by omega) with rfl | rfl | rfl | rfl | rfl | rfl | rfl <;> rfl) lw_rm1.1 lw_rm1.2 d_law_0 (fun q1 H hP hD hS => ?_)
  have hP : va_P D vwCl [(q1, .inr (6, [.null, .null, .null, .null, .null, .int 0, .int 0]))] H := hP
  have hD : va_D (fun q : Nat => s.heap.size ≤ q) [(q1, .inr (6, [.null, .null, .null, .null, .null, .int 0, .int 0]))] := hD
  refine W.widen (k := 1) (n := 7) (by omega) (by omega) ?_
  refine lv_dup hx hb d_law_3 rfl ?_
  refine ld_ct (wr := []) (va_runI (As := []) (rest := [.ref q1]) ⟨hx, hb, hml, hown, hg⟩ (lc_iD l D cI cZ cJ q1 _) ⟨callB_of 0 hg (ld_gd k_37) rfl rfl rfl (hg _ k_23) (hg _ k_35) hd_iD ⟨Nat.le_of_ble_eq_true rfl, Nat.le_of_ble_eq_true rfl⟩, rfl, hg _ k_36⟩ (ld_preM hP hK hN hD [0] (by decide) rfl) rfl rfl hl.1 rfl (lv_room (Nat.le_of_ble_eq_true rfl)) d_law_4 lw_rmD) hP hD hS hA [0] [] rfl rfl (by decide) (by decide) (fun a H locs ha hP7 hD7 hS7 => ?_)
  obtain rfl := ha
  have hS := hS7
  have hP : va_P D vwCl (ld_dW a (0, 0) ++ ld_gW a cI ((fun _ => 0), (fun _ => 0), (fun _ => 0), (fun _ => 0), (fun _ => 0), (fun _ => 0), 0) ++ ld_rW a cI (fun _ => 0) ++ ld_pW (a 10) (a 11) (a 12) cI cZ ((fun _ => 0), (fun _ => 0), 0) ++ ld_uW a cI (fun _ => 0) ++ ld_hW a cI ((fun _ => 0), (fun _ => 0)) ++ ld_pW (a 18) (a 19) (a 20) cI cZ ((fun _ => 0), (fun _ => 0), 0) ++ ld_mW a cJ (fun _ => 0)) H := hP7
  have hD : va_D (fun q : Nat => s.heap.size ≤ q) (ld_dW a (0, 0) ++ ld_gW a cI ((fun _ => 0), (fun _ => 0), (fun _ => 0), (fun _ => 0), (fun _ => 0), (fun _ => 0), 0) ++ ld_rW a cI (fun _ => 0) ++ ld_pW (a 10) (a 11) (a 12) cI cZ ((fun _ => 0), (fun _ => 0), 0) ++ ld_uW a cI (fun _ => 0) ++ ld_hW a cI ((fun _ => 0), (fun _ => 0)) ++ ld_pW (a 18) (a 19) (a 20) cI cZ ((fun _ => 0), (fun _ => 0), 0) ++ ld_mW a cJ (fun _ => 0)) := hD7
  clear hP7 hD7 hS7
  refine W.widen (k := 23) (n := 1947) (by omega) (by omega) ?_
  refine lv_astore_n (lv' := [(1, .ref (a 0)), (0, .ref b)]) hx hb d_law_7 rfl hl (by decide) rfl (fun ls hl => ?_)
  refine va_new (ci := 7) (fs := [.int 0, .null, .null, .null, .null, .null, .null, .int 0, .null, .null, .null, .null, .null, .int 0]) (C := "LoanDeskModel") (T := T_Ref) (N := 14) hx hb hg u_Ref t_Ref tk_Ref hown (hg _ k_364) (hg _ k_365) (hg _ k_30) hK hP hD hS hA rfl (fun j hj => by rcases (show j = 0 ∨ j = 1 ∨ j = 2 ∨ j = 3 ∨ j = 4 ∨ j = 5 ∨ j = 6 ∨ j = 7 ∨ j = 8 ∨ j = 9 ∨ j = 10 ∨ j = 11 ∨ j = 12 ∨ j = 13 by omega) with rfl | rfl | rfl | rfl | rfl | rfl | rfl | rfl | rfl | rfl | rfl | rfl | rfl | rfl <;> rfl) lw_rm2.1 lw_rm2.2 d_law_8 (fun q2 H hP hD hS => ?_)
  refine W.widen (k := 24) (n := 1961) (by omega) (by omega) ?_
  refine lv_dup hx hb d_law_11 rfl ?_
  refine ld_ct (wr := ld_dW a (0, 0) ++ ld_gW a cI ((fun _ => 0), (fun _ => 0), (fun _ => 0), (fun _ => 0), (fun _ => 0), (fun _ => 0), 0) ++ ld_rW a cI (fun _ => 0) ++ ld_pW (a 10) (a 11) (a 12) cI cZ ((fun _ => 0), (fun _ => 0), 0) ++ ld_uW a cI (fun _ => 0) ++ ld_hW a cI ((fun _ => 0), (fun _ => 0)) ++ ld_pW (a 18) (a 19) (a 20) cI cZ ((fun _ => 0), (fun _ => 0), 0) ++ ld_mW a cJ (fun _ => 0)) (va_runI (As := []) (rest := [.ref q2]) ⟨hx, hb, hml, hown, hg⟩ (lc_iF l D cI cZ cJ q2 _) ⟨callB_of 0 hg (ld_gd k_368) rfl rfl rfl (hg _ k_30) (hg _ k_366) hd_iF ⟨Nat.le_of_ble_eq_true rfl, Nat.le_of_ble_eq_true rfl⟩, rfl, hg _ k_367⟩ (ld_preM hP hK hN hD [23] (by decide) rfl) rfl rfl hl.1 rfl (lv_room (Nat.le_of_ble_eq_true rfl)) d_law_12 lw_rmF) hP hD hS hA [23] [0, 1, 2, 3, 4, 5, 6, 7, 8, 9, 10, 11, 12, 13, 14, 15, 16, 17, 18, 19, 20, 21, 22] rfl rfl (by decide) (by decide) (fun f H locs hf hP7 hD7 hS7 => ?_)
  obtain rfl := hf
  have hS := hS7
  have hP := ld_subP (ws' := ld_dW a (0, 0) ++ ld_gW a cI ((fun _ => 0), (fun _ => 0), (fun _ => 0), (fun _ => 0), (fun _ => 0), (fun _ => 0), 0) ++ ld_rW a cI (fun _ => 0) ++ ld_pW (a 10) (a 11) (a 12) cI cZ ((fun _ => 0), (fun _ => 0), 0) ++ ld_uW a cI (fun _ => 0) ++ ld_hW a cI ((fun _ => 0), (fun _ => 0)) ++ ld_pW (a 18) (a 19) (a 20) cI cZ ((fun _ => 0), (fun _ => 0), 0) ++ ld_mW a cJ (fun _ => 0) ++ ld_oW f (0, 0, 0) ++ ld_bW f cI ((fun _ => 0), (fun _ => 0), (fun _ => 0), (fun _ => 0), (fun _ => 0), (fun _ => 0)) ++ ld_eW f cI cZ ((fun _ => 0), (fun _ => 0), (fun _ => 0)) ++ ld_sW f cI cZ ((fun _ => 0), (fun _ => 0))) hP7 [0, 1, 2, 3, 4, 5, 6, 7, 8, 9, 10, 11, 12, 13, 14, 15, 16, 17, 18, 19, 20, 21, 22, 23, 24, 25, 26, 27, 28, 29, 30, 31, 32, 33, 34] rfl
  have hD := hD7.sub (ws' := ld_dW a (0, 0) ++ ld_gW a cI ((fun _ => 0), (fun _ => 0), (fun _ => 0), (fun _ => 0), (fun _ => 0), (fun _ => 0), 0) ++ ld_rW a cI (fun _ => 0) ++ ld_pW (a 10) (a 11) (a 12) cI cZ ((fun _ => 0), (fun _ => 0), 0) ++ ld_uW a cI (fun _ => 0) ++ ld_hW a cI ((fun _ => 0), (fun _ => 0)) ++ ld_pW (a 18) (a 19) (a 20) cI cZ ((fun _ => 0), (fun _ => 0), 0) ++ ld_mW a cJ (fun _ => 0) ++ ld_oW f (0, 0, 0) ++ ld_bW f cI ((fun _ => 0), (fun _ => 0), (fun _ => 0), (fun _ => 0), (fun _ => 0), (fun _ => 0)) ++ ld_eW f cI cZ ((fun _ => 0), (fun _ => 0), (fun _ => 0)) ++ ld_sW f cI cZ ((fun _ => 0), (fun _ => 0))) [0, 1, 2, 3, 4, 5, 6, 7, 8, 9, 10, 11, 12, 13, 14, 15, 16, 17, 18, 19, 20, 21, 22, 23, 24, 25, 26, 27, 28, 29, 30, 31, 32, 33, 34] (by decide) rfl
  clear hP7 hD7 hS7
  refine W.widen (k := 35) (n := 21161) (by omega) (by omega) ?_
  refine lv_astore_n (lv' := [(2, .ref (f 0)), (1, .ref (a 0)), (0, .ref b)]) hx hb d_law_15 rfl hl (by decide) rfl (fun ls hl => ?_)
  refine lv_iconst (v := 0) hx hb d_law_16 (by decide) ?_
  refine lv_istore_n (lv' := [(3, .int 0), (2, .ref (f 0)), (1, .ref (a 0)), (0, .ref b)]) hx hb d_law_17 rfl hl (by decide) rfl (fun ls hl => ?_)
  have hpk : ld_pk ((fun _ => 0), (fun _ => 0), 0) 0 := ld_pk0
  exact law_loop hL C0 hK hN (L + 6) 0 (by omega) (by omega) H locs ⟨ld_M0, (0, 0), ((fun _ => 0), (fun _ => 0), (fun _ => 0), (fun _ => 0), (fun _ => 0), (fun _ => 0), 0), (fun _ => 0), ((fun _ => 0), (fun _ => 0), 0), (fun _ => 0), ((fun _ => 0), (fun _ => 0)), ((fun _ => 0), (fun _ => 0), 0), (fun _ => 0), (0, 0, 0), ((fun _ => 0), (fun _ => 0), (fun _ => 0), (fun _ => 0), (fun _ => 0), (fun _ => 0)), ((fun _ => 0), (fun _ => 0), (fun _ => 0)), ((fun _ => 0), (fun _ => 0)), ⟨ld_rel_0 _ rfl, hpk, hpk, fun h => absurd rfl h, fun h => absurd rfl h⟩, ⟨ld_rel_0 _ rfl, fun h => absurd rfl h⟩, hP, hD, hS⟩ ls (lv_sub hl [3, 2, 1, 0] rfl)
