set_option maxHeartbeats 4000000 in
set_option maxRecDepth 100000 in
theorem lw_case7 {p : Program} {l : Launch} {e : Env} {s : State} {m : MethodId} {below : List Frame} {meth : Method} {c : Code} {D : va_G} {cI cZ cJ : ClassId} {a f : Nat → Nat} {b L i : Nat} {xs : Nat → Int32} {ls : Array Slot} (hL : L ≤ 2560) (C0 : lw_At p s m meth c b L xs) (hK : ld_K D cI cZ cJ s) (hN : ld_nw s) (hi : i + 5 ≤ L) (hl : lv_has ls 4 [(0, .ref b), (1, .ref (a 0)), (2, .ref (f 0)), (3, .int (nI i))])
    (kk : ∀ (H : Heap) (locs : List Loc), lw_Inv D cI cZ cJ a f s H locs → W p l e room_1 s m #[Value.ref b] below meth c H locs 35 21161 (lw_Z below #[Value.ref b] s) (F0 m 361 ls [])) {H : Heap} {locs : List Loc} (hI : lw_Inv D cI cZ cJ a f s H locs) : W p l e room_1 s m #[Value.ref b] below meth c H locs 35 21161 (lw_Z below #[Value.ref b] s) (F0 m 325 ls []) := by
  obtain ⟨hx, hb, hr, hml, hown, hts, hX, hbl, hlocks, hgv⟩ := C0
  have hown : s.vm.findClass "LoanDeskLaw" = some m.cls := hown
  have hg : ∀ w ∈ bgT, w.before #[Value.ref b] s = true := fun w h => hts w (bg_in w h)
  have hA : ∀ q : Nat, s.heap.size ≤ q → (fun q : Nat => s.heap.size ≤ q) q := fun _ h => h
  have hbA : ¬ (fun q : Nat => s.heap.size ≤ q) b := Nat.not_le.mpr hbl
  obtain ⟨M, dk, G, rc, q, u, hh, qq, mw, fo, fb, fe, fs, hC, hF, hP, hD, hS⟩ := hI
  have h_1 : vp_in (nI i + 1) L := lw_in (j := 1) hi hL (by omega)
  obtain ⟨r, dk', rc', q', u', hh', qq', mw', fo', fe', fs', h1, h2, hC', hF'⟩ := ld_acount hh hC hF fs (xs (nI i + 1).toNatClampNeg) (N := 5000) (by omega)
  refine lv_aload_n hx hb d_law_325 rfl (lv_at hl 1 rfl) ?_
  refine lv_aload_n hx hb d_law_326 rfl (lv_at hl 0 rfl) ?_
  refine lv_iload_n hx hb d_law_327 rfl (lv_at hl 3 rfl) ?_
  refine lv_iconst (v := 1) hx hb d_law_328 (by decide) ?_
  refine lv_iadd hx hb d_law_329 ?_
  refine va_sld (i := nI i + 1) hx hb hX hbl hbA hS h_1 d_law_330 ?_
  refine ld_miB (r := r) (ws2 := ld_dW a dk' ++ ld_gW a cI G ++ ld_rW a cI rc' ++ ld_pW (a 10) (a 11) (a 12) cI cZ q' ++ ld_uW a cI u' ++ ld_hW a cI hh' ++ ld_pW (a 18) (a 19) (a 20) cI cZ qq' ++ ld_mW a cJ mw' ++ ld_oW f fo ++ ld_bW f cI fb ++ ld_eW f cI cZ fe ++ ld_sW f cI cZ fs) (wc' := ld_dW a dk' ++ ld_gW a cI G ++ ld_rW a cI rc' ++ ld_pW (a 10) (a 11) (a 12) cI cZ q' ++ ld_uW a cI u' ++ ld_hW a cI hh' ++ ld_pW (a 18) (a 19) (a 20) cI cZ qq' ++ ld_mW a cJ mw') ([]) (ld_oW f fo ++ ld_bW f cI fb ++ ld_eW f cI cZ fe ++ ld_sW f cI cZ fs) (by simp only [List.append_assoc, List.nil_append, List.append_nil]) (by simp only [List.append_assoc, List.nil_append, List.append_nil]) (va_runV (As := [.int (xs (nI i + 1).toNatClampNeg)]) (rest := []) ⟨hx, hb, hml, hown, hg⟩ (lc_count l D cI cZ cJ a dk G rc q u hh qq mw (xs (nI i + 1).toNatClampNeg) _ 5000 (r, dk', rc', q', u', hh', qq', mw') h1) ⟨callB_of 1 hg (ld_gd k_336) rfl rfl rfl (hg _ k_23) (hg _ k_333) hd_count ⟨Nat.le_of_ble_eq_true rfl, Nat.le_of_ble_eq_true rfl⟩, hg _ k_334, hg _ k_335⟩ (ld_preB hP hK hN hD ([]) (ld_oW f fo ++ ld_bW f cI fb ++ ld_eW f cI cZ fe ++ ld_sW f cI cZ fs) (by simp only [List.append_assoc, List.nil_append, List.append_nil]) 6 0 rfl rfl) rfl rfl hl.1 rfl (lv_room (Nat.le_of_ble_eq_true rfl)) d_law_331 lw_rm) hP hD hS hA (fun H locs hP hD hS => ?_)
  refine W.widen (k := 35) (n := 21161) (Nat.le_refl 35) (Nat.le_refl 21161) ?_
  refine lv_aload_n hx hb d_law_334 rfl (lv_at hl 2 rfl) ?_
  refine lv_aload_n hx hb d_law_335 rfl (lv_at hl 0 rfl) ?_
  refine lv_iload_n hx hb d_law_336 rfl (lv_at hl 3 rfl) ?_
  refine lv_iconst (v := 1) hx hb d_law_337 (by decide) ?_
  refine lv_iadd hx hb d_law_338 ?_
  refine va_sld (i := nI i + 1) hx hb hX hbl hbA hS h_1 d_law_339 ?_
  refine ld_miB (r := r) (ws2 := ld_dW a dk' ++ ld_gW a cI G ++ ld_rW a cI rc' ++ ld_pW (a 10) (a 11) (a 12) cI cZ q' ++ ld_uW a cI u' ++ ld_hW a cI hh' ++ ld_pW (a 18) (a 19) (a 20) cI cZ qq' ++ ld_mW a cJ mw' ++ ld_oW f fo' ++ ld_bW f cI fb ++ ld_eW f cI cZ fe' ++ ld_sW f cI cZ fs') (wc' := ld_oW f fo' ++ ld_bW f cI fb ++ ld_eW f cI cZ fe' ++ ld_sW f cI cZ fs') (ld_dW a dk' ++ ld_gW a cI G ++ ld_rW a cI rc' ++ ld_pW (a 10) (a 11) (a 12) cI cZ q' ++ ld_uW a cI u' ++ ld_hW a cI hh' ++ ld_pW (a 18) (a 19) (a 20) cI cZ qq' ++ ld_mW a cJ mw') ([]) (by simp only [List.append_assoc, List.nil_append, List.append_nil]) (by simp only [List.append_assoc, List.nil_append, List.append_nil]) (va_runV (As := [.int (xs (nI i + 1).toNatClampNeg)]) (rest := [.int r]) ⟨hx, hb, hml, hown, hg⟩ (lc_fcount l D cI cZ cJ f fo fb fe fs (xs (nI i + 1).toNatClampNeg) _ 5000 (r, fo', fe', fs') h2) ⟨callB_of 1 hg (ld_gd k_472) rfl rfl rfl (hg _ k_30) (hg _ k_469) hd_fcount ⟨Nat.le_of_ble_eq_true rfl, Nat.le_of_ble_eq_true rfl⟩, hg _ k_470, hg _ k_471⟩ (ld_preB hP hK hN hD (ld_dW a dk' ++ ld_gW a cI G ++ ld_rW a cI rc' ++ ld_pW (a 10) (a 11) (a 12) cI cZ q' ++ ld_uW a cI u' ++ ld_hW a cI hh' ++ ld_pW (a 18) (a 19) (a 20) cI cZ qq' ++ ld_mW a cJ mw') ([]) (by simp only [List.append_assoc, List.nil_append, List.append_nil]) 7 0 rfl rfl) rfl rfl hl.1 rfl (lv_room (Nat.le_of_ble_eq_true rfl)) d_law_340 lw_rm) hP hD hS hA (fun H locs hP hD hS => ?_)
  refine W.widen (k := 35) (n := 21161) (Nat.le_refl 35) (Nat.le_refl 21161) ?_
  exact lv_icmp_eq (tgt := 361) hx hb d_law_343 (by decide) (fun _ => kk H locs ⟨M, dk', G, rc', q', u', hh', qq', mw', fo', fb, fe', fs', hC', hF', hP, hD, hS⟩) (fun c_1 => absurd rfl c_1)
