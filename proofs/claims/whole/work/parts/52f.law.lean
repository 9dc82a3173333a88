set_option maxHeartbeats 4000000 in
set_option maxRecDepth 100000 in
theorem lw_case5 {p : Program} {l : Launch} {e : Env} {s : State} {m : MethodId} {below : List Frame} {meth : Method} {c : Code} {D : va_G} {cI cZ cJ : ClassId} {a f : Nat → Nat} {b L i : Nat} {xs : Nat → Int32} {ls : Array Slot} (hL : L ≤ 2560) (C0 : lw_At p s m meth c b L xs) (hK : ld_K D cI cZ cJ s) (hN : ld_nw s) (hi : i + 5 ≤ L) (hl : lv_has ls 4 [(0, .ref b), (1, .ref (a 0)), (2, .ref (f 0)), (3, .int (nI i))])
    (kk : ∀ (H : Heap) (locs : List Loc), lw_Inv D cI cZ cJ a f s H locs → W p l e room_1 s m #[Value.ref b] below meth c H locs 35 21161 (lw_Z below #[Value.ref b] s) (F0 m 361 ls [])) {H : Heap} {locs : List Loc} (hI : lw_Inv D cI cZ cJ a f s H locs) : W p l e room_1 s m #[Value.ref b] below meth c H locs 35 21161 (lw_Z below #[Value.ref b] s) (F0 m 259 ls []) := by
  obtain ⟨hx, hb, hr, hml, hown, hts, hX, hbl, hlocks, hgv⟩ := C0
  have hown : s.vm.findClass "LoanDeskLaw" = some m.cls := hown
  have hg : ∀ w ∈ bgT, w.before #[Value.ref b] s = true := fun w h => hts w (bg_in w h)
  have hA : ∀ q : Nat, s.heap.size ≤ q → (fun q : Nat => s.heap.size ≤ q) q := fun _ h => h
  have hbA : ¬ (fun q : Nat => s.heap.size ≤ q) b := Nat.not_le.mpr hbl
  obtain ⟨M, dk, G, rc, q, u, hh, qq, mw, fo, fb, fe, fs, hC, hF, hP, hD, hS⟩ := hI
  have h_1 : vp_in (nI i + 1) L := lw_in (j := 1) hi hL (by omega)
  have h_2 : vp_in (nI i + 2) L := lw_in (j := 2) hi hL (by omega)
  obtain ⟨r, dk', rc', q', u', hh', qq', fo', fe', fs', h1, h2, hC', hF'⟩ := ld_aalive hh hC hF fs (xs (nI i + 1).toNatClampNeg) (xs (nI i + 2).toNatClampNeg) (N := 5000) (by omega)
  refine lv_aload_n hx hb d_law_259 rfl (lv_at hl 1 rfl) ?_
  refine lv_aload_n hx hb d_law_260 rfl (lv_at hl 0 rfl) ?_
  refine lv_iload_n hx hb d_law_261 rfl (lv_at hl 3 rfl) ?_
  refine lv_iconst (v := 1) hx hb d_law_262 (by decide) ?_
  refine lv_iadd hx hb d_law_263 ?_
  refine va_sld (i := nI i + 1) hx hb hX hbl hbA hS h_1 d_law_264 ?_
  refine lv_aload_n hx hb d_law_265 rfl (lv_at hl 0 rfl) ?_
  refine lv_iload_n hx hb d_law_266 rfl (lv_at hl 3 rfl) ?_
  refine lv_iconst (v := 2) hx hb d_law_267 (by decide) ?_
  refine lv_iadd hx hb d_law_268 ?_
  refine va_sld (i := nI i + 2) hx hb hX hbl hbA hS h_2 d_law_269 ?_
  refine ld_miB (r := r) (ws2 := ld_dW a dk' ++ ld_gW a cI G ++ ld_rW a cI rc' ++ ld_pW (a 10) (a 11) (a 12) cI cZ q' ++ ld_uW a cI u' ++ ld_hW a cI hh' ++ ld_pW (a 18) (a 19) (a 20) cI cZ qq' ++ ld_mW a cJ mw ++ ld_oW f fo ++ ld_bW f cI fb ++ ld_eW f cI cZ fe ++ ld_sW f cI cZ fs) (wc' := ld_dW a dk' ++ ld_gW a cI G ++ ld_rW a cI rc' ++ ld_pW (a 10) (a 11) (a 12) cI cZ q' ++ ld_uW a cI u' ++ ld_hW a cI hh' ++ ld_pW (a 18) (a 19) (a 20) cI cZ qq') ([]) (ld_mW a cJ mw ++ ld_oW f fo ++ ld_bW f cI fb ++ ld_eW f cI cZ fe ++ ld_sW f cI cZ fs) (by simp only [List.append_assoc, List.nil_append, List.append_nil]) (by simp only [List.append_assoc, List.nil_append, List.append_nil]) (va_runV (As := [.int (xs (nI i + 1).toNatClampNeg), .int (xs (nI i + 2).toNatClampNeg)]) (rest := []) ⟨hx, hb, hml, hown, hg⟩ (lc_isAlive l D cI cZ cJ a dk G rc q u hh qq (xs (nI i + 1).toNatClampNeg) (xs (nI i + 2).toNatClampNeg) _ 5000 (r, dk', rc', q', u', hh', qq') h1) ⟨callB_of 2 hg (ld_gd k_279) rfl rfl rfl (hg _ k_23) (hg _ k_276) hd_isAlive ⟨Nat.le_of_ble_eq_true rfl, Nat.le_of_ble_eq_true rfl⟩, hg _ k_277, hg _ k_278⟩ (ld_preB hP hK hN hD ([]) (ld_mW a cJ mw ++ ld_oW f fo ++ ld_bW f cI fb ++ ld_eW f cI cZ fe ++ ld_sW f cI cZ fs) (by simp only [List.append_assoc, List.nil_append, List.append_nil]) 6 0 rfl rfl) rfl rfl hl.1 rfl (lv_room (Nat.le_of_ble_eq_true rfl)) d_law_270 lw_rm) hP hD hS hA (fun H locs hP hD hS => ?_)
  refine W.widen (k := 35) (n := 21161) (Nat.le_refl 35) (Nat.le_refl 21161) ?_
  refine lv_aload_n hx hb d_law_273 rfl (lv_at hl 2 rfl) ?_
  refine lv_aload_n hx hb d_law_274 rfl (lv_at hl 0 rfl) ?_
  refine lv_iload_n hx hb d_law_275 rfl (lv_at hl 3 rfl) ?_
  refine lv_iconst (v := 1) hx hb d_law_276 (by decide) ?_
  refine lv_iadd hx hb d_law_277 ?_
  refine va_sld (i := nI i + 1) hx hb hX hbl hbA hS h_1 d_law_278 ?_
  refine lv_aload_n hx hb d_law_279 rfl (lv_at hl 0 rfl) ?_
  refine lv_iload_n hx hb d_law_280 rfl (lv_at hl 3 rfl) ?_
  refine lv_iconst (v := 2) hx hb d_law_281 (by decide) ?_
  refine lv_iadd hx hb d_law_282 ?_
  refine va_sld (i := nI i + 2) hx hb hX hbl hbA hS h_2 d_law_283 ?_
  refine ld_miB (r := r) (ws2 := ld_dW a dk' ++ ld_gW a cI G ++ ld_rW a cI rc' ++ ld_pW (a 10) (a 11) (a 12) cI cZ q' ++ ld_uW a cI u' ++ ld_hW a cI hh' ++ ld_pW (a 18) (a 19) (a 20) cI cZ qq' ++ ld_mW a cJ mw ++ ld_oW f fo' ++ ld_bW f cI fb ++ ld_eW f cI cZ fe' ++ ld_sW f cI cZ fs') (wc' := ld_oW f fo' ++ ld_bW f cI fb ++ ld_eW f cI cZ fe' ++ ld_sW f cI cZ fs') (ld_dW a dk' ++ ld_gW a cI G ++ ld_rW a cI rc' ++ ld_pW (a 10) (a 11) (a 12) cI cZ q' ++ ld_uW a cI u' ++ ld_hW a cI hh' ++ ld_pW (a 18) (a 19) (a 20) cI cZ qq' ++ ld_mW a cJ mw) ([]) (by simp only [List.append_assoc, List.nil_append, List.append_nil]) (by simp only [List.append_assoc, List.nil_append, List.append_nil]) (va_runV (As := [.int (xs (nI i + 1).toNatClampNeg), .int (xs (nI i + 2).toNatClampNeg)]) (rest := [.int r]) ⟨hx, hb, hml, hown, hg⟩ (lc_fIsAlive l D cI cZ cJ f fo fb fe fs (xs (nI i + 1).toNatClampNeg) (xs (nI i + 2).toNatClampNeg) _ 5000 (r, fo', fe', fs') h2) ⟨callB_of 2 hg (ld_gd k_454) rfl rfl rfl (hg _ k_30) (hg _ k_451) hd_fIsAlive ⟨Nat.le_of_ble_eq_true rfl, Nat.le_of_ble_eq_true rfl⟩, hg _ k_452, hg _ k_453⟩ (ld_preB hP hK hN hD (ld_dW a dk' ++ ld_gW a cI G ++ ld_rW a cI rc' ++ ld_pW (a 10) (a 11) (a 12) cI cZ q' ++ ld_uW a cI u' ++ ld_hW a cI hh' ++ ld_pW (a 18) (a 19) (a 20) cI cZ qq' ++ ld_mW a cJ mw) ([]) (by simp only [List.append_assoc, List.nil_append, List.append_nil]) 7 0 rfl rfl) rfl rfl hl.1 rfl (lv_room (Nat.le_of_ble_eq_true rfl)) d_law_284 lw_rm) hP hD hS hA (fun H locs hP hD hS => ?_)
  refine W.widen (k := 35) (n := 21161) (Nat.le_refl 35) (Nat.le_refl 21161) ?_
  exact lv_icmp_eq (tgt := 361) hx hb d_law_287 (by decide) (fun _ => kk H locs ⟨M, dk', G, rc', q', u', hh', qq', mw, fo', fb, fe', fs', hC', hF', hP, hD, hS⟩) (fun c_1 => absurd rfl c_1)
