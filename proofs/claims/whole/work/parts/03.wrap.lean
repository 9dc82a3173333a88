/-! contracts in one form: a reader (nothing changes) and a changer (its world's new contents), and their calls -/
abbrev ld_K (D : va_G) (cI cZ cJ : ClassId) (U : State) : Prop := va_K D vwCl [(cI, .int), (cZ, .boolean), (cJ, .long)] U
def ld_PR (D : va_G) (cI cZ cJ : ClassId) (ws : va_W) (av : List Value) : Array Value → State → Prop := va_Pc av (fun U => va_P D vwCl ws U.heap ∧ ld_K D cI cZ cJ U ∧ ld_nw U)
def ld_PM (D : va_G) (cI cZ cJ : ClassId) (ws : va_W) (sz : Nat) (av : List Value) : Array Value → State → Prop := va_Pc av (fun U => U.heap.size = sz ∧ va_P D vwCl ws U.heap ∧ ld_K D cI cZ cJ U ∧ va_D (fun _ => True) ws ∧ ld_nw U)
def ld_QI (D : va_G) (ws' : va_W) (A : Nat → Prop) (r : Int32) : Array Value → State → Outcome → State → Prop := va_Qi (fun z (_ : Unit) => z = r) (fun _ t => va_P D vwCl ws' t.heap ∧ va_D A ws') A
def ld_QV (D : va_G) (ws' : va_W) (A : Nat → Prop) : Array Value → State → Outcome → State → Prop := va_Qv (fun (_ : Unit) => True) (fun _ t => va_P D vwCl ws' t.heap ∧ va_D A ws') A
theorem ld_PR_blind {D : va_G} {cI cZ cJ : ClassId} {ws : va_W} {av : List Value} : FrameBlind (ld_PR D cI cZ cJ ws av) := fun a U g mk q => by
  obtain ⟨q0, qP, qK, qN⟩ := q
  exact ⟨q0, qP, va_K.moved (u := U) (U := U.calling g mk a) (Vm.Alike.refl U.vm) qK, ld_nw_same (u := U) (U := U.calling g mk a) rfl qN⟩
theorem ld_PM_blind {D : va_G} {cI cZ cJ : ClassId} {ws : va_W} {sz : Nat} {av : List Value} : FrameBlind (ld_PM D cI cZ cJ ws sz av) := fun a U g mk q => by
  obtain ⟨q0, qz, qP, qK, qD, qN⟩ := q
  exact ⟨q0, qz, qP, va_K.moved (u := U) (U := U.calling g mk a) (Vm.Alike.refl U.vm) qK, qD, ld_nw_same (u := U) (U := U.calling g mk a) rfl qN⟩
theorem ld_subP {D : va_G} {cl : List vw_C} {ws ws' : va_W} {H : Heap} (h : va_P D cl ws H) (is : List Nat) (hs : is.map (fun i => ws[i]?) = ws'.map some) : va_P D cl ws' H := by
  intro k q hk
  have h1 : (is.map (fun i => ws[i]?))[k]? = some (some q) := by rw [hs, List.getElem?_map, hk]; rfl
  rw [List.getElem?_map] at h1
  cases hi : is[k]? with
  | none => rw [hi] at h1; cases h1
  | some i => rw [hi] at h1; exact h i q (Option.some.inj h1)
section LDC
variable {p : Program} {l : Launch} {e : Env} {R : Room} {s : State} {m : MethodId} {args : Array Value} {below : List Frame} {meth : Method} {c : Code} {H : Heap} {locs : List Loc} {cells slots : Nat} {Q : State → Prop}
variable {D : va_G} {cI cZ cJ : ClassId} {ws wc wc' wr ws2 : va_W} {As av rest st0 : List Value} {a : Array Value} {pc mc ms : Nat} {ls : Array Slot} {r : Int32} {A0 : Nat → Prop} {H0 : Heap} {b : Nat} {C : String} {T : u_T} {N : Nat}
theorem ld_preR (hP : va_P D vwCl ws H) (hK : ld_K D cI cZ cJ s) (hN : ld_nw s) (isC : List Nat) (hC : isC.map (fun i => ws[i]?) = wc.map some) : PreS s H (ld_PR D cI cZ cJ wc av) av :=
  ⟨ld_PR_blind, fun U hU hW => ⟨rfl, by rw [hU]; exact ld_subP hP isC hC, va_K.moved hW.alike hK, ld_nw_warm hW hN⟩⟩
theorem ld_preRV (hP : va_P D vwCl ws H) (hK : ld_K D cI cZ cJ s) (hN : ld_nw s) (isC : List Nat) (hC : isC.map (fun i => ws[i]?) = wc.map some) (ci q0 : Nat) (hc : vwCl[ci]? = some (C, T, N)) {fs : List Value} (he : wc[q0]? = some (b, .inr (ci, fs))) : PreV s H C b (ld_PR D cI cZ cJ wc (.ref b :: As)) As :=
  ⟨ld_PR_blind, va_recv hK (ld_subP hP isC hC) (ci := ci) (q0 := q0) hc he, (ld_preR hP hK hN isC hC).2⟩
theorem ld_preM (hP : va_P D vwCl ws H) (hK : ld_K D cI cZ cJ s) (hN : ld_nw s) (hD : va_D A0 ws) (isC : List Nat) (hnC : va_nd isC = true) (hC : isC.map (fun i => ws[i]?) = wc.map some) : PreS s H (ld_PM D cI cZ cJ wc H.size av) av :=
  ⟨ld_PM_blind, fun U hU hW => ⟨rfl, by rw [hU], by rw [hU]; exact ld_subP hP isC hC, va_K.moved hW.alike hK, (hD.sub isC hnC hC).weaken (fun _ _ _ _ => trivial), ld_nw_warm hW hN⟩⟩
theorem ld_preMV (hP : va_P D vwCl ws H) (hK : ld_K D cI cZ cJ s) (hN : ld_nw s) (hD : va_D A0 ws) (isC : List Nat) (hnC : va_nd isC = true) (hC : isC.map (fun i => ws[i]?) = wc.map some) (ci q0 : Nat) (hc : vwCl[ci]? = some (C, T, N)) {fs : List Value} (he : wc[q0]? = some (b, .inr (ci, fs))) : PreV s H C b (ld_PM D cI cZ cJ wc H.size (.ref b :: As)) As :=
  ⟨ld_PM_blind, va_recv hK (ld_subP hP isC hC) (ci := ci) (q0 := q0) hc he, (ld_preM hP hK hN hD isC hnC hC).2⟩
theorem ld_rd (hr : CallRun p l e R s m args below meth c H locs cells slots 0 0 (F0 m pc ls st0) rest (vp_Si (fun z => z = r) a) (fun _ => False)) (kk : W p l e R s m args below meth c H locs cells slots Q (F0 m (pc + 3) ls (.int r :: rest))) : W p l e R s m args below meth c H locs cells slots Q (F0 m pc ls st0) :=
  vp_callSi hr (fun z hz => by subst hz; exact kk)
theorem ld_mi (hr : va_Run p l e R s m args below meth c H locs cells slots mc ms (F0 m pc ls st0) rest (ld_QI D wc' (va_A wc H.size) r a) (va_A wc H.size)) (hP : va_P D vwCl ws H) (hD : va_D A0 ws) (hS : va_S A0 H0 H locs) (hA : ∀ q, H0.size ≤ q → A0 q) (isC isR isN : List Nat)
    (hC : isC.map (fun i => ws[i]?) = wc.map some) (hR : isR.map (fun i => ws[i]?) = wr.map some) (hn : va_nd isR = true) (hdis : ∀ i ∈ isR, i ∉ isC) (hnN : va_nd isN = true) (hN : isN.map (fun i => (wr ++ wc')[i]?) = ws2.map some)
    (kk : ∀ (H1 : Heap) (locs1 : List Loc), va_P D vwCl ws2 H1 → va_D A0 ws2 → va_S A0 H0 H1 locs1 → W p l e R s m args below meth c H1 locs1 (cells + mc) (slots + ms) Q (F0 m (pc + 3) ls (.int r :: rest))) : W p l e R s m args below meth c H locs cells slots Q (F0 m pc ls st0) := by
  have hF := va_free hD hS hA isC hC
  refine va_calli hr hS (fun q _ h => hF q h) hF (fun z u t H1 locs1 ht hvm hw hB hz hk hS1 => ?_)
  obtain ⟨hP1, hD1⟩ := hB
  rw [ht] at hP1
  subst hw
  obtain ⟨hP2, hD2⟩ := va_join hP hD isC isR hC hR hn hdis hk hF hP1 hD1
  exact kk H1 locs1 (ld_subP hP2 isN hN) (hD2.sub isN hnN hN) hS1
theorem ld_mv (hr : va_Run p l e R s m args below meth c H locs cells slots mc ms (F0 m pc ls st0) rest (ld_QV D wc' (va_A wc H.size) a) (va_A wc H.size)) (hP : va_P D vwCl ws H) (hD : va_D A0 ws) (hS : va_S A0 H0 H locs) (hA : ∀ q, H0.size ≤ q → A0 q) (isC isR isN : List Nat)
    (hC : isC.map (fun i => ws[i]?) = wc.map some) (hR : isR.map (fun i => ws[i]?) = wr.map some) (hn : va_nd isR = true) (hdis : ∀ i ∈ isR, i ∉ isC) (hnN : va_nd isN = true) (hN : isN.map (fun i => (wr ++ wc')[i]?) = ws2.map some)
    (kk : ∀ (H1 : Heap) (locs1 : List Loc), va_P D vwCl ws2 H1 → va_D A0 ws2 → va_S A0 H0 H1 locs1 → W p l e R s m args below meth c H1 locs1 (cells + mc) (slots + ms) Q (F0 m (pc + 3) ls rest)) : W p l e R s m args below meth c H locs cells slots Q (F0 m pc ls st0) := by
  have hF := va_free hD hS hA isC hC
  refine va_callv hr hS (fun q _ h => hF q h) hF (fun u t H1 locs1 ht hvm hw hB hz hk hS1 => ?_)
  obtain ⟨hP1, hD1⟩ := hB
  rw [ht] at hP1
  obtain ⟨hP2, hD2⟩ := va_join hP hD isC isR hC hR hn hdis hk hF hP1 hD1
  exact kk H1 locs1 (ld_subP hP2 isN hN) (hD2.sub isN hnN hN) hS1
end LDC
