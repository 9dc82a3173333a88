/-! THE CLAIM OUT OF ONE WALK OF THE LAW'S BODY. Your part is whole_start (and what it stands on); all else here is the same for every law, but numbers. -/
def R_law : String := "LoanDeskLaw"
def lw_P (b : Addr) (xs : List Int32) (args : Array Value) (s : State) : Prop := args = #[.ref b] ∧ s.IntsAt b xs ∧ xs.length ≤ 2560 ∧ (Jvm.Cond.and given_1 narrow_1).before args s = true
def lw_Q (_ : Array Value) (s : State) (o : Outcome) (t : State) : Prop := o = .returned (some (.int 1)) ∧ Framed s o t [] 35 21161
def lw_Z (below : List Frame) (a : Array Value) (s : State) : State → Prop := fun t => ∃ o, t.status = .running ∧ Ended t below o ∧ lw_Q a s o t
/-- the law's own end, with 1 on the stack, nothing written that was there before, its room as the claim has it -/
theorem lw_ret {p : Program} {l : Launch} {e : Env} {s : State} {m : MethodId} {below : List Frame} {meth : Method} {c : Code} {b : Nat} (hx : p.tables.exec = Jvm.exec) (hb : c.code = code) (hr : meth.sig.returnType = ret) (hlocks : meth.locks = false) {pc : Nat} {H : Heap} {ls : Array Slot} (hdg : decode code pc = .ok (.ireturn, 1)) : W p l e room_1 s m #[Value.ref b] below meth c H [] 35 21161 (lw_Z below #[Value.ref b] s) (F0 m pc ls [.int 1]) := by
  intro T hT X
  obtain ⟨fs, hret, hrun, hended, hW, hframe⟩ := X.leave (v := some (.int 1)) (hlocks := hlocks) (fun h => by rw [hr] at h; cases h)
  have hmeth' : T.vm.method? m = some meth := X.method'
  refine ⟨T.setFrames fs, ?_, .returned (some (.int 1)), hrun, hended, rfl, ⟨_, rfl⟩, hW, hframe⟩
  jvm_step X.here [X.here.top, hx, hb, hdg, hmeth', hr, ret, narrow_b1]
  (try refine ⟨rfl, ?_⟩); (try refine ⟨rfl, ?_⟩)
  first | (intro acts; rw [hret _ acts rfl rfl rfl]) | rw [hret _ _ rfl rfl rfl]
  exact Steps.refl _
/-- what holds at the law's entry: the machine, the code, the tables' words (any of lw_tbl by 'hts w (by decide +kernel)'), the script of L ints xs at the cell b, what the Statement gives of the start (any of its parts by flat_of_before) -/
def lw_At (p : Program) (s : State) (m : MethodId) (meth : Method) (c : Code) (b L : Nat) (xs : Nat → Int32) : Prop :=
  p.tables.exec = Jvm.exec ∧ c.code = code ∧ meth.sig.returnType = ret ∧ c.maxLocals = 4 ∧ s.vm.findClass R_law = some m.cls ∧ (∀ w ∈ lw_tbl, w.before #[Value.ref b] s = true) ∧ va_X b L xs s s.heap ∧ b < s.heap.size ∧ meth.locks = false ∧ (Jvm.Cond.and given_1 narrow_1).before #[Value.ref b] s = true
def lw_Inv (D : va_G) (cI cZ cJ : ClassId) (a f : Nat → Nat) (s : State) (H : Heap) (locs : List Loc) : Prop := ∃ (M : ld_M) (dk : Int32 × Int32) (G : ld_gT) (rc : Nat → Int32) (q : ld_pT) (u : Nat → Int32) (hh : (Nat → Int32) × (Nat → Int32)) (qq : ld_pT) (mw : Nat → Int64) (fo : Int32 × Int32 × Int32) (fb : ld_bT) (fe : ld_eT) (fs : ld_sT), ld_CI M dk G rc q u qq mw ∧ ld_FI M fo fb fe ∧ va_P D vwCl (ld_dW a dk ++ ld_gW a cI G ++ ld_rW a cI rc ++ ld_pW (a 10) (a 11) (a 12) cI cZ q ++ ld_uW a cI u ++ ld_hW a cI hh ++ ld_pW (a 18) (a 19) (a 20) cI cZ qq ++ ld_mW a cJ mw ++ ld_oW f fo ++ ld_bW f cI fb ++ ld_eW f cI cZ fe ++ ld_sW f cI cZ fs) H ∧ va_D (fun q : Nat => s.heap.size ≤ q) (ld_dW a dk ++ ld_gW a cI G ++ ld_rW a cI rc ++ ld_pW (a 10) (a 11) (a 12) cI cZ q ++ ld_uW a cI u ++ ld_hW a cI hh ++ ld_pW (a 18) (a 19) (a 20) cI cZ qq ++ ld_mW a cJ mw ++ ld_oW f fo ++ ld_bW f cI fb ++ ld_eW f cI cZ fe ++ ld_sW f cI cZ fs) ∧ va_S (fun q : Nat => s.heap.size ≤ q) s.heap H locs
theorem ld_pk0 : ld_pk ((fun _ => 0), (fun _ => 0), 0) 0 := ⟨rfl, fun i h => absurd h (Nat.not_lt_zero i), fun i _ h => absurd h (Nat.not_lt_zero i), fun _ _ => Or.inl rfl, (by decide +kernel : ld_cn (fun _ => decide ((0 : Int32) = 1)) 120 = 0)⟩
theorem lw_in {i L j : Nat} (hi : i + 5 ≤ L) (hL : L ≤ 2560) (hj : j < 5) : vp_in (nI i + nI j) L := by
  have e : nI i + nI j = nI (i + j) := (Int32.ofNat_add i j).symm
  rw [e]
  exact vp_in_nI (by omega) (by omega)
