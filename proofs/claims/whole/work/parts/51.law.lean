/-! THE CLAIM OUT OF ONE WALK OF THE LAW'S BODY. Your part is whole_start (and what it stands on); all else here is the same for every law, but numbers. -/
def R_law : String := "LoanDeskLaw"
def lw_P (b : Addr) (xs : List Int32) (args : Array Value) (s : State) : Prop := args = #[.ref b] ∧ s.IntsAt b xs ∧ xs.length ≤ 2560 ∧ (Jvm.Cond.and given_1 narrow_1).before args s = true
def lw_Q (_ : Array Value) (s : State) (o : Outcome) (t : State) : Prop := o = .returned (some (.int 1)) ∧ Framed s o t [] 35 21161
def lw_Z (below : List Frame) (a : Array Value) (s : State) : State → Prop := fun t => ∃ o, t.status = .running ∧ Ended t below o ∧ lw_Q a s o t
/-- the law's own end, with 1 on the stack, nothing written that was there before, its room as the claim has it -/
theorem lw_ret {p : Program} {l : Launch} {e : Env} {s : State} {m : MethodId} {below : List Frame} {meth : Method} {c : Code} {b : Nat} (hx : p.tables.exec = Jvm.exec) (hb : c.code = code) (hr : meth.sig.returnType = ret) (hlocks : meth.locks = false) {pc : Nat} {H : Heap} {ls : Array Slot} (hdg : decode code pc = .ok (.ireturn, 1)) : W p l e room_1 s m #[Value.ref b] below meth c H [] 35 21161 (lw_Z below #[Value.ref b] s) (F0 m pc ls [.int 1]) := by
  intro T hT X
  obtain ⟨fs, hret, hrun, hended, hW, hframe⟩ := X.leave (v := some (.int 1)) (hlocks := hlocks) (fun h => by rw [hr] at h; cases h)
  have hmeth' : T.vm.method? m = some meth := X.method'
  refine ⟨T.setFrames fs, ?_, .returned (some (.int 1)), hrun, hended, rfl, ⟨_, rfl⟩, hW, hframe⟩
  jvm_step X.here [X.here.top, hx, hb, hdg, hmeth', hr, ret, narrow_b1]
  (try refine ⟨rfl, ?_⟩); (try refine ⟨rfl, ?_⟩)
  first | (intro acts; rw [hret _ acts rfl rfl rfl]) | rw [hret _ _ rfl rfl rfl]
  exact Steps.refl _
/-- what holds at the law's entry: the machine, the code, the tables' words (any of lw_tbl by 'hts w (by decide +kernel)'), the script of L ints xs at the cell b, what the Statement gives of the start (any of its parts by flat_of_before) -/
def lw_At (p : Program) (s : State) (m : MethodId) (meth : Method) (c : Code) (b L : Nat) (xs : Nat → Int32) : Prop :=
  p.tables.exec = Jvm.exec ∧ c.code = code ∧ meth.sig.returnType = ret ∧ c.maxLocals = 4 ∧ s.vm.findClass R_law = some m.cls ∧ (∀ w ∈ lw_tbl, w.before #[Value.ref b] s = true) ∧ va_X b L xs s s.heap ∧ b < s.heap.size ∧ meth.locks = false ∧ (Jvm.Cond.and given_1 narrow_1).before #[Value.ref b] s = true
/-! a call on a stretch of the world -/
theorem ld_Pm {D : va_G} {cl : List vw_C} {ws : va_W} {H : Heap} : va_P D cl ws H ↔ ∀ q ∈ ws, va_at D cl q H := by
  constructor
  · intro h q hq
    obtain ⟨i, hi⟩ := List.getElem?_of_mem hq
    exact h i q hi
  · intro h k q hk
    exact h q (List.mem_of_getElem? hk)
theorem ld_Dm {A : Nat → Prop} {ws : va_W} : va_D A ws ↔ List.Pairwise (fun p q => p.1 ≠ q.1) ws ∧ ∀ q ∈ ws, A q.1 := by
  constructor
  · intro h
    refine ⟨List.pairwise_iff_getElem.mpr (fun i j hi hj hij e => ?_), fun q hq => ?_⟩
    · have := h.1 i j _ _ (List.getElem?_eq_getElem hi) (List.getElem?_eq_getElem hj) e
      omega
    · obtain ⟨i, hi⟩ := List.getElem?_of_mem hq
      exact h.2 i q hi
  · intro h
    refine ⟨fun i j p q hi hj e => ?_, fun k q hk => h.2 q (List.mem_of_getElem? hk)⟩
    obtain ⟨li, rfl⟩ := List.getElem?_eq_some_iff.mp hi
    obtain ⟨lj, rfl⟩ := List.getElem?_eq_some_iff.mp hj
    rcases Nat.lt_trichotomy i j with z | z | z
    · exact absurd e (List.pairwise_iff_getElem.mp h.1 i j li lj z)
    · exact z
    · exact absurd e.symm (List.pairwise_iff_getElem.mp h.1 j i lj li z)
theorem ld_Am {wc : va_W} {sz q : Nat} : va_A wc sz q ↔ (∃ x ∈ wc, x.1 = q) ∨ sz ≤ q := by
  constructor
  · rintro (⟨k, e, h⟩ | h)
    · exact Or.inl ⟨_, List.mem_of_getElem? h, rfl⟩
    · exact Or.inr h
  · rintro (⟨x, hx, rfl⟩ | h)
    · obtain ⟨i, hi⟩ := List.getElem?_of_mem hx
      exact Or.inl ⟨i, x.2, hi⟩
    · exact Or.inr h
theorem ld_joinB {A0 : Nat → Prop} {D : va_G} {cl : List vw_C} {w1 wc wc' w2 : va_W} {H H1 : Heap} (hP : va_P D cl (w1 ++ (wc ++ w2)) H) (hD : va_D A0 (w1 ++ (wc ++ w2))) (hk : ∀ q : Nat, q < H.size → ¬ va_A wc H.size q → H1[q]? = H[q]?) (hF : ∀ q, va_A wc H.size q → A0 q) (hP1 : va_P D cl wc' H1) (hD1 : va_D (va_A wc H.size) wc') : va_P D cl (w1 ++ (wc' ++ w2)) H1 ∧ va_D A0 (w1 ++ (wc' ++ w2)) := by
  have hPm := ld_Pm.mp hP
  obtain ⟨hpw, hin⟩ := ld_Dm.mp hD
  obtain ⟨hp1, hpc2, hx1⟩ := List.pairwise_append.mp hpw
  obtain ⟨hpc, hp2, hx2⟩ := List.pairwise_append.mp hpc2
  obtain ⟨hq, hqi⟩ := ld_Dm.mp hD1
  have out : ∀ x ∈ w1 ++ w2, x.1 < H.size ∧ ¬ va_A wc H.size x.1 := by
    intro x hx
    have hxw : x ∈ w1 ++ (wc ++ w2) := by
      rcases List.mem_append.mp hx with h | h
      · exact List.mem_append_left _ h
      · exact List.mem_append_right _ (List.mem_append_right _ h)
    have hl : x.1 < H.size := (hPm x hxw).lt
    refine ⟨hl, fun h => ?_⟩
    rcases ld_Am.mp h with ⟨y, hy, e⟩ | h
    · rcases List.mem_append.mp hx with h | h
      · exact hx1 x h y (List.mem_append_left _ hy) e.symm
      · exact hx2 y hy x h e
    · omega
  have kept : va_P D cl (w1 ++ w2) H1 := by
    have h0 : va_P D cl (w1 ++ w2) H := ld_Pm.mpr (fun x hx => hPm x (by
      rcases List.mem_append.mp hx with h | h
      · exact List.mem_append_left _ h
      · exact List.mem_append_right _ (List.mem_append_right _ h)))
    exact h0.kept (fun k x hx => hk x.1 (out x (List.mem_of_getElem? hx)).1 (out x (List.mem_of_getElem? hx)).2)
  have keptm := ld_Pm.mp kept
  have hP1m := ld_Pm.mp hP1
  refine ⟨ld_Pm.mpr (fun x hx => ?_), ld_Dm.mpr ⟨List.pairwise_append.mpr ⟨hp1, List.pairwise_append.mpr ⟨hq, hp2, fun x hx y hy e => ?_⟩, fun x hx y hy e => ?_⟩, fun x hx => ?_⟩⟩
  · rcases List.mem_append.mp hx with h | h
    · exact keptm x (List.mem_append_left _ h)
    · rcases List.mem_append.mp h with h | h
      · exact hP1m x h
      · exact keptm x (List.mem_append_right _ h)
  · have := (out y (List.mem_append_right _ hy)).2
    rw [← e] at this
    exact this (hqi x hx)
  · rcases List.mem_append.mp hy with h | h
    · have := (out x (List.mem_append_left _ hx)).2
      rw [e] at this
      exact this (hqi y h)
    · exact hx1 x hx y (List.mem_append_right _ h) e
  · rcases List.mem_append.mp hx with h | h
    · exact hin x (List.mem_append_left _ h)
    · rcases List.mem_append.mp h with h | h
      · exact hF _ (hqi x h)
      · exact hin x (List.mem_append_right _ (List.mem_append_right _ h))
section LDB
variable {p : Program} {l : Launch} {e : Env} {R : Room} {s : State} {m : MethodId} {args : Array Value} {below : List Frame} {meth : Method} {c : Code} {H : Heap} {locs : List Loc} {cells slots : Nat} {Q : State → Prop}
variable {D : va_G} {cI cZ cJ : ClassId} {ws wc wc' ws2 : va_W} {As rest st0 : List Value} {a : Array Value} {pc mc ms : Nat} {ls : Array Slot} {r : Int32} {A0 : Nat → Prop} {H0 : Heap} {b : Nat} {C : String} {T : u_T} {N : Nat}
theorem ld_preB (hP : va_P D vwCl ws H) (hK : ld_K D cI cZ cJ s) (hN : ld_nw s) (hD : va_D A0 ws) (w1 w2 : va_W) (hw : ws = w1 ++ (wc ++ w2)) (ci q0 : Nat) (hc : vwCl[ci]? = some (C, T, N)) {fs : List Value} (he : wc[q0]? = some (b, .inr (ci, fs))) : PreV s H C b (ld_PM D cI cZ cJ wc H.size (.ref b :: As)) As := by
  subst hw
  have hPc : va_P D vwCl wc H := ld_Pm.mpr (fun x hx => ld_Pm.mp hP x (List.mem_append_right _ (List.mem_append_left _ hx)))
  have hDc : va_D (fun _ => True) wc := ld_Dm.mpr ⟨(List.pairwise_append.mp (List.pairwise_append.mp (ld_Dm.mp hD).1).2.1).1, fun _ _ => trivial⟩
  exact ⟨ld_PM_blind, va_recv hK hPc (ci := ci) (q0 := q0) hc he, fun U hU hW => ⟨rfl, by rw [hU], by rw [hU]; exact hPc, va_K.moved hW.alike hK, hDc, ld_nw_warm hW hN⟩⟩
theorem ld_miB (w1 w2 : va_W) (hw : ws = w1 ++ (wc ++ w2)) (hw2 : ws2 = w1 ++ (wc' ++ w2)) (hr : va_Run p l e R s m args below meth c H locs cells slots mc ms (F0 m pc ls st0) rest (ld_QI D wc' (va_A wc H.size) r a) (va_A wc H.size)) (hP : va_P D vwCl ws H) (hD : va_D A0 ws) (hS : va_S A0 H0 H locs) (hA : ∀ q, H0.size ≤ q → A0 q)
    (kk : ∀ (H1 : Heap) (locs1 : List Loc), va_P D vwCl ws2 H1 → va_D A0 ws2 → va_S A0 H0 H1 locs1 → W p l e R s m args below meth c H1 locs1 (cells + mc) (slots + ms) Q (F0 m (pc + 3) ls (.int r :: rest))) : W p l e R s m args below meth c H locs cells slots Q (F0 m pc ls st0) := by
  subst hw hw2
  have hF : ∀ q, va_A wc H.size q → A0 q := by
    intro q h
    rcases ld_Am.mp h with ⟨x, hx, rfl⟩ | h
    · exact (ld_Dm.mp hD).2 x (List.mem_append_right _ (List.mem_append_left _ hx))
    · exact hA q (Nat.le_trans hS.1 h)
  refine va_calli hr hS (fun q _ h => hF q h) hF (fun z u t H1 locs1 ht hvm hw hB hz hk hS1 => ?_)
  obtain ⟨hP1, hD1⟩ := hB
  rw [ht] at hP1
  subst hw
  obtain ⟨hP2, hD2⟩ := ld_joinB hP hD hk hF hP1 hD1
  exact kk H1 locs1 hP2 hD2 hS1
end LDB
def lw_Inv (D : va_G) (cI cZ cJ : ClassId) (a f : Nat → Nat) (s : State) (H : Heap) (locs : List Loc) : Prop := ∃ (M : ld_M) (dk : Int32 × Int32) (G : ld_gT) (rc : Nat → Int32) (q : ld_pT) (u : Nat → Int32) (hh : (Nat → Int32) × (Nat → Int32)) (qq : ld_pT) (mw : Nat → Int64) (fo : Int32 × Int32 × Int32) (fb : ld_bT) (fe : ld_eT) (fs : ld_sT), ld_CI M dk G rc q u qq mw ∧ ld_FI M fo fb fe ∧ va_P D vwCl (ld_dW a dk ++ ld_gW a cI G ++ ld_rW a cI rc ++ ld_pW (a 10) (a 11) (a 12) cI cZ q ++ ld_uW a cI u ++ ld_hW a cI hh ++ ld_pW (a 18) (a 19) (a 20) cI cZ qq ++ ld_mW a cJ mw ++ ld_oW f fo ++ ld_bW f cI fb ++ ld_eW f cI cZ fe ++ ld_sW f cI cZ fs) H ∧ va_D (fun q : Nat => s.heap.size ≤ q) (ld_dW a dk ++ ld_gW a cI G ++ ld_rW a cI rc ++ ld_pW (a 10) (a 11) (a 12) cI cZ q ++ ld_uW a cI u ++ ld_hW a cI hh ++ ld_pW (a 18) (a 19) (a 20) cI cZ qq ++ ld_mW a cJ mw ++ ld_oW f fo ++ ld_bW f cI fb ++ ld_eW f cI cZ fe ++ ld_sW f cI cZ fs) ∧ va_S (fun q : Nat => s.heap.size ≤ q) s.heap H locs
theorem ld_pk0 : ld_pk ((fun _ => 0), (fun _ => 0), 0) 0 := ⟨rfl, fun i h => absurd h (Nat.not_lt_zero i), fun i _ h => absurd h (Nat.not_lt_zero i), fun _ _ => Or.inl rfl, (by decide +kernel : ld_cn (fun _ => decide ((0 : Int32) = 1)) 120 = 0)⟩
theorem lw_rm : 35 + 0 ≤ room_1.cells ∧ 21161 + 0 ≤ room_1.slots := by
  show 35 + 0 ≤ 35 ∧ 21161 + 0 ≤ 21161
  omega
theorem lw_rmD : 1 + 22 ≤ room_1.cells ∧ 7 + 1940 ≤ room_1.slots := by
  show 1 + 22 ≤ 35 ∧ 7 + 1940 ≤ 21161
  omega
theorem lw_rmF : 24 + 11 ≤ room_1.cells ∧ 1961 + 19200 ≤ room_1.slots := by
  show 24 + 11 ≤ 35 ∧ 1961 + 19200 ≤ 21161
  omega
theorem lw_rm1 : 0 + 1 ≤ room_1.cells ∧ 0 + 7 ≤ room_1.slots := by
  show 0 + 1 ≤ 35 ∧ 0 + 7 ≤ 21161
  omega
theorem lw_rm2 : 23 + 1 ≤ room_1.cells ∧ 1947 + 14 ≤ room_1.slots := by
  show 23 + 1 ≤ 35 ∧ 1947 + 14 ≤ 21161
  omega
theorem lw_in {i L j : Nat} (hi : i + 5 ≤ L) (hL : L ≤ 2560) (hj : j < 5) : vp_in (nI i + nI j) L := by
  have e : nI i + nI j = nI (i + j) := (Int32.ofNat_add i j).symm
  rw [e]
  exact vp_in_nI (by omega) (by omega)
