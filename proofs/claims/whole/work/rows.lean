section
-- ===== PART A: goes FIRST, ahead of the names: the tables' words, and 'selects' of the private methods out of them =====
/-- a private method of a class that the tables say can be made, by its rows of tables_1 -/
def lw_okq (q : MethodName × Nat) : Prop := (q.1.cls ≠ "java/lang/invoke/MethodHandle" ∧ q.1.cls ≠ "java/lang/invoke/VarHandle") ∧ Cond.instantiable q.1.cls q.2 ∈ tables_1 ∧ Cond.privateMethod q.1 ∈ tables_1 ∧ Cond.instanceMethod q.1 ∈ tables_1
theorem lw_p0 : lw_okq (⟨"LoanDesk", "forgetFindings", "()V"⟩, 7) := ⟨⟨by decide +kernel, by decide +kernel⟩, List.mem_of_getElem? (i := 12) (by decide +kernel), List.mem_of_getElem? (i := 157) (by decide +kernel), List.mem_of_getElem? (i := 158) (by decide +kernel)⟩
theorem lw_p1 : lw_okq (⟨"LoanDesk", "findWays", "()V"⟩, 7) := ⟨⟨by decide +kernel, by decide +kernel⟩, List.mem_of_getElem? (i := 12) (by decide +kernel), List.mem_of_getElem? (i := 189) (by decide +kernel), List.mem_of_getElem? (i := 190) (by decide +kernel)⟩
theorem lw_p2 : lw_okq (⟨"LoanDesk$Reach", "arrive", "(LLoanDesk$Graph;I)V"⟩, 2) := ⟨⟨by decide +kernel, by decide +kernel⟩, List.mem_of_getElem? (i := 49) (by decide +kernel), List.mem_of_getElem? (i := 200) (by decide +kernel), List.mem_of_getElem? (i := 201) (by decide +kernel)⟩
theorem lw_p3 : lw_okq (⟨"LoanDesk$Uses", "growAll", "(LLoanDesk$Graph;)Z"⟩, 1) := ⟨⟨by decide +kernel, by decide +kernel⟩, List.mem_of_getElem? (i := 79) (by decide +kernel), List.mem_of_getElem? (i := 236) (by decide +kernel), List.mem_of_getElem? (i := 237) (by decide +kernel)⟩
theorem lw_p4 : lw_okq (⟨"LoanDesk$Holding", "pass", "(LLoanDesk$Graph;II)V"⟩, 3) := ⟨⟨by decide +kernel, by decide +kernel⟩, List.mem_of_getElem? (i := 89) (by decide +kernel), List.mem_of_getElem? (i := 275) (by decide +kernel), List.mem_of_getElem? (i := 276) (by decide +kernel)⟩
theorem lw_p5 : lw_okq (⟨"LoanDesk$Holding", "handOn", "(LLoanDesk$Graph;II)V"⟩, 3) := ⟨⟨by decide +kernel, by decide +kernel⟩, List.mem_of_getElem? (i := 89) (by decide +kernel), List.mem_of_getElem? (i := 288) (by decide +kernel), List.mem_of_getElem? (i := 289) (by decide +kernel)⟩
theorem lw_p6 : lw_okq (⟨"LoanDesk", "findMeetings", "()V"⟩, 7) := ⟨⟨by decide +kernel, by decide +kernel⟩, List.mem_of_getElem? (i := 12) (by decide +kernel), List.mem_of_getElem? (i := 313) (by decide +kernel), List.mem_of_getElem? (i := 314) (by decide +kernel)⟩
theorem lw_p7 : lw_okq (⟨"LoanDesk", "addMeetings", "(I)V"⟩, 7) := ⟨⟨by decide +kernel, by decide +kernel⟩, List.mem_of_getElem? (i := 12) (by decide +kernel), List.mem_of_getElem? (i := 325) (by decide +kernel), List.mem_of_getElem? (i := 326) (by decide +kernel)⟩
theorem lw_p8 : lw_okq (⟨"LoanDesk$Graph", "isChange", "(I)Z"⟩, 7) := ⟨⟨by decide +kernel, by decide +kernel⟩, List.mem_of_getElem? (i := 20) (by decide +kernel), List.mem_of_getElem? (i := 338) (by decide +kernel), List.mem_of_getElem? (i := 339) (by decide +kernel)⟩
theorem lw_p9 : lw_okq (⟨"LoanDesk$Graph", "isLook", "(I)Z"⟩, 7) := ⟨⟨by decide +kernel, by decide +kernel⟩, List.mem_of_getElem? (i := 20) (by decide +kernel), List.mem_of_getElem? (i := 342) (by decide +kernel), List.mem_of_getElem? (i := 343) (by decide +kernel)⟩
theorem lw_p10 : lw_okq (⟨"LoanDesk$Meetings", "isAt", "(II)Z"⟩, 1) := ⟨⟨by decide +kernel, by decide +kernel⟩, List.mem_of_getElem? (i := 107) (by decide +kernel), List.mem_of_getElem? (i := 362) (by decide +kernel), List.mem_of_getElem? (i := 363) (by decide +kernel)⟩
theorem lw_p11 : lw_okq (⟨"LoanDesk$Meetings", "isAnyAt", "(I)Z"⟩, 1) := ⟨⟨by decide +kernel, by decide +kernel⟩, List.mem_of_getElem? (i := 107) (by decide +kernel), List.mem_of_getElem? (i := 378) (by decide +kernel), List.mem_of_getElem? (i := 379) (by decide +kernel)⟩
theorem lw_p12 : lw_okq (⟨"LoanDeskModel", "learn", "()V"⟩, 14) := ⟨⟨by decide +kernel, by decide +kernel⟩, List.mem_of_getElem? (i := 398) (by decide +kernel), List.mem_of_getElem? (i := 465) (by decide +kernel), List.mem_of_getElem? (i := 466) (by decide +kernel)⟩
theorem lw_p13 : lw_okq (⟨"LoanDeskModel", "forget", "()V"⟩, 14) := ⟨⟨by decide +kernel, by decide +kernel⟩, List.mem_of_getElem? (i := 398) (by decide +kernel), List.mem_of_getElem? (i := 469) (by decide +kernel), List.mem_of_getElem? (i := 470) (by decide +kernel)⟩
theorem lw_p14 : lw_okq (⟨"LoanDeskModel", "meet", "(II)V"⟩, 14) := ⟨⟨by decide +kernel, by decide +kernel⟩, List.mem_of_getElem? (i := 398) (by decide +kernel), List.mem_of_getElem? (i := 473) (by decide +kernel), List.mem_of_getElem? (i := 474) (by decide +kernel)⟩
theorem lw_p15 : lw_okq (⟨"LoanDeskModel", "isPoint", "(I)Z"⟩, 14) := ⟨⟨by decide +kernel, by decide +kernel⟩, List.mem_of_getElem? (i := 398) (by decide +kernel), List.mem_of_getElem? (i := 477) (by decide +kernel), List.mem_of_getElem? (i := 478) (by decide +kernel)⟩
def lw_privs_1 : List (MethodName × Nat) := [(⟨"LoanDesk", "forgetFindings", "()V"⟩, 7), (⟨"LoanDesk", "findWays", "()V"⟩, 7), (⟨"LoanDesk$Reach", "arrive", "(LLoanDesk$Graph;I)V"⟩, 2), (⟨"LoanDesk$Uses", "growAll", "(LLoanDesk$Graph;)Z"⟩, 1), (⟨"LoanDesk$Holding", "pass", "(LLoanDesk$Graph;II)V"⟩, 3), (⟨"LoanDesk$Holding", "handOn", "(LLoanDesk$Graph;II)V"⟩, 3), (⟨"LoanDesk", "findMeetings", "()V"⟩, 7), (⟨"LoanDesk", "addMeetings", "(I)V"⟩, 7), (⟨"LoanDesk$Graph", "isChange", "(I)Z"⟩, 7), (⟨"LoanDesk$Graph", "isLook", "(I)Z"⟩, 7), (⟨"LoanDesk$Meetings", "isAt", "(II)Z"⟩, 1), (⟨"LoanDesk$Meetings", "isAnyAt", "(I)Z"⟩, 1), (⟨"LoanDeskModel", "learn", "()V"⟩, 14), (⟨"LoanDeskModel", "forget", "()V"⟩, 14), (⟨"LoanDeskModel", "meet", "(II)V"⟩, 14), (⟨"LoanDeskModel", "isPoint", "(I)Z"⟩, 14)]
theorem lw_r1 : ∀ q ∈ lw_privs_1, lw_okq q := List.forall_mem_cons.mpr ⟨lw_p0, List.forall_mem_cons.mpr ⟨lw_p1, List.forall_mem_cons.mpr ⟨lw_p2, List.forall_mem_cons.mpr ⟨lw_p3, List.forall_mem_cons.mpr ⟨lw_p4, List.forall_mem_cons.mpr ⟨lw_p5, List.forall_mem_cons.mpr ⟨lw_p6, List.forall_mem_cons.mpr ⟨lw_p7, List.forall_mem_cons.mpr ⟨lw_p8, List.forall_mem_cons.mpr ⟨lw_p9, List.forall_mem_cons.mpr ⟨lw_p10, List.forall_mem_cons.mpr ⟨lw_p11, List.forall_mem_cons.mpr ⟨lw_p12, List.forall_mem_cons.mpr ⟨lw_p13, List.forall_mem_cons.mpr ⟨lw_p14, List.forall_mem_cons.mpr ⟨lw_p15, fun _ h => absurd h List.not_mem_nil⟩⟩⟩⟩⟩⟩⟩⟩⟩⟩⟩⟩⟩⟩⟩⟩
theorem lw_p16 : lw_okq (⟨"LoanDeskModel", "isUsed", "(II)Z"⟩, 14) := ⟨⟨by decide +kernel, by decide +kernel⟩, List.mem_of_getElem? (i := 398) (by decide +kernel), List.mem_of_getElem? (i := 481) (by decide +kernel), List.mem_of_getElem? (i := 482) (by decide +kernel)⟩
theorem lw_p17 : lw_okq (⟨"LoanDeskModel", "uses", "(II)Z"⟩, 14) := ⟨⟨by decide +kernel, by decide +kernel⟩, List.mem_of_getElem? (i := 398) (by decide +kernel), List.mem_of_getElem? (i := 485) (by decide +kernel), List.mem_of_getElem? (i := 486) (by decide +kernel)⟩
theorem lw_p18 : lw_okq (⟨"LoanDeskModel", "changes", "(II)Z"⟩, 14) := ⟨⟨by decide +kernel, by decide +kernel⟩, List.mem_of_getElem? (i := 398) (by decide +kernel), List.mem_of_getElem? (i := 489) (by decide +kernel), List.mem_of_getElem? (i := 490) (by decide +kernel)⟩
theorem lw_p19 : lw_okq (⟨"LoanDeskModel", "goAll", "(I)V"⟩, 14) := ⟨⟨by decide +kernel, by decide +kernel⟩, List.mem_of_getElem? (i := 398) (by decide +kernel), List.mem_of_getElem? (i := 493) (by decide +kernel), List.mem_of_getElem? (i := 494) (by decide +kernel)⟩
theorem lw_p20 : lw_okq (⟨"LoanDeskModel", "through", "(II)V"⟩, 14) := ⟨⟨by decide +kernel, by decide +kernel⟩, List.mem_of_getElem? (i := 398) (by decide +kernel), List.mem_of_getElem? (i := 497) (by decide +kernel), List.mem_of_getElem? (i := 498) (by decide +kernel)⟩
theorem lw_p21 : lw_okq (⟨"LoanDeskModel", "meets", "(II)Z"⟩, 14) := ⟨⟨by decide +kernel, by decide +kernel⟩, List.mem_of_getElem? (i := 398) (by decide +kernel), List.mem_of_getElem? (i := 519) (by decide +kernel), List.mem_of_getElem? (i := 520) (by decide +kernel)⟩
def lw_privs_2 : List (MethodName × Nat) := [(⟨"LoanDeskModel", "isUsed", "(II)Z"⟩, 14), (⟨"LoanDeskModel", "uses", "(II)Z"⟩, 14), (⟨"LoanDeskModel", "changes", "(II)Z"⟩, 14), (⟨"LoanDeskModel", "goAll", "(I)V"⟩, 14), (⟨"LoanDeskModel", "through", "(II)V"⟩, 14), (⟨"LoanDeskModel", "meets", "(II)Z"⟩, 14)]
theorem lw_r2 : ∀ q ∈ lw_privs_2, lw_okq q := List.forall_mem_cons.mpr ⟨lw_p16, List.forall_mem_cons.mpr ⟨lw_p17, List.forall_mem_cons.mpr ⟨lw_p18, List.forall_mem_cons.mpr ⟨lw_p19, List.forall_mem_cons.mpr ⟨lw_p20, List.forall_mem_cons.mpr ⟨lw_p21, fun _ h => absurd h List.not_mem_nil⟩⟩⟩⟩⟩⟩
def lw_privs : List (MethodName × Nat) := lw_privs_1 ++ (lw_privs_2)
def lw_tbl : List Cond := k2_sels lw_privs ++ tables_1
theorem lw_privs_ok : ∀ q ∈ lw_privs, lw_okq q := by
  show ∀ q ∈ lw_privs_1 ++ (lw_privs_2), lw_okq q
  exact List.forall_mem_append.mpr ⟨lw_r1, lw_r2⟩

abbrev y_isRef : MethodName := ⟨"LoanDesk", "isReference", "(I)Z"⟩
abbrev y_isIndex : MethodName := ⟨"LoanDesk", "isIndex", "(I)Z"⟩
abbrev y_isNext : MethodName := ⟨"LoanDesk", "isNext", "(I)Z"⟩
abbrev y_isPlace : MethodName := ⟨"LoanDesk", "isPlace", "(I)Z"⟩
abbrev y_isDoing : MethodName := ⟨"LoanDesk", "isDoing", "(IIII)Z"⟩
abbrev y_gsize : MethodName := ⟨"LoanDesk$Graph", "size", "()I"⟩
abbrev y_hasRoom : MethodName := ⟨"LoanDesk$Graph", "hasRoom", "()Z"⟩
abbrev y_isPoint : MethodName := ⟨"LoanDesk$Graph", "isPoint", "(I)Z"⟩
abbrev y_isLoan : MethodName := ⟨"LoanDesk$Graph", "isLoan", "(I)Z"⟩
abbrev y_firstNext : MethodName := ⟨"LoanDesk$Graph", "firstNext", "(I)I"⟩
abbrev y_secondNext : MethodName := ⟨"LoanDesk$Graph", "secondNext", "(I)I"⟩
abbrev y_countLoans : MethodName := ⟨"LoanDesk$Graph", "countLoans", "()I"⟩
abbrev y_add : MethodName := ⟨"LoanDesk$Graph", "add", "(IIII)I"⟩
abbrev y_tellNext : MethodName := ⟨"LoanDesk$Graph", "tellNext", "(III)V"⟩
abbrev y_gempty : MethodName := ⟨"LoanDesk$Graph", "empty", "()V"⟩
abbrev y_withHolder : MethodName := ⟨"LoanDesk$Graph", "withHolder", "(IIZ)I"⟩
abbrev y_heldBehind : MethodName := ⟨"LoanDesk$Graph", "heldBehind", "(III)I"⟩
abbrev y_usedFrom : MethodName := ⟨"LoanDesk$Graph", "usedFrom", "(II)I"⟩
abbrev y_borrowing : MethodName := ⟨"LoanDesk$Graph", "borrowing", "(I)I"⟩
abbrev y_isChange : MethodName := ⟨"LoanDesk$Graph", "isChange", "(I)Z"⟩
abbrev y_isLook : MethodName := ⟨"LoanDesk$Graph", "isLook", "(I)Z"⟩
abbrev y_overlap : MethodName := ⟨"LoanDesk$Graph", "overlap", "(II)Z"⟩
abbrev y_touches : MethodName := ⟨"LoanDesk$Graph", "touches", "(II)Z"⟩
abbrev y_pEmpty : MethodName := ⟨"LoanDesk$Pile", "isEmpty", "()Z"⟩
abbrev y_put : MethodName := ⟨"LoanDesk$Pile", "put", "(I)V"⟩
abbrev y_take : MethodName := ⟨"LoanDesk$Pile", "take", "()I"⟩
abbrev y_comesTo : MethodName := ⟨"LoanDesk$Reach", "comesTo", "(I)Z"⟩
abbrev y_rcount : MethodName := ⟨"LoanDesk$Reach", "countPoints", "()I"⟩
abbrev y_arrive : MethodName := ⟨"LoanDesk$Reach", "arrive", "(LLoanDesk$Graph;I)V"⟩
abbrev y_rfind : MethodName := ⟨"LoanDesk$Reach", "find", "(LLoanDesk$Graph;)V"⟩
abbrev y_ubehind : MethodName := ⟨"LoanDesk$Uses", "behind", "(I)I"⟩
abbrev y_growAll : MethodName := ⟨"LoanDesk$Uses", "growAll", "(LLoanDesk$Graph;)Z"⟩
abbrev y_ufind : MethodName := ⟨"LoanDesk$Uses", "find", "(LLoanDesk$Graph;)V"⟩
abbrev y_hbehind : MethodName := ⟨"LoanDesk$Holding", "behind", "(I)I"⟩
abbrev y_handOn : MethodName := ⟨"LoanDesk$Holding", "handOn", "(LLoanDesk$Graph;II)V"⟩
abbrev y_pass : MethodName := ⟨"LoanDesk$Holding", "pass", "(LLoanDesk$Graph;II)V"⟩
abbrev y_follow : MethodName := ⟨"LoanDesk$Holding", "follow", "(LLoanDesk$Graph;I)V"⟩
abbrev y_mempty : MethodName := ⟨"LoanDesk$Meetings", "empty", "()V"⟩
abbrev y_madd : MethodName := ⟨"LoanDesk$Meetings", "add", "(II)V"⟩
abbrev y_isAnyAt : MethodName := ⟨"LoanDesk$Meetings", "isAnyAt", "(I)Z"⟩
abbrev y_isAt : MethodName := ⟨"LoanDesk$Meetings", "isAt", "(II)Z"⟩
abbrev y_mcount : MethodName := ⟨"LoanDesk$Meetings", "countPoints", "()I"⟩
abbrev y_mfirst : MethodName := ⟨"LoanDesk$Meetings", "firstPoint", "()I"⟩
abbrev y_least : MethodName := ⟨"LoanDesk$Meetings", "leastAbove", "(II)I"⟩
abbrev y_forget : MethodName := ⟨"LoanDesk", "forgetFindings", "()V"⟩
abbrev y_findWays : MethodName := ⟨"LoanDesk", "findWays", "()V"⟩
abbrev y_addMeet : MethodName := ⟨"LoanDesk", "addMeetings", "(I)V"⟩
abbrev y_findMeet : MethodName := ⟨"LoanDesk", "findMeetings", "()V"⟩
abbrev y_point : MethodName := ⟨"LoanDesk", "point", "(IIII)I"⟩
abbrev y_next : MethodName := ⟨"LoanDesk", "next", "(III)Z"⟩
abbrev y_isReached : MethodName := ⟨"LoanDesk", "isReached", "(I)Z"⟩
abbrev y_holders : MethodName := ⟨"LoanDesk", "holders", "(II)I"⟩
abbrev y_used : MethodName := ⟨"LoanDesk", "used", "(I)I"⟩
abbrev y_isAlive : MethodName := ⟨"LoanDesk", "isAlive", "(II)Z"⟩
abbrev y_met : MethodName := ⟨"LoanDesk", "met", "(II)I"⟩
abbrev y_count : MethodName := ⟨"LoanDesk", "count", "(I)I"⟩
abbrev y_clear : MethodName := ⟨"LoanDesk", "clear", "()I"⟩
abbrev y_iG : MethodName := ⟨"LoanDesk$Graph", "<init>", "()V"⟩
abbrev y_iP : MethodName := ⟨"LoanDesk$Pile", "<init>", "()V"⟩
abbrev y_iR : MethodName := ⟨"LoanDesk$Reach", "<init>", "()V"⟩
abbrev y_iU : MethodName := ⟨"LoanDesk$Uses", "<init>", "()V"⟩
abbrev y_iH : MethodName := ⟨"LoanDesk$Holding", "<init>", "()V"⟩
abbrev y_iM : MethodName := ⟨"LoanDesk$Meetings", "<init>", "()V"⟩
abbrev y_iD : MethodName := ⟨"LoanDesk", "<init>", "()V"⟩
abbrev y_iF : MethodName := ⟨"LoanDeskModel", "<init>", "()V"⟩
abbrev y_fillI : MethodName := ⟨"java/util/Arrays", "fill", "([II)V"⟩
abbrev y_math_min : MethodName := ⟨"java/lang/Math", "min", "(II)I"⟩
abbrev y_fillJ : MethodName := ⟨"java/util/Arrays", "fill", "([JJ)V"⟩
abbrev y_math_max : MethodName := ⟨"java/lang/Math", "max", "(II)I"⟩
abbrev y_fpoint : MethodName := ⟨"LoanDeskModel", "point", "(IIII)I"⟩
abbrev y_fIsRef : MethodName := ⟨"LoanDeskModel", "isReference", "(I)Z"⟩
abbrev y_fIsPlace : MethodName := ⟨"LoanDeskModel", "isPlace", "(I)Z"⟩
abbrev y_fnext : MethodName := ⟨"LoanDeskModel", "next", "(III)Z"⟩
abbrev y_fIsReached : MethodName := ⟨"LoanDeskModel", "isReached", "(I)Z"⟩
abbrev y_flearn : MethodName := ⟨"LoanDeskModel", "learn", "()V"⟩
abbrev y_fforget : MethodName := ⟨"LoanDeskModel", "forget", "()V"⟩
abbrev y_fmeet : MethodName := ⟨"LoanDeskModel", "meet", "(II)V"⟩
abbrev y_fIsPoint : MethodName := ⟨"LoanDeskModel", "isPoint", "(I)Z"⟩
abbrev y_fIsUsed : MethodName := ⟨"LoanDeskModel", "isUsed", "(II)Z"⟩
abbrev y_fuses : MethodName := ⟨"LoanDeskModel", "uses", "(II)Z"⟩
abbrev y_fchanges : MethodName := ⟨"LoanDeskModel", "changes", "(II)Z"⟩
abbrev y_fgoAll : MethodName := ⟨"LoanDeskModel", "goAll", "(I)V"⟩
abbrev y_fthrough : MethodName := ⟨"LoanDeskModel", "through", "(II)V"⟩
abbrev y_fholders : MethodName := ⟨"LoanDeskModel", "holders", "(II)I"⟩
abbrev y_fused : MethodName := ⟨"LoanDeskModel", "used", "(I)I"⟩
abbrev y_fIsAlive : MethodName := ⟨"LoanDeskModel", "isAlive", "(II)Z"⟩
abbrev y_fmet : MethodName := ⟨"LoanDeskModel", "met", "(II)I"⟩
abbrev y_fmeets : MethodName := ⟨"LoanDeskModel", "meets", "(II)Z"⟩
abbrev y_foverlap : MethodName := ⟨"LoanDeskModel", "overlap", "(II)Z"⟩
abbrev y_fcount : MethodName := ⟨"LoanDeskModel", "count", "(I)I"⟩
abbrev y_fclear : MethodName := ⟨"LoanDeskModel", "clear", "()I"⟩
def bg_0 : List Cond := [Cond.selects "LoanDesk" y_forget y_forget, Cond.selects "LoanDesk" y_findWays y_findWays, Cond.selects "LoanDesk$Reach" y_arrive y_arrive, Cond.selects "LoanDesk$Uses" y_growAll y_growAll, Cond.selects "LoanDesk$Holding" y_pass y_pass, Cond.selects "LoanDesk$Holding" y_handOn y_handOn, Cond.selects "LoanDesk" y_findMeet y_findMeet, Cond.selects "LoanDesk" y_addMeet y_addMeet, Cond.selects "LoanDesk$Graph" y_isChange y_isChange, Cond.selects "LoanDesk$Graph" y_isLook y_isLook, Cond.selects "LoanDesk$Meetings" y_isAt y_isAt, Cond.selects "LoanDesk$Meetings" y_isAnyAt y_isAnyAt, Cond.selects "LoanDeskModel" y_flearn y_flearn, Cond.selects "LoanDeskModel" y_fforget y_fforget, Cond.selects "LoanDeskModel" y_fmeet y_fmeet, Cond.selects "LoanDeskModel" y_fIsPoint y_fIsPoint, Cond.selects "LoanDeskModel" y_fIsUsed y_fIsUsed, Cond.selects "LoanDeskModel" y_fuses y_fuses, Cond.selects "LoanDeskModel" y_fchanges y_fchanges, Cond.selects "LoanDeskModel" y_fgoAll y_fgoAll, Cond.selects "LoanDeskModel" y_fthrough y_fthrough, Cond.selects "LoanDeskModel" y_fmeets y_fmeets, Cond.initialized "LoanDeskLaw", Cond.initialized "LoanDesk", Cond.initialized "LoanDesk$Graph", Cond.initialized "LoanDesk$Reach", Cond.initialized "LoanDesk$Pile", Cond.initialized "LoanDesk$Uses", Cond.initialized "LoanDesk$Holding", Cond.initialized "LoanDesk$Meetings", Cond.initialized "LoanDeskModel", Cond.initialized "java/util/Arrays", Cond.initialized "java/lang/Math", Cond.classLink "LoanDeskLaw" 7 "LoanDesk", Cond.instantiable "LoanDesk" 7, Cond.methodLink "LoanDeskLaw" 9 y_iD, Cond.instanceMethod y_iD, Cond.code y_iD prog_1_method_1_code 1 none, Cond.methodLink "LoanDesk" 1 objectInit, Cond.instanceMethod objectInit, Cond.code objectInit object_method_1_code 1 none, Cond.classLink "LoanDesk" 7 "LoanDesk$Graph", Cond.instantiable "LoanDesk$Graph" 7, Cond.instanceMethod y_iG, Cond.code y_iG prog_2_method_1_code 1 none, Cond.methodLink "LoanDesk$Graph" 3 objectInit, Cond.fieldLink "LoanDesk$Graph" 9 "LoanDesk$Graph" "doings" "[I", Cond.fieldLink "LoanDesk$Graph" 15 "LoanDesk$Graph" "as" "[I", Cond.fieldLink "LoanDesk$Graph" 18 "LoanDesk$Graph" "bs" "[I", Cond.fieldLink "LoanDesk$Graph" 21 "LoanDesk$Graph" "cs" "[I"]
set_option maxRecDepth 100000 in
theorem bgi_0 : ∀ w ∈ bg_0, w ∈ lw_tbl := List.forall_mem_cons.mpr ⟨List.mem_of_getElem? (i := 0) rfl, List.forall_mem_cons.mpr ⟨List.mem_of_getElem? (i := 1) rfl, List.forall_mem_cons.mpr ⟨List.mem_of_getElem? (i := 2) rfl, List.forall_mem_cons.mpr ⟨List.mem_of_getElem? (i := 3) rfl, List.forall_mem_cons.mpr ⟨List.mem_of_getElem? (i := 4) rfl, List.forall_mem_cons.mpr ⟨List.mem_of_getElem? (i := 5) rfl, List.forall_mem_cons.mpr ⟨List.mem_of_getElem? (i := 6) rfl, List.forall_mem_cons.mpr ⟨List.mem_of_getElem? (i := 7) rfl, List.forall_mem_cons.mpr ⟨List.mem_of_getElem? (i := 8) rfl, List.forall_mem_cons.mpr ⟨List.mem_of_getElem? (i := 9) rfl, List.forall_mem_cons.mpr ⟨List.mem_of_getElem? (i := 10) rfl, List.forall_mem_cons.mpr ⟨List.mem_of_getElem? (i := 11) rfl, List.forall_mem_cons.mpr ⟨List.mem_of_getElem? (i := 12) rfl, List.forall_mem_cons.mpr ⟨List.mem_of_getElem? (i := 13) rfl, List.forall_mem_cons.mpr ⟨List.mem_of_getElem? (i := 14) rfl, List.forall_mem_cons.mpr ⟨List.mem_of_getElem? (i := 15) rfl, List.forall_mem_cons.mpr ⟨List.mem_of_getElem? (i := 16) rfl, List.forall_mem_cons.mpr ⟨List.mem_of_getElem? (i := 17) rfl, List.forall_mem_cons.mpr ⟨List.mem_of_getElem? (i := 18) rfl, List.forall_mem_cons.mpr ⟨List.mem_of_getElem? (i := 19) rfl, List.forall_mem_cons.mpr ⟨List.mem_of_getElem? (i := 20) rfl, List.forall_mem_cons.mpr ⟨List.mem_of_getElem? (i := 21) rfl, List.forall_mem_cons.mpr ⟨List.mem_of_getElem? (i := 22) rfl, List.forall_mem_cons.mpr ⟨List.mem_of_getElem? (i := 23) rfl, List.forall_mem_cons.mpr ⟨List.mem_of_getElem? (i := 24) rfl, List.forall_mem_cons.mpr ⟨List.mem_of_getElem? (i := 25) rfl, List.forall_mem_cons.mpr ⟨List.mem_of_getElem? (i := 26) rfl, List.forall_mem_cons.mpr ⟨List.mem_of_getElem? (i := 27) rfl, List.forall_mem_cons.mpr ⟨List.mem_of_getElem? (i := 28) rfl, List.forall_mem_cons.mpr ⟨List.mem_of_getElem? (i := 29) rfl, List.forall_mem_cons.mpr ⟨List.mem_of_getElem? (i := 30) rfl, List.forall_mem_cons.mpr ⟨List.mem_of_getElem? (i := 31) rfl, List.forall_mem_cons.mpr ⟨List.mem_of_getElem? (i := 32) rfl, List.forall_mem_cons.mpr ⟨List.mem_of_getElem? (i := 33) rfl, List.forall_mem_cons.mpr ⟨List.mem_of_getElem? (i := 34) rfl, List.forall_mem_cons.mpr ⟨List.mem_of_getElem? (i := 35) rfl, List.forall_mem_cons.mpr ⟨List.mem_of_getElem? (i := 36) rfl, List.forall_mem_cons.mpr ⟨List.mem_of_getElem? (i := 37) rfl, List.forall_mem_cons.mpr ⟨List.mem_of_getElem? (i := 38) rfl, List.forall_mem_cons.mpr ⟨List.mem_of_getElem? (i := 39) rfl, List.forall_mem_cons.mpr ⟨List.mem_of_getElem? (i := 40) rfl, List.forall_mem_cons.mpr ⟨List.mem_of_getElem? (i := 41) rfl, List.forall_mem_cons.mpr ⟨List.mem_of_getElem? (i := 42) rfl, List.forall_mem_cons.mpr ⟨List.mem_of_getElem? (i := 44) rfl, List.forall_mem_cons.mpr ⟨List.mem_of_getElem? (i := 45) rfl, List.forall_mem_cons.mpr ⟨List.mem_of_getElem? (i := 46) rfl, List.forall_mem_cons.mpr ⟨List.mem_of_getElem? (i := 47) rfl, List.forall_mem_cons.mpr ⟨List.mem_of_getElem? (i := 48) rfl, List.forall_mem_cons.mpr ⟨List.mem_of_getElem? (i := 49) rfl, List.forall_mem_cons.mpr ⟨List.mem_of_getElem? (i := 50) rfl, List.forall_mem_nil _⟩⟩⟩⟩⟩⟩⟩⟩⟩⟩⟩⟩⟩⟩⟩⟩⟩⟩⟩⟩⟩⟩⟩⟩⟩⟩⟩⟩⟩⟩⟩⟩⟩⟩⟩⟩⟩⟩⟩⟩⟩⟩⟩⟩⟩⟩⟩⟩⟩⟩
theorem bgd_0 : ∀ w ∈ bg_0, goodWord w = true := List.all_eq_true.mp (by decide +kernel)
def bg_1 : List Cond := [Cond.fieldLink "LoanDesk$Graph" 24 "LoanDesk$Graph" "xs" "[I", Cond.fieldLink "LoanDesk$Graph" 27 "LoanDesk$Graph" "ys" "[I", Cond.fieldLink "LoanDesk$Graph" 30 "LoanDesk$Graph" "size" "I", Cond.laysFinal "LoanDesk$Graph" "LoanDesk$Graph" "doings" "[I", Cond.laysFinal "LoanDesk$Graph" "LoanDesk$Graph" "as" "[I", Cond.laysFinal "LoanDesk$Graph" "LoanDesk$Graph" "bs" "[I", Cond.laysFinal "LoanDesk$Graph" "LoanDesk$Graph" "cs" "[I", Cond.laysFinal "LoanDesk$Graph" "LoanDesk$Graph" "xs" "[I", Cond.laysFinal "LoanDesk$Graph" "LoanDesk$Graph" "ys" "[I", Cond.lays "LoanDesk$Graph" "LoanDesk$Graph" "size" "I", Cond.arrayClass .int, Cond.classLink "LoanDesk" 16 "LoanDesk$Reach", Cond.instantiable "LoanDesk$Reach" 2, Cond.instanceMethod y_iR, Cond.code y_iR prog_6_method_1_code 1 none, Cond.methodLink "LoanDesk$Reach" 3 objectInit, Cond.classLink "LoanDesk$Reach" 15 "LoanDesk$Pile", Cond.instantiable "LoanDesk$Pile" 3, Cond.instanceMethod y_iP, Cond.code y_iP prog_5_method_1_code 1 none, Cond.methodLink "LoanDesk$Pile" 3 objectInit, Cond.fieldLink "LoanDesk$Pile" 9 "LoanDesk$Pile" "points" "[I", Cond.fieldLink "LoanDesk$Pile" 15 "LoanDesk$Pile" "isIn" "[Z", Cond.fieldLink "LoanDesk$Pile" 19 "LoanDesk$Pile" "size" "I", Cond.laysFinal "LoanDesk$Pile" "LoanDesk$Pile" "points" "[I", Cond.laysFinal "LoanDesk$Pile" "LoanDesk$Pile" "isIn" "[Z", Cond.lays "LoanDesk$Pile" "LoanDesk$Pile" "size" "I", Cond.arrayClass .boolean, Cond.fieldLink "LoanDesk$Reach" 9 "LoanDesk$Reach" "reached" "[I", Cond.fieldLink "LoanDesk$Reach" 18 "LoanDesk$Reach" "pile" "LLoanDesk$Pile;", Cond.laysFinal "LoanDesk$Reach" "LoanDesk$Reach" "reached" "[I", Cond.laysFinal "LoanDesk$Reach" "LoanDesk$Reach" "pile" "LLoanDesk$Pile;", Cond.classLink "LoanDesk" 23 "LoanDesk$Uses", Cond.instantiable "LoanDesk$Uses" 1, Cond.instanceMethod y_iU, Cond.code y_iU prog_7_method_1_code 1 none, Cond.methodLink "LoanDesk$Uses" 3 objectInit, Cond.fieldLink "LoanDesk$Uses" 9 "LoanDesk$Uses" "later" "[I", Cond.laysFinal "LoanDesk$Uses" "LoanDesk$Uses" "later" "[I", Cond.classLink "LoanDesk" 30 "LoanDesk$Holding", Cond.instantiable "LoanDesk$Holding" 3, Cond.instanceMethod y_iH, Cond.code y_iH prog_3_method_1_code 1 none, Cond.methodLink "LoanDesk$Holding" 3 objectInit, Cond.classLink "LoanDesk$Holding" 18 "LoanDesk$Pile", Cond.fieldLink "LoanDesk$Holding" 9 "LoanDesk$Holding" "ahead" "[I", Cond.fieldLink "LoanDesk$Holding" 15 "LoanDesk$Holding" "behind" "[I", Cond.fieldLink "LoanDesk$Holding" 21 "LoanDesk$Holding" "pile" "LLoanDesk$Pile;", Cond.laysFinal "LoanDesk$Holding" "LoanDesk$Holding" "ahead" "[I", Cond.laysFinal "LoanDesk$Holding" "LoanDesk$Holding" "behind" "[I"]
set_option maxRecDepth 100000 in
theorem bgi_1 : ∀ w ∈ bg_1, w ∈ lw_tbl := List.forall_mem_cons.mpr ⟨List.mem_of_getElem? (i := 51) rfl, List.forall_mem_cons.mpr ⟨List.mem_of_getElem? (i := 52) rfl, List.forall_mem_cons.mpr ⟨List.mem_of_getElem? (i := 53) rfl, List.forall_mem_cons.mpr ⟨List.mem_of_getElem? (i := 54) rfl, List.forall_mem_cons.mpr ⟨List.mem_of_getElem? (i := 56) rfl, List.forall_mem_cons.mpr ⟨List.mem_of_getElem? (i := 58) rfl, List.forall_mem_cons.mpr ⟨List.mem_of_getElem? (i := 60) rfl, List.forall_mem_cons.mpr ⟨List.mem_of_getElem? (i := 62) rfl, List.forall_mem_cons.mpr ⟨List.mem_of_getElem? (i := 64) rfl, List.forall_mem_cons.mpr ⟨List.mem_of_getElem? (i := 66) rfl, List.forall_mem_cons.mpr ⟨List.mem_of_getElem? (i := 69) rfl, List.forall_mem_cons.mpr ⟨List.mem_of_getElem? (i := 70) rfl, List.forall_mem_cons.mpr ⟨List.mem_of_getElem? (i := 71) rfl, List.forall_mem_cons.mpr ⟨List.mem_of_getElem? (i := 73) rfl, List.forall_mem_cons.mpr ⟨List.mem_of_getElem? (i := 74) rfl, List.forall_mem_cons.mpr ⟨List.mem_of_getElem? (i := 75) rfl, List.forall_mem_cons.mpr ⟨List.mem_of_getElem? (i := 76) rfl, List.forall_mem_cons.mpr ⟨List.mem_of_getElem? (i := 77) rfl, List.forall_mem_cons.mpr ⟨List.mem_of_getElem? (i := 79) rfl, List.forall_mem_cons.mpr ⟨List.mem_of_getElem? (i := 80) rfl, List.forall_mem_cons.mpr ⟨List.mem_of_getElem? (i := 81) rfl, List.forall_mem_cons.mpr ⟨List.mem_of_getElem? (i := 82) rfl, List.forall_mem_cons.mpr ⟨List.mem_of_getElem? (i := 83) rfl, List.forall_mem_cons.mpr ⟨List.mem_of_getElem? (i := 84) rfl, List.forall_mem_cons.mpr ⟨List.mem_of_getElem? (i := 85) rfl, List.forall_mem_cons.mpr ⟨List.mem_of_getElem? (i := 87) rfl, List.forall_mem_cons.mpr ⟨List.mem_of_getElem? (i := 89) rfl, List.forall_mem_cons.mpr ⟨List.mem_of_getElem? (i := 92) rfl, List.forall_mem_cons.mpr ⟨List.mem_of_getElem? (i := 93) rfl, List.forall_mem_cons.mpr ⟨List.mem_of_getElem? (i := 94) rfl, List.forall_mem_cons.mpr ⟨List.mem_of_getElem? (i := 95) rfl, List.forall_mem_cons.mpr ⟨List.mem_of_getElem? (i := 97) rfl, List.forall_mem_cons.mpr ⟨List.mem_of_getElem? (i := 100) rfl, List.forall_mem_cons.mpr ⟨List.mem_of_getElem? (i := 101) rfl, List.forall_mem_cons.mpr ⟨List.mem_of_getElem? (i := 103) rfl, List.forall_mem_cons.mpr ⟨List.mem_of_getElem? (i := 104) rfl, List.forall_mem_cons.mpr ⟨List.mem_of_getElem? (i := 105) rfl, List.forall_mem_cons.mpr ⟨List.mem_of_getElem? (i := 106) rfl, List.forall_mem_cons.mpr ⟨List.mem_of_getElem? (i := 107) rfl, List.forall_mem_cons.mpr ⟨List.mem_of_getElem? (i := 110) rfl, List.forall_mem_cons.mpr ⟨List.mem_of_getElem? (i := 111) rfl, List.forall_mem_cons.mpr ⟨List.mem_of_getElem? (i := 113) rfl, List.forall_mem_cons.mpr ⟨List.mem_of_getElem? (i := 114) rfl, List.forall_mem_cons.mpr ⟨List.mem_of_getElem? (i := 115) rfl, List.forall_mem_cons.mpr ⟨List.mem_of_getElem? (i := 116) rfl, List.forall_mem_cons.mpr ⟨List.mem_of_getElem? (i := 118) rfl, List.forall_mem_cons.mpr ⟨List.mem_of_getElem? (i := 119) rfl, List.forall_mem_cons.mpr ⟨List.mem_of_getElem? (i := 120) rfl, List.forall_mem_cons.mpr ⟨List.mem_of_getElem? (i := 121) rfl, List.forall_mem_cons.mpr ⟨List.mem_of_getElem? (i := 123) rfl, List.forall_mem_nil _⟩⟩⟩⟩⟩⟩⟩⟩⟩⟩⟩⟩⟩⟩⟩⟩⟩⟩⟩⟩⟩⟩⟩⟩⟩⟩⟩⟩⟩⟩⟩⟩⟩⟩⟩⟩⟩⟩⟩⟩⟩⟩⟩⟩⟩⟩⟩⟩⟩⟩
theorem bgd_1 : ∀ w ∈ bg_1, goodWord w = true := List.all_eq_true.mp (by decide +kernel)
def bg_2 : List Cond := [Cond.laysFinal "LoanDesk$Holding" "LoanDesk$Holding" "pile" "LLoanDesk$Pile;", Cond.classLink "LoanDesk" 37 "LoanDesk$Meetings", Cond.instantiable "LoanDesk$Meetings" 1, Cond.instanceMethod y_iM, Cond.code y_iM prog_4_method_1_code 1 none, Cond.methodLink "LoanDesk$Meetings" 3 objectInit, Cond.fieldLink "LoanDesk$Meetings" 9 "LoanDesk$Meetings" "words" "[J", Cond.laysFinal "LoanDesk$Meetings" "LoanDesk$Meetings" "words" "[J", Cond.arrayClass .long, Cond.fieldLink "LoanDesk" 10 "LoanDesk" "graph" "LLoanDesk$Graph;", Cond.fieldLink "LoanDesk" 19 "LoanDesk" "reach" "LLoanDesk$Reach;", Cond.fieldLink "LoanDesk" 26 "LoanDesk" "uses" "LLoanDesk$Uses;", Cond.fieldLink "LoanDesk" 33 "LoanDesk" "holding" "LLoanDesk$Holding;", Cond.fieldLink "LoanDesk" 40 "LoanDesk" "meetings" "LLoanDesk$Meetings;", Cond.fieldLink "LoanDesk" 44 "LoanDesk" "waysKnown" "Z", Cond.fieldLink "LoanDesk" 48 "LoanDesk" "meetingsKnown" "Z", Cond.laysFinal "LoanDesk" "LoanDesk" "graph" "LLoanDesk$Graph;", Cond.laysFinal "LoanDesk" "LoanDesk" "reach" "LLoanDesk$Reach;", Cond.laysFinal "LoanDesk" "LoanDesk" "uses" "LLoanDesk$Uses;", Cond.laysFinal "LoanDesk" "LoanDesk" "holding" "LLoanDesk$Holding;", Cond.laysFinal "LoanDesk" "LoanDesk" "meetings" "LLoanDesk$Meetings;", Cond.lays "LoanDesk" "LoanDesk" "waysKnown" "Z", Cond.lays "LoanDesk" "LoanDesk" "meetingsKnown" "Z", Cond.methodLink "LoanDeskLaw" 13 y_point, Cond.instanceMethod y_point, Cond.selects "LoanDesk" y_point y_point, Cond.code y_point prog_1_method_2_code 5 (some .int), Cond.methodLink "LoanDesk" 51 y_isDoing, Cond.static y_isDoing, Cond.code y_isDoing prog_1_method_11_code 4 (some .boolean), Cond.methodLink "LoanDesk" 125 y_isRef, Cond.static y_isRef, Cond.code y_isRef prog_1_method_12_code 1 (some .boolean), Cond.methodLink "LoanDesk" 128 y_isPlace, Cond.static y_isPlace, Cond.code y_isPlace prog_1_method_13_code 3 (some .boolean), Cond.methodLink "LoanDesk" 55 y_hasRoom, Cond.instanceMethod y_hasRoom, Cond.selects "LoanDesk$Graph" y_hasRoom y_hasRoom, Cond.code y_hasRoom prog_2_method_3_code 1 (some .boolean), Cond.methodLink "LoanDesk" 59 y_forget, Cond.instanceMethod y_forget, Cond.code y_forget prog_1_method_16_code 1 none, Cond.methodLink "LoanDesk" 62 y_add, Cond.instanceMethod y_add, Cond.selects "LoanDesk$Graph" y_add y_add, Cond.code y_add prog_2_method_7_code 6 (some .int), Cond.methodLink "LoanDesk$Graph" 41 y_hasRoom, Cond.methodLink "LoanDeskLaw" 18 y_next, Cond.instanceMethod y_next]
set_option maxRecDepth 100000 in
theorem bgi_2 : ∀ w ∈ bg_2, w ∈ lw_tbl := List.forall_mem_cons.mpr ⟨List.mem_of_getElem? (i := 125) rfl, List.forall_mem_cons.mpr ⟨List.mem_of_getElem? (i := 128) rfl, List.forall_mem_cons.mpr ⟨List.mem_of_getElem? (i := 129) rfl, List.forall_mem_cons.mpr ⟨List.mem_of_getElem? (i := 131) rfl, List.forall_mem_cons.mpr ⟨List.mem_of_getElem? (i := 132) rfl, List.forall_mem_cons.mpr ⟨List.mem_of_getElem? (i := 133) rfl, List.forall_mem_cons.mpr ⟨List.mem_of_getElem? (i := 134) rfl, List.forall_mem_cons.mpr ⟨List.mem_of_getElem? (i := 135) rfl, List.forall_mem_cons.mpr ⟨List.mem_of_getElem? (i := 138) rfl, List.forall_mem_cons.mpr ⟨List.mem_of_getElem? (i := 139) rfl, List.forall_mem_cons.mpr ⟨List.mem_of_getElem? (i := 140) rfl, List.forall_mem_cons.mpr ⟨List.mem_of_getElem? (i := 141) rfl, List.forall_mem_cons.mpr ⟨List.mem_of_getElem? (i := 142) rfl, List.forall_mem_cons.mpr ⟨List.mem_of_getElem? (i := 143) rfl, List.forall_mem_cons.mpr ⟨List.mem_of_getElem? (i := 144) rfl, List.forall_mem_cons.mpr ⟨List.mem_of_getElem? (i := 145) rfl, List.forall_mem_cons.mpr ⟨List.mem_of_getElem? (i := 146) rfl, List.forall_mem_cons.mpr ⟨List.mem_of_getElem? (i := 148) rfl, List.forall_mem_cons.mpr ⟨List.mem_of_getElem? (i := 150) rfl, List.forall_mem_cons.mpr ⟨List.mem_of_getElem? (i := 152) rfl, List.forall_mem_cons.mpr ⟨List.mem_of_getElem? (i := 154) rfl, List.forall_mem_cons.mpr ⟨List.mem_of_getElem? (i := 156) rfl, List.forall_mem_cons.mpr ⟨List.mem_of_getElem? (i := 158) rfl, List.forall_mem_cons.mpr ⟨List.mem_of_getElem? (i := 161) rfl, List.forall_mem_cons.mpr ⟨List.mem_of_getElem? (i := 162) rfl, List.forall_mem_cons.mpr ⟨List.mem_of_getElem? (i := 163) rfl, List.forall_mem_cons.mpr ⟨List.mem_of_getElem? (i := 164) rfl, List.forall_mem_cons.mpr ⟨List.mem_of_getElem? (i := 165) rfl, List.forall_mem_cons.mpr ⟨List.mem_of_getElem? (i := 166) rfl, List.forall_mem_cons.mpr ⟨List.mem_of_getElem? (i := 167) rfl, List.forall_mem_cons.mpr ⟨List.mem_of_getElem? (i := 168) rfl, List.forall_mem_cons.mpr ⟨List.mem_of_getElem? (i := 169) rfl, List.forall_mem_cons.mpr ⟨List.mem_of_getElem? (i := 170) rfl, List.forall_mem_cons.mpr ⟨List.mem_of_getElem? (i := 171) rfl, List.forall_mem_cons.mpr ⟨List.mem_of_getElem? (i := 172) rfl, List.forall_mem_cons.mpr ⟨List.mem_of_getElem? (i := 173) rfl, List.forall_mem_cons.mpr ⟨List.mem_of_getElem? (i := 174) rfl, List.forall_mem_cons.mpr ⟨List.mem_of_getElem? (i := 175) rfl, List.forall_mem_cons.mpr ⟨List.mem_of_getElem? (i := 176) rfl, List.forall_mem_cons.mpr ⟨List.mem_of_getElem? (i := 177) rfl, List.forall_mem_cons.mpr ⟨List.mem_of_getElem? (i := 178) rfl, List.forall_mem_cons.mpr ⟨List.mem_of_getElem? (i := 180) rfl, List.forall_mem_cons.mpr ⟨List.mem_of_getElem? (i := 181) rfl, List.forall_mem_cons.mpr ⟨List.mem_of_getElem? (i := 182) rfl, List.forall_mem_cons.mpr ⟨List.mem_of_getElem? (i := 183) rfl, List.forall_mem_cons.mpr ⟨List.mem_of_getElem? (i := 184) rfl, List.forall_mem_cons.mpr ⟨List.mem_of_getElem? (i := 185) rfl, List.forall_mem_cons.mpr ⟨List.mem_of_getElem? (i := 186) rfl, List.forall_mem_cons.mpr ⟨List.mem_of_getElem? (i := 187) rfl, List.forall_mem_cons.mpr ⟨List.mem_of_getElem? (i := 188) rfl, List.forall_mem_nil _⟩⟩⟩⟩⟩⟩⟩⟩⟩⟩⟩⟩⟩⟩⟩⟩⟩⟩⟩⟩⟩⟩⟩⟩⟩⟩⟩⟩⟩⟩⟩⟩⟩⟩⟩⟩⟩⟩⟩⟩⟩⟩⟩⟩⟩⟩⟩⟩⟩⟩
theorem bgd_2 : ∀ w ∈ bg_2, goodWord w = true := List.all_eq_true.mp (by decide +kernel)
def bg_3 : List Cond := [Cond.selects "LoanDesk" y_next y_next, Cond.code y_next prog_1_method_3_code 4 (some .boolean), Cond.methodLink "LoanDesk" 66 y_isPoint, Cond.instanceMethod y_isPoint, Cond.selects "LoanDesk$Graph" y_isPoint y_isPoint, Cond.code y_isPoint prog_2_method_4_code 2 (some .boolean), Cond.methodLink "LoanDesk" 70 y_isNext, Cond.static y_isNext, Cond.code y_isNext prog_1_method_14_code 1 (some .boolean), Cond.methodLink "LoanDesk" 131 y_isIndex, Cond.static y_isIndex, Cond.code y_isIndex prog_1_method_15_code 1 (some .boolean), Cond.methodLink "LoanDesk" 73 y_tellNext, Cond.instanceMethod y_tellNext, Cond.selects "LoanDesk$Graph" y_tellNext y_tellNext, Cond.code y_tellNext prog_2_method_8_code 4 none, Cond.methodLink "LoanDesk$Graph" 34 y_isPoint, Cond.methodLink "LoanDeskLaw" 23 y_isReached, Cond.instanceMethod y_isReached, Cond.selects "LoanDesk" y_isReached y_isReached, Cond.code y_isReached prog_1_method_4_code 2 (some .boolean), Cond.methodLink "LoanDesk" 77 y_findWays, Cond.instanceMethod y_findWays, Cond.code y_findWays prog_1_method_17_code 1 none, Cond.methodLink "LoanDesk" 134 y_rfind, Cond.instanceMethod y_rfind, Cond.selects "LoanDesk$Reach" y_rfind y_rfind, Cond.code y_rfind prog_6_method_4_code 4 none, Cond.methodLink "LoanDesk$Reach" 26 y_fillI, Cond.static y_fillI, Cond.code y_fillI prog_11_method_103_code 4 none, Cond.methodLink "LoanDesk$Reach" 32 y_arrive, Cond.instanceMethod y_arrive, Cond.code y_arrive prog_6_method_5_code 3 none, Cond.methodLink "LoanDesk$Reach" 53 y_isPoint, Cond.methodLink "LoanDesk$Reach" 56 y_comesTo, Cond.instanceMethod y_comesTo, Cond.selects "LoanDesk$Reach" y_comesTo y_comesTo, Cond.code y_comesTo prog_6_method_2_code 2 (some .boolean), Cond.methodLink "LoanDesk$Reach" 59 y_put, Cond.instanceMethod y_put, Cond.selects "LoanDesk$Pile" y_put y_put, Cond.code y_put prog_5_method_3_code 2 none, Cond.methodLink "LoanDesk$Reach" 36 y_pEmpty, Cond.instanceMethod y_pEmpty, Cond.selects "LoanDesk$Pile" y_pEmpty y_pEmpty, Cond.code y_pEmpty prog_5_method_2_code 1 (some .boolean), Cond.methodLink "LoanDesk$Reach" 40 y_take, Cond.instanceMethod y_take, Cond.selects "LoanDesk$Pile" y_take y_take]
set_option maxRecDepth 100000 in
theorem bgi_3 : ∀ w ∈ bg_3, w ∈ lw_tbl := List.forall_mem_cons.mpr ⟨List.mem_of_getElem? (i := 189) rfl, List.forall_mem_cons.mpr ⟨List.mem_of_getElem? (i := 190) rfl, List.forall_mem_cons.mpr ⟨List.mem_of_getElem? (i := 191) rfl, List.forall_mem_cons.mpr ⟨List.mem_of_getElem? (i := 192) rfl, List.forall_mem_cons.mpr ⟨List.mem_of_getElem? (i := 193) rfl, List.forall_mem_cons.mpr ⟨List.mem_of_getElem? (i := 194) rfl, List.forall_mem_cons.mpr ⟨List.mem_of_getElem? (i := 195) rfl, List.forall_mem_cons.mpr ⟨List.mem_of_getElem? (i := 196) rfl, List.forall_mem_cons.mpr ⟨List.mem_of_getElem? (i := 197) rfl, List.forall_mem_cons.mpr ⟨List.mem_of_getElem? (i := 198) rfl, List.forall_mem_cons.mpr ⟨List.mem_of_getElem? (i := 199) rfl, List.forall_mem_cons.mpr ⟨List.mem_of_getElem? (i := 200) rfl, List.forall_mem_cons.mpr ⟨List.mem_of_getElem? (i := 201) rfl, List.forall_mem_cons.mpr ⟨List.mem_of_getElem? (i := 202) rfl, List.forall_mem_cons.mpr ⟨List.mem_of_getElem? (i := 203) rfl, List.forall_mem_cons.mpr ⟨List.mem_of_getElem? (i := 204) rfl, List.forall_mem_cons.mpr ⟨List.mem_of_getElem? (i := 205) rfl, List.forall_mem_cons.mpr ⟨List.mem_of_getElem? (i := 206) rfl, List.forall_mem_cons.mpr ⟨List.mem_of_getElem? (i := 207) rfl, List.forall_mem_cons.mpr ⟨List.mem_of_getElem? (i := 208) rfl, List.forall_mem_cons.mpr ⟨List.mem_of_getElem? (i := 209) rfl, List.forall_mem_cons.mpr ⟨List.mem_of_getElem? (i := 210) rfl, List.forall_mem_cons.mpr ⟨List.mem_of_getElem? (i := 212) rfl, List.forall_mem_cons.mpr ⟨List.mem_of_getElem? (i := 213) rfl, List.forall_mem_cons.mpr ⟨List.mem_of_getElem? (i := 214) rfl, List.forall_mem_cons.mpr ⟨List.mem_of_getElem? (i := 215) rfl, List.forall_mem_cons.mpr ⟨List.mem_of_getElem? (i := 216) rfl, List.forall_mem_cons.mpr ⟨List.mem_of_getElem? (i := 217) rfl, List.forall_mem_cons.mpr ⟨List.mem_of_getElem? (i := 218) rfl, List.forall_mem_cons.mpr ⟨List.mem_of_getElem? (i := 219) rfl, List.forall_mem_cons.mpr ⟨List.mem_of_getElem? (i := 220) rfl, List.forall_mem_cons.mpr ⟨List.mem_of_getElem? (i := 221) rfl, List.forall_mem_cons.mpr ⟨List.mem_of_getElem? (i := 223) rfl, List.forall_mem_cons.mpr ⟨List.mem_of_getElem? (i := 224) rfl, List.forall_mem_cons.mpr ⟨List.mem_of_getElem? (i := 225) rfl, List.forall_mem_cons.mpr ⟨List.mem_of_getElem? (i := 226) rfl, List.forall_mem_cons.mpr ⟨List.mem_of_getElem? (i := 227) rfl, List.forall_mem_cons.mpr ⟨List.mem_of_getElem? (i := 228) rfl, List.forall_mem_cons.mpr ⟨List.mem_of_getElem? (i := 229) rfl, List.forall_mem_cons.mpr ⟨List.mem_of_getElem? (i := 231) rfl, List.forall_mem_cons.mpr ⟨List.mem_of_getElem? (i := 232) rfl, List.forall_mem_cons.mpr ⟨List.mem_of_getElem? (i := 233) rfl, List.forall_mem_cons.mpr ⟨List.mem_of_getElem? (i := 234) rfl, List.forall_mem_cons.mpr ⟨List.mem_of_getElem? (i := 236) rfl, List.forall_mem_cons.mpr ⟨List.mem_of_getElem? (i := 237) rfl, List.forall_mem_cons.mpr ⟨List.mem_of_getElem? (i := 238) rfl, List.forall_mem_cons.mpr ⟨List.mem_of_getElem? (i := 239) rfl, List.forall_mem_cons.mpr ⟨List.mem_of_getElem? (i := 240) rfl, List.forall_mem_cons.mpr ⟨List.mem_of_getElem? (i := 241) rfl, List.forall_mem_cons.mpr ⟨List.mem_of_getElem? (i := 242) rfl, List.forall_mem_nil _⟩⟩⟩⟩⟩⟩⟩⟩⟩⟩⟩⟩⟩⟩⟩⟩⟩⟩⟩⟩⟩⟩⟩⟩⟩⟩⟩⟩⟩⟩⟩⟩⟩⟩⟩⟩⟩⟩⟩⟩⟩⟩⟩⟩⟩⟩⟩⟩⟩⟩
theorem bgd_3 : ∀ w ∈ bg_3, goodWord w = true := List.all_eq_true.mp (by decide +kernel)
def bg_4 : List Cond := [Cond.code y_take prog_5_method_4_code 2 (some .int), Cond.methodLink "LoanDesk$Reach" 44 y_firstNext, Cond.instanceMethod y_firstNext, Cond.selects "LoanDesk$Graph" y_firstNext y_firstNext, Cond.code y_firstNext prog_2_method_10_code 2 (some .int), Cond.methodLink "LoanDesk$Reach" 50 y_secondNext, Cond.instanceMethod y_secondNext, Cond.selects "LoanDesk$Graph" y_secondNext y_secondNext, Cond.code y_secondNext prog_2_method_11_code 2 (some .int), Cond.methodLink "LoanDesk" 138 y_ufind, Cond.instanceMethod y_ufind, Cond.selects "LoanDesk$Uses" y_ufind y_ufind, Cond.code y_ufind prog_7_method_3_code 4 none, Cond.methodLink "LoanDesk$Uses" 19 y_fillI, Cond.methodLink "LoanDesk$Uses" 25 y_growAll, Cond.instanceMethod y_growAll, Cond.code y_growAll prog_7_method_4_code 7 (some .boolean), Cond.methodLink "LoanDesk$Uses" 29 y_gsize, Cond.instanceMethod y_gsize, Cond.selects "LoanDesk$Graph" y_gsize y_gsize, Cond.code y_gsize prog_2_method_2_code 1 (some .int), Cond.methodLink "LoanDesk$Uses" 35 y_math_min, Cond.static y_math_min, Cond.code y_math_min prog_10_method_69_code 2 (some .int), Cond.methodLink "LoanDesk$Uses" 41 y_firstNext, Cond.methodLink "LoanDesk$Uses" 45 y_secondNext, Cond.methodLink "LoanDesk$Uses" 48 y_ubehind, Cond.instanceMethod y_ubehind, Cond.selects "LoanDesk$Uses" y_ubehind y_ubehind, Cond.code y_ubehind prog_7_method_2_code 2 (some .int), Cond.methodLink "LoanDesk$Uses" 51 y_usedFrom, Cond.instanceMethod y_usedFrom, Cond.selects "LoanDesk$Graph" y_usedFrom y_usedFrom, Cond.code y_usedFrom prog_2_method_14_code 3 (some .int), Cond.methodLink "LoanDesk" 80 y_comesTo, Cond.methodLink "LoanDeskLaw" 28 y_holders, Cond.instanceMethod y_holders, Cond.selects "LoanDesk" y_holders y_holders, Cond.code y_holders prog_1_method_5_code 3 (some .int), Cond.methodLink "LoanDesk" 83 y_isLoan, Cond.instanceMethod y_isLoan, Cond.selects "LoanDesk$Graph" y_isLoan y_isLoan, Cond.code y_isLoan prog_2_method_5_code 2 (some .boolean), Cond.methodLink "LoanDesk" 86 y_follow, Cond.instanceMethod y_follow, Cond.selects "LoanDesk$Holding" y_follow y_follow, Cond.code y_follow prog_3_method_3_code 4 none, Cond.methodLink "LoanDesk$Holding" 29 y_fillI, Cond.methodLink "LoanDesk$Holding" 35 y_put, Cond.methodLink "LoanDesk$Holding" 39 y_pEmpty]
set_option maxRecDepth 100000 in
theorem bgi_4 : ∀ w ∈ bg_4, w ∈ lw_tbl := List.forall_mem_cons.mpr ⟨List.mem_of_getElem? (i := 243) rfl, List.forall_mem_cons.mpr ⟨List.mem_of_getElem? (i := 244) rfl, List.forall_mem_cons.mpr ⟨List.mem_of_getElem? (i := 245) rfl, List.forall_mem_cons.mpr ⟨List.mem_of_getElem? (i := 246) rfl, List.forall_mem_cons.mpr ⟨List.mem_of_getElem? (i := 247) rfl, List.forall_mem_cons.mpr ⟨List.mem_of_getElem? (i := 248) rfl, List.forall_mem_cons.mpr ⟨List.mem_of_getElem? (i := 249) rfl, List.forall_mem_cons.mpr ⟨List.mem_of_getElem? (i := 250) rfl, List.forall_mem_cons.mpr ⟨List.mem_of_getElem? (i := 251) rfl, List.forall_mem_cons.mpr ⟨List.mem_of_getElem? (i := 252) rfl, List.forall_mem_cons.mpr ⟨List.mem_of_getElem? (i := 253) rfl, List.forall_mem_cons.mpr ⟨List.mem_of_getElem? (i := 254) rfl, List.forall_mem_cons.mpr ⟨List.mem_of_getElem? (i := 255) rfl, List.forall_mem_cons.mpr ⟨List.mem_of_getElem? (i := 256) rfl, List.forall_mem_cons.mpr ⟨List.mem_of_getElem? (i := 257) rfl, List.forall_mem_cons.mpr ⟨List.mem_of_getElem? (i := 259) rfl, List.forall_mem_cons.mpr ⟨List.mem_of_getElem? (i := 260) rfl, List.forall_mem_cons.mpr ⟨List.mem_of_getElem? (i := 261) rfl, List.forall_mem_cons.mpr ⟨List.mem_of_getElem? (i := 262) rfl, List.forall_mem_cons.mpr ⟨List.mem_of_getElem? (i := 263) rfl, List.forall_mem_cons.mpr ⟨List.mem_of_getElem? (i := 264) rfl, List.forall_mem_cons.mpr ⟨List.mem_of_getElem? (i := 265) rfl, List.forall_mem_cons.mpr ⟨List.mem_of_getElem? (i := 266) rfl, List.forall_mem_cons.mpr ⟨List.mem_of_getElem? (i := 267) rfl, List.forall_mem_cons.mpr ⟨List.mem_of_getElem? (i := 268) rfl, List.forall_mem_cons.mpr ⟨List.mem_of_getElem? (i := 269) rfl, List.forall_mem_cons.mpr ⟨List.mem_of_getElem? (i := 270) rfl, List.forall_mem_cons.mpr ⟨List.mem_of_getElem? (i := 271) rfl, List.forall_mem_cons.mpr ⟨List.mem_of_getElem? (i := 272) rfl, List.forall_mem_cons.mpr ⟨List.mem_of_getElem? (i := 273) rfl, List.forall_mem_cons.mpr ⟨List.mem_of_getElem? (i := 275) rfl, List.forall_mem_cons.mpr ⟨List.mem_of_getElem? (i := 276) rfl, List.forall_mem_cons.mpr ⟨List.mem_of_getElem? (i := 277) rfl, List.forall_mem_cons.mpr ⟨List.mem_of_getElem? (i := 278) rfl, List.forall_mem_cons.mpr ⟨List.mem_of_getElem? (i := 279) rfl, List.forall_mem_cons.mpr ⟨List.mem_of_getElem? (i := 280) rfl, List.forall_mem_cons.mpr ⟨List.mem_of_getElem? (i := 281) rfl, List.forall_mem_cons.mpr ⟨List.mem_of_getElem? (i := 282) rfl, List.forall_mem_cons.mpr ⟨List.mem_of_getElem? (i := 283) rfl, List.forall_mem_cons.mpr ⟨List.mem_of_getElem? (i := 284) rfl, List.forall_mem_cons.mpr ⟨List.mem_of_getElem? (i := 285) rfl, List.forall_mem_cons.mpr ⟨List.mem_of_getElem? (i := 286) rfl, List.forall_mem_cons.mpr ⟨List.mem_of_getElem? (i := 287) rfl, List.forall_mem_cons.mpr ⟨List.mem_of_getElem? (i := 288) rfl, List.forall_mem_cons.mpr ⟨List.mem_of_getElem? (i := 289) rfl, List.forall_mem_cons.mpr ⟨List.mem_of_getElem? (i := 290) rfl, List.forall_mem_cons.mpr ⟨List.mem_of_getElem? (i := 291) rfl, List.forall_mem_cons.mpr ⟨List.mem_of_getElem? (i := 292) rfl, List.forall_mem_cons.mpr ⟨List.mem_of_getElem? (i := 293) rfl, List.forall_mem_cons.mpr ⟨List.mem_of_getElem? (i := 294) rfl, List.forall_mem_nil _⟩⟩⟩⟩⟩⟩⟩⟩⟩⟩⟩⟩⟩⟩⟩⟩⟩⟩⟩⟩⟩⟩⟩⟩⟩⟩⟩⟩⟩⟩⟩⟩⟩⟩⟩⟩⟩⟩⟩⟩⟩⟩⟩⟩⟩⟩⟩⟩⟩⟩
theorem bgd_4 : ∀ w ∈ bg_4, goodWord w = true := List.all_eq_true.mp (by decide +kernel)
def bg_5 : List Cond := [Cond.methodLink "LoanDesk$Holding" 43 y_take, Cond.methodLink "LoanDesk$Holding" 47 y_pass, Cond.instanceMethod y_pass, Cond.code y_pass prog_3_method_4_code 5 none, Cond.methodLink "LoanDesk$Holding" 51 y_heldBehind, Cond.instanceMethod y_heldBehind, Cond.selects "LoanDesk$Graph" y_heldBehind y_heldBehind, Cond.code y_heldBehind prog_2_method_12_code 4 (some .int), Cond.methodLink "LoanDesk$Graph" 45 y_withHolder, Cond.static y_withHolder, Cond.code y_withHolder prog_2_method_13_code 4 (some .int), Cond.methodLink "LoanDesk$Holding" 57 y_firstNext, Cond.methodLink "LoanDesk$Holding" 61 y_handOn, Cond.instanceMethod y_handOn, Cond.code y_handOn prog_3_method_5_code 5 none, Cond.methodLink "LoanDesk$Holding" 67 y_isPoint, Cond.methodLink "LoanDesk$Holding" 64 y_secondNext, Cond.methodLink "LoanDesk" 90 y_hbehind, Cond.instanceMethod y_hbehind, Cond.selects "LoanDesk$Holding" y_hbehind y_hbehind, Cond.code y_hbehind prog_3_method_2_code 2 (some .int), Cond.methodLink "LoanDeskLaw" 33 y_used, Cond.instanceMethod y_used, Cond.selects "LoanDesk" y_used y_used, Cond.code y_used prog_1_method_6_code 2 (some .int), Cond.methodLink "LoanDesk" 94 y_ubehind, Cond.methodLink "LoanDeskLaw" 38 y_isAlive, Cond.instanceMethod y_isAlive, Cond.selects "LoanDesk" y_isAlive y_isAlive, Cond.code y_isAlive prog_1_method_7_code 3 (some .boolean), Cond.methodLink "LoanDesk" 95 y_holders, Cond.methodLink "LoanDesk" 99 y_used, Cond.methodLink "LoanDeskLaw" 43 y_met, Cond.instanceMethod y_met, Cond.selects "LoanDesk" y_met y_met, Cond.code y_met prog_1_method_8_code 3 (some .int), Cond.methodLink "LoanDesk" 102 y_findMeet, Cond.instanceMethod y_findMeet, Cond.code y_findMeet prog_1_method_18_code 2 none, Cond.methodLink "LoanDesk" 139 y_mempty, Cond.instanceMethod y_mempty, Cond.selects "LoanDesk$Meetings" y_mempty y_mempty, Cond.code y_mempty prog_4_method_2_code 1 none, Cond.methodLink "LoanDesk$Meetings" 15 y_fillJ, Cond.static y_fillJ, Cond.code y_fillJ prog_11_method_101_code 5 none, Cond.methodLink "LoanDesk" 108 y_gsize, Cond.methodLink "LoanDesk" 140 y_addMeet, Cond.instanceMethod y_addMeet, Cond.code y_addMeet prog_1_method_19_code 4 none]
set_option maxRecDepth 100000 in
theorem bgi_5 : ∀ w ∈ bg_5, w ∈ lw_tbl := List.forall_mem_cons.mpr ⟨List.mem_of_getElem? (i := 295) rfl, List.forall_mem_cons.mpr ⟨List.mem_of_getElem? (i := 296) rfl, List.forall_mem_cons.mpr ⟨List.mem_of_getElem? (i := 298) rfl, List.forall_mem_cons.mpr ⟨List.mem_of_getElem? (i := 299) rfl, List.forall_mem_cons.mpr ⟨List.mem_of_getElem? (i := 301) rfl, List.forall_mem_cons.mpr ⟨List.mem_of_getElem? (i := 302) rfl, List.forall_mem_cons.mpr ⟨List.mem_of_getElem? (i := 303) rfl, List.forall_mem_cons.mpr ⟨List.mem_of_getElem? (i := 304) rfl, List.forall_mem_cons.mpr ⟨List.mem_of_getElem? (i := 305) rfl, List.forall_mem_cons.mpr ⟨List.mem_of_getElem? (i := 306) rfl, List.forall_mem_cons.mpr ⟨List.mem_of_getElem? (i := 307) rfl, List.forall_mem_cons.mpr ⟨List.mem_of_getElem? (i := 308) rfl, List.forall_mem_cons.mpr ⟨List.mem_of_getElem? (i := 309) rfl, List.forall_mem_cons.mpr ⟨List.mem_of_getElem? (i := 311) rfl, List.forall_mem_cons.mpr ⟨List.mem_of_getElem? (i := 312) rfl, List.forall_mem_cons.mpr ⟨List.mem_of_getElem? (i := 313) rfl, List.forall_mem_cons.mpr ⟨List.mem_of_getElem? (i := 314) rfl, List.forall_mem_cons.mpr ⟨List.mem_of_getElem? (i := 315) rfl, List.forall_mem_cons.mpr ⟨List.mem_of_getElem? (i := 316) rfl, List.forall_mem_cons.mpr ⟨List.mem_of_getElem? (i := 317) rfl, List.forall_mem_cons.mpr ⟨List.mem_of_getElem? (i := 318) rfl, List.forall_mem_cons.mpr ⟨List.mem_of_getElem? (i := 319) rfl, List.forall_mem_cons.mpr ⟨List.mem_of_getElem? (i := 320) rfl, List.forall_mem_cons.mpr ⟨List.mem_of_getElem? (i := 321) rfl, List.forall_mem_cons.mpr ⟨List.mem_of_getElem? (i := 322) rfl, List.forall_mem_cons.mpr ⟨List.mem_of_getElem? (i := 323) rfl, List.forall_mem_cons.mpr ⟨List.mem_of_getElem? (i := 324) rfl, List.forall_mem_cons.mpr ⟨List.mem_of_getElem? (i := 325) rfl, List.forall_mem_cons.mpr ⟨List.mem_of_getElem? (i := 326) rfl, List.forall_mem_cons.mpr ⟨List.mem_of_getElem? (i := 327) rfl, List.forall_mem_cons.mpr ⟨List.mem_of_getElem? (i := 328) rfl, List.forall_mem_cons.mpr ⟨List.mem_of_getElem? (i := 329) rfl, List.forall_mem_cons.mpr ⟨List.mem_of_getElem? (i := 330) rfl, List.forall_mem_cons.mpr ⟨List.mem_of_getElem? (i := 331) rfl, List.forall_mem_cons.mpr ⟨List.mem_of_getElem? (i := 332) rfl, List.forall_mem_cons.mpr ⟨List.mem_of_getElem? (i := 333) rfl, List.forall_mem_cons.mpr ⟨List.mem_of_getElem? (i := 334) rfl, List.forall_mem_cons.mpr ⟨List.mem_of_getElem? (i := 336) rfl, List.forall_mem_cons.mpr ⟨List.mem_of_getElem? (i := 337) rfl, List.forall_mem_cons.mpr ⟨List.mem_of_getElem? (i := 338) rfl, List.forall_mem_cons.mpr ⟨List.mem_of_getElem? (i := 339) rfl, List.forall_mem_cons.mpr ⟨List.mem_of_getElem? (i := 340) rfl, List.forall_mem_cons.mpr ⟨List.mem_of_getElem? (i := 341) rfl, List.forall_mem_cons.mpr ⟨List.mem_of_getElem? (i := 342) rfl, List.forall_mem_cons.mpr ⟨List.mem_of_getElem? (i := 343) rfl, List.forall_mem_cons.mpr ⟨List.mem_of_getElem? (i := 344) rfl, List.forall_mem_cons.mpr ⟨List.mem_of_getElem? (i := 345) rfl, List.forall_mem_cons.mpr ⟨List.mem_of_getElem? (i := 346) rfl, List.forall_mem_cons.mpr ⟨List.mem_of_getElem? (i := 348) rfl, List.forall_mem_cons.mpr ⟨List.mem_of_getElem? (i := 349) rfl, List.forall_mem_nil _⟩⟩⟩⟩⟩⟩⟩⟩⟩⟩⟩⟩⟩⟩⟩⟩⟩⟩⟩⟩⟩⟩⟩⟩⟩⟩⟩⟩⟩⟩⟩⟩⟩⟩⟩⟩⟩⟩⟩⟩⟩⟩⟩⟩⟩⟩⟩⟩⟩⟩
theorem bgd_5 : ∀ w ∈ bg_5, goodWord w = true := List.all_eq_true.mp (by decide +kernel)
def bg_6 : List Cond := [Cond.methodLink "LoanDesk" 144 y_borrowing, Cond.instanceMethod y_borrowing, Cond.selects "LoanDesk$Graph" y_borrowing y_borrowing, Cond.code y_borrowing prog_2_method_15_code 2 (some .int), Cond.methodLink "LoanDesk$Graph" 38 y_isLoan, Cond.methodLink "LoanDesk" 147 y_touches, Cond.instanceMethod y_touches, Cond.selects "LoanDesk$Graph" y_touches y_touches, Cond.code y_touches prog_2_method_16_code 4 (some .boolean), Cond.methodLink "LoanDesk$Graph" 49 y_isChange, Cond.instanceMethod y_isChange, Cond.code y_isChange prog_2_method_17_code 2 (some .boolean), Cond.methodLink "LoanDesk$Graph" 52 y_isLook, Cond.instanceMethod y_isLook, Cond.code y_isLook prog_2_method_18_code 2 (some .boolean), Cond.methodLink "LoanDesk$Graph" 55 y_overlap, Cond.static y_overlap, Cond.code y_overlap prog_2_method_19_code 5 (some .boolean), Cond.methodLink "LoanDesk$Graph" 59 y_math_min, Cond.methodLink "LoanDesk$Graph" 65 y_math_max, Cond.static y_math_max, Cond.code y_math_max prog_10_method_65_code 2 (some .int), Cond.methodLink "LoanDesk" 151 y_madd, Cond.instanceMethod y_madd, Cond.selects "LoanDesk$Meetings" y_madd y_madd, Cond.code y_madd prog_4_method_3_code 3 none, Cond.methodLink "LoanDesk" 105 y_least, Cond.instanceMethod y_least, Cond.selects "LoanDesk$Meetings" y_least y_least, Cond.code y_least prog_4_method_6_code 4 (some .int), Cond.methodLink "LoanDesk$Meetings" 28 y_isAt, Cond.instanceMethod y_isAt, Cond.code y_isAt prog_4_method_8_code 3 (some .boolean), Cond.methodLink "LoanDeskLaw" 47 y_count, Cond.instanceMethod y_count, Cond.selects "LoanDesk" y_count y_count, Cond.code y_count prog_1_method_9_code 2 (some .int), Cond.methodLink "LoanDesk" 112 y_rcount, Cond.instanceMethod y_rcount, Cond.selects "LoanDesk$Reach" y_rcount y_rcount, Cond.code y_rcount prog_6_method_3_code 3 (some .int), Cond.methodLink "LoanDesk" 115 y_mcount, Cond.instanceMethod y_mcount, Cond.selects "LoanDesk$Meetings" y_mcount y_mcount, Cond.code y_mcount prog_4_method_4_code 3 (some .int), Cond.methodLink "LoanDesk$Meetings" 25 y_isAnyAt, Cond.instanceMethod y_isAnyAt, Cond.code y_isAnyAt prog_4_method_7_code 2 (some .boolean), Cond.methodLink "LoanDesk" 116 y_mfirst, Cond.instanceMethod y_mfirst]
set_option maxRecDepth 100000 in
theorem bgi_6 : ∀ w ∈ bg_6, w ∈ lw_tbl := List.forall_mem_cons.mpr ⟨List.mem_of_getElem? (i := 350) rfl, List.forall_mem_cons.mpr ⟨List.mem_of_getElem? (i := 351) rfl, List.forall_mem_cons.mpr ⟨List.mem_of_getElem? (i := 352) rfl, List.forall_mem_cons.mpr ⟨List.mem_of_getElem? (i := 353) rfl, List.forall_mem_cons.mpr ⟨List.mem_of_getElem? (i := 354) rfl, List.forall_mem_cons.mpr ⟨List.mem_of_getElem? (i := 355) rfl, List.forall_mem_cons.mpr ⟨List.mem_of_getElem? (i := 356) rfl, List.forall_mem_cons.mpr ⟨List.mem_of_getElem? (i := 357) rfl, List.forall_mem_cons.mpr ⟨List.mem_of_getElem? (i := 358) rfl, List.forall_mem_cons.mpr ⟨List.mem_of_getElem? (i := 359) rfl, List.forall_mem_cons.mpr ⟨List.mem_of_getElem? (i := 361) rfl, List.forall_mem_cons.mpr ⟨List.mem_of_getElem? (i := 362) rfl, List.forall_mem_cons.mpr ⟨List.mem_of_getElem? (i := 363) rfl, List.forall_mem_cons.mpr ⟨List.mem_of_getElem? (i := 365) rfl, List.forall_mem_cons.mpr ⟨List.mem_of_getElem? (i := 366) rfl, List.forall_mem_cons.mpr ⟨List.mem_of_getElem? (i := 367) rfl, List.forall_mem_cons.mpr ⟨List.mem_of_getElem? (i := 368) rfl, List.forall_mem_cons.mpr ⟨List.mem_of_getElem? (i := 369) rfl, List.forall_mem_cons.mpr ⟨List.mem_of_getElem? (i := 370) rfl, List.forall_mem_cons.mpr ⟨List.mem_of_getElem? (i := 371) rfl, List.forall_mem_cons.mpr ⟨List.mem_of_getElem? (i := 372) rfl, List.forall_mem_cons.mpr ⟨List.mem_of_getElem? (i := 373) rfl, List.forall_mem_cons.mpr ⟨List.mem_of_getElem? (i := 374) rfl, List.forall_mem_cons.mpr ⟨List.mem_of_getElem? (i := 375) rfl, List.forall_mem_cons.mpr ⟨List.mem_of_getElem? (i := 376) rfl, List.forall_mem_cons.mpr ⟨List.mem_of_getElem? (i := 377) rfl, List.forall_mem_cons.mpr ⟨List.mem_of_getElem? (i := 379) rfl, List.forall_mem_cons.mpr ⟨List.mem_of_getElem? (i := 380) rfl, List.forall_mem_cons.mpr ⟨List.mem_of_getElem? (i := 381) rfl, List.forall_mem_cons.mpr ⟨List.mem_of_getElem? (i := 382) rfl, List.forall_mem_cons.mpr ⟨List.mem_of_getElem? (i := 383) rfl, List.forall_mem_cons.mpr ⟨List.mem_of_getElem? (i := 385) rfl, List.forall_mem_cons.mpr ⟨List.mem_of_getElem? (i := 386) rfl, List.forall_mem_cons.mpr ⟨List.mem_of_getElem? (i := 387) rfl, List.forall_mem_cons.mpr ⟨List.mem_of_getElem? (i := 388) rfl, List.forall_mem_cons.mpr ⟨List.mem_of_getElem? (i := 389) rfl, List.forall_mem_cons.mpr ⟨List.mem_of_getElem? (i := 390) rfl, List.forall_mem_cons.mpr ⟨List.mem_of_getElem? (i := 391) rfl, List.forall_mem_cons.mpr ⟨List.mem_of_getElem? (i := 392) rfl, List.forall_mem_cons.mpr ⟨List.mem_of_getElem? (i := 393) rfl, List.forall_mem_cons.mpr ⟨List.mem_of_getElem? (i := 394) rfl, List.forall_mem_cons.mpr ⟨List.mem_of_getElem? (i := 395) rfl, List.forall_mem_cons.mpr ⟨List.mem_of_getElem? (i := 396) rfl, List.forall_mem_cons.mpr ⟨List.mem_of_getElem? (i := 397) rfl, List.forall_mem_cons.mpr ⟨List.mem_of_getElem? (i := 398) rfl, List.forall_mem_cons.mpr ⟨List.mem_of_getElem? (i := 399) rfl, List.forall_mem_cons.mpr ⟨List.mem_of_getElem? (i := 401) rfl, List.forall_mem_cons.mpr ⟨List.mem_of_getElem? (i := 402) rfl, List.forall_mem_cons.mpr ⟨List.mem_of_getElem? (i := 403) rfl, List.forall_mem_cons.mpr ⟨List.mem_of_getElem? (i := 404) rfl, List.forall_mem_nil _⟩⟩⟩⟩⟩⟩⟩⟩⟩⟩⟩⟩⟩⟩⟩⟩⟩⟩⟩⟩⟩⟩⟩⟩⟩⟩⟩⟩⟩⟩⟩⟩⟩⟩⟩⟩⟩⟩⟩⟩⟩⟩⟩⟩⟩⟩⟩⟩⟩⟩
theorem bgd_6 : ∀ w ∈ bg_6, goodWord w = true := List.all_eq_true.mp (by decide +kernel)
def bg_7 : List Cond := [Cond.selects "LoanDesk$Meetings" y_mfirst y_mfirst, Cond.code y_mfirst prog_4_method_5_code 2 (some .int), Cond.methodLink "LoanDesk" 119 y_countLoans, Cond.instanceMethod y_countLoans, Cond.selects "LoanDesk$Graph" y_countLoans y_countLoans, Cond.code y_countLoans prog_2_method_6_code 3 (some .int), Cond.methodLink "LoanDeskLaw" 51 y_clear, Cond.instanceMethod y_clear, Cond.selects "LoanDesk" y_clear y_clear, Cond.code y_clear prog_1_method_10_code 2 (some .int), Cond.methodLink "LoanDesk" 122 y_gempty, Cond.instanceMethod y_gempty, Cond.selects "LoanDesk$Graph" y_gempty y_gempty, Cond.code y_gempty prog_2_method_9_code 1 none, Cond.classLink "LoanDeskLaw" 10 "LoanDeskModel", Cond.instantiable "LoanDeskModel" 14, Cond.methodLink "LoanDeskLaw" 12 y_iF, Cond.instanceMethod y_iF, Cond.code y_iF prog_9_method_1_code 1 none, Cond.methodLink "LoanDeskModel" 1 objectInit, Cond.fieldLink "LoanDeskModel" 44 "LoanDeskModel" "points" "I", Cond.fieldLink "LoanDeskModel" 7 "LoanDeskModel" "doings" "[I", Cond.fieldLink "LoanDeskModel" 13 "LoanDeskModel" "as" "[I", Cond.fieldLink "LoanDeskModel" 16 "LoanDeskModel" "bs" "[I", Cond.fieldLink "LoanDeskModel" 19 "LoanDeskModel" "cs" "[I", Cond.fieldLink "LoanDeskModel" 22 "LoanDeskModel" "xs" "[I", Cond.fieldLink "LoanDeskModel" 25 "LoanDeskModel" "ys" "[I", Cond.fieldLink "LoanDeskModel" 55 "LoanDeskModel" "known" "Z", Cond.fieldLink "LoanDeskModel" 28 "LoanDeskModel" "reached" "[Z", Cond.fieldLink "LoanDeskModel" 32 "LoanDeskModel" "later" "[I", Cond.fieldLink "LoanDeskModel" 35 "LoanDeskModel" "holds" "[I", Cond.fieldLink "LoanDeskModel" 38 "LoanDeskModel" "pile" "[I", Cond.fieldLink "LoanDeskModel" 41 "LoanDeskModel" "seen" "[Z", Cond.fieldLink "LoanDeskModel" 59 "LoanDeskModel" "high" "I", Cond.lays "LoanDeskModel" "LoanDeskModel" "points" "I", Cond.laysFinal "LoanDeskModel" "LoanDeskModel" "doings" "[I", Cond.laysFinal "LoanDeskModel" "LoanDeskModel" "as" "[I", Cond.laysFinal "LoanDeskModel" "LoanDeskModel" "bs" "[I", Cond.laysFinal "LoanDeskModel" "LoanDeskModel" "cs" "[I", Cond.laysFinal "LoanDeskModel" "LoanDeskModel" "xs" "[I", Cond.laysFinal "LoanDeskModel" "LoanDeskModel" "ys" "[I", Cond.lays "LoanDeskModel" "LoanDeskModel" "known" "Z", Cond.laysFinal "LoanDeskModel" "LoanDeskModel" "reached" "[Z", Cond.laysFinal "LoanDeskModel" "LoanDeskModel" "later" "[I", Cond.laysFinal "LoanDeskModel" "LoanDeskModel" "holds" "[I", Cond.laysFinal "LoanDeskModel" "LoanDeskModel" "pile" "[I", Cond.laysFinal "LoanDeskModel" "LoanDeskModel" "seen" "[Z", Cond.lays "LoanDeskModel" "LoanDeskModel" "high" "I", Cond.methodLink "LoanDeskLaw" 17 y_fpoint, Cond.instanceMethod y_fpoint]
set_option maxRecDepth 100000 in
theorem bgi_7 : ∀ w ∈ bg_7, w ∈ lw_tbl := List.forall_mem_cons.mpr ⟨List.mem_of_getElem? (i := 405) rfl, List.forall_mem_cons.mpr ⟨List.mem_of_getElem? (i := 406) rfl, List.forall_mem_cons.mpr ⟨List.mem_of_getElem? (i := 407) rfl, List.forall_mem_cons.mpr ⟨List.mem_of_getElem? (i := 408) rfl, List.forall_mem_cons.mpr ⟨List.mem_of_getElem? (i := 409) rfl, List.forall_mem_cons.mpr ⟨List.mem_of_getElem? (i := 410) rfl, List.forall_mem_cons.mpr ⟨List.mem_of_getElem? (i := 411) rfl, List.forall_mem_cons.mpr ⟨List.mem_of_getElem? (i := 412) rfl, List.forall_mem_cons.mpr ⟨List.mem_of_getElem? (i := 413) rfl, List.forall_mem_cons.mpr ⟨List.mem_of_getElem? (i := 414) rfl, List.forall_mem_cons.mpr ⟨List.mem_of_getElem? (i := 415) rfl, List.forall_mem_cons.mpr ⟨List.mem_of_getElem? (i := 416) rfl, List.forall_mem_cons.mpr ⟨List.mem_of_getElem? (i := 417) rfl, List.forall_mem_cons.mpr ⟨List.mem_of_getElem? (i := 418) rfl, List.forall_mem_cons.mpr ⟨List.mem_of_getElem? (i := 419) rfl, List.forall_mem_cons.mpr ⟨List.mem_of_getElem? (i := 420) rfl, List.forall_mem_cons.mpr ⟨List.mem_of_getElem? (i := 421) rfl, List.forall_mem_cons.mpr ⟨List.mem_of_getElem? (i := 422) rfl, List.forall_mem_cons.mpr ⟨List.mem_of_getElem? (i := 423) rfl, List.forall_mem_cons.mpr ⟨List.mem_of_getElem? (i := 424) rfl, List.forall_mem_cons.mpr ⟨List.mem_of_getElem? (i := 425) rfl, List.forall_mem_cons.mpr ⟨List.mem_of_getElem? (i := 426) rfl, List.forall_mem_cons.mpr ⟨List.mem_of_getElem? (i := 427) rfl, List.forall_mem_cons.mpr ⟨List.mem_of_getElem? (i := 428) rfl, List.forall_mem_cons.mpr ⟨List.mem_of_getElem? (i := 429) rfl, List.forall_mem_cons.mpr ⟨List.mem_of_getElem? (i := 430) rfl, List.forall_mem_cons.mpr ⟨List.mem_of_getElem? (i := 431) rfl, List.forall_mem_cons.mpr ⟨List.mem_of_getElem? (i := 432) rfl, List.forall_mem_cons.mpr ⟨List.mem_of_getElem? (i := 433) rfl, List.forall_mem_cons.mpr ⟨List.mem_of_getElem? (i := 434) rfl, List.forall_mem_cons.mpr ⟨List.mem_of_getElem? (i := 435) rfl, List.forall_mem_cons.mpr ⟨List.mem_of_getElem? (i := 436) rfl, List.forall_mem_cons.mpr ⟨List.mem_of_getElem? (i := 437) rfl, List.forall_mem_cons.mpr ⟨List.mem_of_getElem? (i := 438) rfl, List.forall_mem_cons.mpr ⟨List.mem_of_getElem? (i := 439) rfl, List.forall_mem_cons.mpr ⟨List.mem_of_getElem? (i := 441) rfl, List.forall_mem_cons.mpr ⟨List.mem_of_getElem? (i := 443) rfl, List.forall_mem_cons.mpr ⟨List.mem_of_getElem? (i := 445) rfl, List.forall_mem_cons.mpr ⟨List.mem_of_getElem? (i := 447) rfl, List.forall_mem_cons.mpr ⟨List.mem_of_getElem? (i := 449) rfl, List.forall_mem_cons.mpr ⟨List.mem_of_getElem? (i := 451) rfl, List.forall_mem_cons.mpr ⟨List.mem_of_getElem? (i := 453) rfl, List.forall_mem_cons.mpr ⟨List.mem_of_getElem? (i := 455) rfl, List.forall_mem_cons.mpr ⟨List.mem_of_getElem? (i := 457) rfl, List.forall_mem_cons.mpr ⟨List.mem_of_getElem? (i := 459) rfl, List.forall_mem_cons.mpr ⟨List.mem_of_getElem? (i := 461) rfl, List.forall_mem_cons.mpr ⟨List.mem_of_getElem? (i := 463) rfl, List.forall_mem_cons.mpr ⟨List.mem_of_getElem? (i := 465) rfl, List.forall_mem_cons.mpr ⟨List.mem_of_getElem? (i := 468) rfl, List.forall_mem_cons.mpr ⟨List.mem_of_getElem? (i := 469) rfl, List.forall_mem_nil _⟩⟩⟩⟩⟩⟩⟩⟩⟩⟩⟩⟩⟩⟩⟩⟩⟩⟩⟩⟩⟩⟩⟩⟩⟩⟩⟩⟩⟩⟩⟩⟩⟩⟩⟩⟩⟩⟩⟩⟩⟩⟩⟩⟩⟩⟩⟩⟩⟩⟩
theorem bgd_7 : ∀ w ∈ bg_7, goodWord w = true := List.all_eq_true.mp (by decide +kernel)
def bg_8 : List Cond := [Cond.selects "LoanDeskModel" y_fpoint y_fpoint, Cond.code y_fpoint prog_9_method_4_code 6 (some .int), Cond.methodLink "LoanDeskModel" 48 y_fIsRef, Cond.static y_fIsRef, Cond.code y_fIsRef prog_9_method_2_code 1 (some .boolean), Cond.methodLink "LoanDeskModel" 52 y_fIsPlace, Cond.static y_fIsPlace, Cond.code y_fIsPlace prog_9_method_3_code 4 (some .boolean), Cond.methodLink "LoanDeskLaw" 22 y_fnext, Cond.instanceMethod y_fnext, Cond.selects "LoanDeskModel" y_fnext y_fnext, Cond.code y_fnext prog_9_method_5_code 4 (some .boolean), Cond.methodLink "LoanDeskLaw" 27 y_fIsReached, Cond.instanceMethod y_fIsReached, Cond.selects "LoanDeskModel" y_fIsReached y_fIsReached, Cond.code y_fIsReached prog_9_method_15_code 2 (some .boolean), Cond.methodLink "LoanDeskModel" 89 y_flearn, Cond.instanceMethod y_flearn, Cond.code y_flearn prog_9_method_14_code 3 none, Cond.methodLink "LoanDeskModel" 73 y_fforget, Cond.instanceMethod y_fforget, Cond.code y_fforget prog_9_method_7_code 2 none, Cond.methodLink "LoanDeskModel" 69 y_fmeet, Cond.instanceMethod y_fmeet, Cond.code y_fmeet prog_9_method_8_code 3 none, Cond.methodLink "LoanDeskModel" 62 y_fIsPoint, Cond.instanceMethod y_fIsPoint, Cond.code y_fIsPoint prog_9_method_6_code 2 (some .boolean), Cond.methodLink "LoanDeskModel" 82 y_fIsUsed, Cond.instanceMethod y_fIsUsed, Cond.code y_fIsUsed prog_9_method_13_code 4 (some .boolean), Cond.methodLink "LoanDeskModel" 79 y_fuses, Cond.instanceMethod y_fuses, Cond.code y_fuses prog_9_method_10_code 3 (some .boolean), Cond.methodLink "LoanDeskModel" 65 y_fchanges, Cond.instanceMethod y_fchanges, Cond.code y_fchanges prog_9_method_9_code 3 (some .boolean), Cond.methodLink "LoanDeskModel" 85 y_fgoAll, Cond.instanceMethod y_fgoAll, Cond.code y_fgoAll prog_9_method_12_code 4 none, Cond.methodLink "LoanDeskModel" 76 y_fthrough, Cond.instanceMethod y_fthrough, Cond.code y_fthrough prog_9_method_11_code 3 none, Cond.methodLink "LoanDeskLaw" 32 y_fholders, Cond.instanceMethod y_fholders, Cond.selects "LoanDeskModel" y_fholders y_fholders, Cond.code y_fholders prog_9_method_16_code 3 (some .int), Cond.methodLink "LoanDeskLaw" 37 y_fused, Cond.instanceMethod y_fused, Cond.selects "LoanDeskModel" y_fused y_fused]
set_option maxRecDepth 100000 in
theorem bgi_8 : ∀ w ∈ bg_8, w ∈ lw_tbl := List.forall_mem_cons.mpr ⟨List.mem_of_getElem? (i := 470) rfl, List.forall_mem_cons.mpr ⟨List.mem_of_getElem? (i := 471) rfl, List.forall_mem_cons.mpr ⟨List.mem_of_getElem? (i := 472) rfl, List.forall_mem_cons.mpr ⟨List.mem_of_getElem? (i := 473) rfl, List.forall_mem_cons.mpr ⟨List.mem_of_getElem? (i := 474) rfl, List.forall_mem_cons.mpr ⟨List.mem_of_getElem? (i := 475) rfl, List.forall_mem_cons.mpr ⟨List.mem_of_getElem? (i := 476) rfl, List.forall_mem_cons.mpr ⟨List.mem_of_getElem? (i := 477) rfl, List.forall_mem_cons.mpr ⟨List.mem_of_getElem? (i := 478) rfl, List.forall_mem_cons.mpr ⟨List.mem_of_getElem? (i := 479) rfl, List.forall_mem_cons.mpr ⟨List.mem_of_getElem? (i := 480) rfl, List.forall_mem_cons.mpr ⟨List.mem_of_getElem? (i := 481) rfl, List.forall_mem_cons.mpr ⟨List.mem_of_getElem? (i := 482) rfl, List.forall_mem_cons.mpr ⟨List.mem_of_getElem? (i := 483) rfl, List.forall_mem_cons.mpr ⟨List.mem_of_getElem? (i := 484) rfl, List.forall_mem_cons.mpr ⟨List.mem_of_getElem? (i := 485) rfl, List.forall_mem_cons.mpr ⟨List.mem_of_getElem? (i := 486) rfl, List.forall_mem_cons.mpr ⟨List.mem_of_getElem? (i := 488) rfl, List.forall_mem_cons.mpr ⟨List.mem_of_getElem? (i := 489) rfl, List.forall_mem_cons.mpr ⟨List.mem_of_getElem? (i := 490) rfl, List.forall_mem_cons.mpr ⟨List.mem_of_getElem? (i := 492) rfl, List.forall_mem_cons.mpr ⟨List.mem_of_getElem? (i := 493) rfl, List.forall_mem_cons.mpr ⟨List.mem_of_getElem? (i := 494) rfl, List.forall_mem_cons.mpr ⟨List.mem_of_getElem? (i := 496) rfl, List.forall_mem_cons.mpr ⟨List.mem_of_getElem? (i := 497) rfl, List.forall_mem_cons.mpr ⟨List.mem_of_getElem? (i := 498) rfl, List.forall_mem_cons.mpr ⟨List.mem_of_getElem? (i := 500) rfl, List.forall_mem_cons.mpr ⟨List.mem_of_getElem? (i := 501) rfl, List.forall_mem_cons.mpr ⟨List.mem_of_getElem? (i := 502) rfl, List.forall_mem_cons.mpr ⟨List.mem_of_getElem? (i := 504) rfl, List.forall_mem_cons.mpr ⟨List.mem_of_getElem? (i := 505) rfl, List.forall_mem_cons.mpr ⟨List.mem_of_getElem? (i := 506) rfl, List.forall_mem_cons.mpr ⟨List.mem_of_getElem? (i := 508) rfl, List.forall_mem_cons.mpr ⟨List.mem_of_getElem? (i := 509) rfl, List.forall_mem_cons.mpr ⟨List.mem_of_getElem? (i := 510) rfl, List.forall_mem_cons.mpr ⟨List.mem_of_getElem? (i := 512) rfl, List.forall_mem_cons.mpr ⟨List.mem_of_getElem? (i := 513) rfl, List.forall_mem_cons.mpr ⟨List.mem_of_getElem? (i := 514) rfl, List.forall_mem_cons.mpr ⟨List.mem_of_getElem? (i := 516) rfl, List.forall_mem_cons.mpr ⟨List.mem_of_getElem? (i := 517) rfl, List.forall_mem_cons.mpr ⟨List.mem_of_getElem? (i := 518) rfl, List.forall_mem_cons.mpr ⟨List.mem_of_getElem? (i := 520) rfl, List.forall_mem_cons.mpr ⟨List.mem_of_getElem? (i := 521) rfl, List.forall_mem_cons.mpr ⟨List.mem_of_getElem? (i := 522) rfl, List.forall_mem_cons.mpr ⟨List.mem_of_getElem? (i := 523) rfl, List.forall_mem_cons.mpr ⟨List.mem_of_getElem? (i := 524) rfl, List.forall_mem_cons.mpr ⟨List.mem_of_getElem? (i := 525) rfl, List.forall_mem_cons.mpr ⟨List.mem_of_getElem? (i := 526) rfl, List.forall_mem_cons.mpr ⟨List.mem_of_getElem? (i := 527) rfl, List.forall_mem_cons.mpr ⟨List.mem_of_getElem? (i := 528) rfl, List.forall_mem_nil _⟩⟩⟩⟩⟩⟩⟩⟩⟩⟩⟩⟩⟩⟩⟩⟩⟩⟩⟩⟩⟩⟩⟩⟩⟩⟩⟩⟩⟩⟩⟩⟩⟩⟩⟩⟩⟩⟩⟩⟩⟩⟩⟩⟩⟩⟩⟩⟩⟩⟩
theorem bgd_8 : ∀ w ∈ bg_8, goodWord w = true := List.all_eq_true.mp (by decide +kernel)
def bg_9 : List Cond := [Cond.code y_fused prog_9_method_17_code 2 (some .int), Cond.methodLink "LoanDeskLaw" 42 y_fIsAlive, Cond.instanceMethod y_fIsAlive, Cond.selects "LoanDeskModel" y_fIsAlive y_fIsAlive, Cond.code y_fIsAlive prog_9_method_18_code 3 (some .boolean), Cond.methodLink "LoanDeskModel" 92 y_fholders, Cond.methodLink "LoanDeskModel" 96 y_fused, Cond.methodLink "LoanDeskLaw" 46 y_fmet, Cond.instanceMethod y_fmet, Cond.selects "LoanDeskModel" y_fmet y_fmet, Cond.code y_fmet prog_9_method_21_code 5 (some .int), Cond.methodLink "LoanDeskModel" 109 y_fmeets, Cond.instanceMethod y_fmeets, Cond.code y_fmeets prog_9_method_20_code 5 (some .boolean), Cond.methodLink "LoanDeskModel" 100 y_fIsReached, Cond.methodLink "LoanDeskModel" 103 y_fIsAlive, Cond.methodLink "LoanDeskModel" 106 y_foverlap, Cond.static y_foverlap, Cond.code y_foverlap prog_9_method_19_code 4 (some .boolean), Cond.methodLink "LoanDeskLaw" 50 y_fcount, Cond.instanceMethod y_fcount, Cond.selects "LoanDeskModel" y_fcount y_fcount, Cond.code y_fcount prog_9_method_22_code 8 (some .int), Cond.methodLink "LoanDeskModel" 112 y_fmet, Cond.methodLink "LoanDeskLaw" 55 y_fclear, Cond.instanceMethod y_fclear, Cond.selects "LoanDeskModel" y_fclear y_fclear, Cond.code y_fclear prog_9_method_23_code 2 (some .int)]
set_option maxRecDepth 100000 in
theorem bgi_9 : ∀ w ∈ bg_9, w ∈ lw_tbl := List.forall_mem_cons.mpr ⟨List.mem_of_getElem? (i := 529) rfl, List.forall_mem_cons.mpr ⟨List.mem_of_getElem? (i := 530) rfl, List.forall_mem_cons.mpr ⟨List.mem_of_getElem? (i := 531) rfl, List.forall_mem_cons.mpr ⟨List.mem_of_getElem? (i := 532) rfl, List.forall_mem_cons.mpr ⟨List.mem_of_getElem? (i := 533) rfl, List.forall_mem_cons.mpr ⟨List.mem_of_getElem? (i := 534) rfl, List.forall_mem_cons.mpr ⟨List.mem_of_getElem? (i := 535) rfl, List.forall_mem_cons.mpr ⟨List.mem_of_getElem? (i := 536) rfl, List.forall_mem_cons.mpr ⟨List.mem_of_getElem? (i := 537) rfl, List.forall_mem_cons.mpr ⟨List.mem_of_getElem? (i := 538) rfl, List.forall_mem_cons.mpr ⟨List.mem_of_getElem? (i := 539) rfl, List.forall_mem_cons.mpr ⟨List.mem_of_getElem? (i := 540) rfl, List.forall_mem_cons.mpr ⟨List.mem_of_getElem? (i := 542) rfl, List.forall_mem_cons.mpr ⟨List.mem_of_getElem? (i := 543) rfl, List.forall_mem_cons.mpr ⟨List.mem_of_getElem? (i := 544) rfl, List.forall_mem_cons.mpr ⟨List.mem_of_getElem? (i := 545) rfl, List.forall_mem_cons.mpr ⟨List.mem_of_getElem? (i := 546) rfl, List.forall_mem_cons.mpr ⟨List.mem_of_getElem? (i := 547) rfl, List.forall_mem_cons.mpr ⟨List.mem_of_getElem? (i := 548) rfl, List.forall_mem_cons.mpr ⟨List.mem_of_getElem? (i := 549) rfl, List.forall_mem_cons.mpr ⟨List.mem_of_getElem? (i := 550) rfl, List.forall_mem_cons.mpr ⟨List.mem_of_getElem? (i := 551) rfl, List.forall_mem_cons.mpr ⟨List.mem_of_getElem? (i := 552) rfl, List.forall_mem_cons.mpr ⟨List.mem_of_getElem? (i := 553) rfl, List.forall_mem_cons.mpr ⟨List.mem_of_getElem? (i := 554) rfl, List.forall_mem_cons.mpr ⟨List.mem_of_getElem? (i := 555) rfl, List.forall_mem_cons.mpr ⟨List.mem_of_getElem? (i := 556) rfl, List.forall_mem_cons.mpr ⟨List.mem_of_getElem? (i := 557) rfl, List.forall_mem_nil _⟩⟩⟩⟩⟩⟩⟩⟩⟩⟩⟩⟩⟩⟩⟩⟩⟩⟩⟩⟩⟩⟩⟩⟩⟩⟩⟩⟩
theorem bgd_9 : ∀ w ∈ bg_9, goodWord w = true := List.all_eq_true.mp (by decide +kernel)
def bgT : List Cond := bg_0 ++ (bg_1 ++ (bg_2 ++ (bg_3 ++ (bg_4 ++ (bg_5 ++ (bg_6 ++ (bg_7 ++ (bg_8 ++ (bg_9)))))))))
theorem bg_in : ∀ w ∈ bgT, w ∈ lw_tbl := List.forall_mem_append.mpr ⟨bgi_0, List.forall_mem_append.mpr ⟨bgi_1, List.forall_mem_append.mpr ⟨bgi_2, List.forall_mem_append.mpr ⟨bgi_3, List.forall_mem_append.mpr ⟨bgi_4, List.forall_mem_append.mpr ⟨bgi_5, List.forall_mem_append.mpr ⟨bgi_6, List.forall_mem_append.mpr ⟨bgi_7, List.forall_mem_append.mpr ⟨bgi_8, bgi_9⟩⟩⟩⟩⟩⟩⟩⟩⟩
theorem bg_good : ∀ w ∈ bgT, goodWord w = true := List.forall_mem_append.mpr ⟨bgd_0, List.forall_mem_append.mpr ⟨bgd_1, List.forall_mem_append.mpr ⟨bgd_2, List.forall_mem_append.mpr ⟨bgd_3, List.forall_mem_append.mpr ⟨bgd_4, List.forall_mem_append.mpr ⟨bgd_5, List.forall_mem_append.mpr ⟨bgd_6, List.forall_mem_append.mpr ⟨bgd_7, List.forall_mem_append.mpr ⟨bgd_8, bgd_9⟩⟩⟩⟩⟩⟩⟩⟩⟩
theorem ld_gd {cy : Cond} (h : cy ∈ bgT) : GoodIn bgT (cy :: bgT) := fun w hw => by
  rcases List.mem_cons.mp hw with rfl | hw
  · exact ⟨h, good_of_word (bg_good _ h)⟩
  · exact ⟨hw, good_of_word (bg_good _ hw)⟩
set_option maxRecDepth 100000 in
theorem k_0 : (Cond.selects "LoanDesk" y_forget y_forget) ∈ bgT := List.mem_of_getElem? (i := 0) rfl
set_option maxRecDepth 100000 in
theorem k_1 : (Cond.selects "LoanDesk" y_findWays y_findWays) ∈ bgT := List.mem_of_getElem? (i := 1) rfl
set_option maxRecDepth 100000 in
theorem k_2 : (Cond.selects "LoanDesk$Reach" y_arrive y_arrive) ∈ bgT := List.mem_of_getElem? (i := 2) rfl
set_option maxRecDepth 100000 in
theorem k_3 : (Cond.selects "LoanDesk$Uses" y_growAll y_growAll) ∈ bgT := List.mem_of_getElem? (i := 3) rfl
set_option maxRecDepth 100000 in
theorem k_4 : (Cond.selects "LoanDesk$Holding" y_pass y_pass) ∈ bgT := List.mem_of_getElem? (i := 4) rfl
set_option maxRecDepth 100000 in
theorem k_5 : (Cond.selects "LoanDesk$Holding" y_handOn y_handOn) ∈ bgT := List.mem_of_getElem? (i := 5) rfl
set_option maxRecDepth 100000 in
theorem k_6 : (Cond.selects "LoanDesk" y_findMeet y_findMeet) ∈ bgT := List.mem_of_getElem? (i := 6) rfl
set_option maxRecDepth 100000 in
theorem k_7 : (Cond.selects "LoanDesk" y_addMeet y_addMeet) ∈ bgT := List.mem_of_getElem? (i := 7) rfl
set_option maxRecDepth 100000 in
theorem k_8 : (Cond.selects "LoanDesk$Graph" y_isChange y_isChange) ∈ bgT := List.mem_of_getElem? (i := 8) rfl
set_option maxRecDepth 100000 in
theorem k_9 : (Cond.selects "LoanDesk$Graph" y_isLook y_isLook) ∈ bgT := List.mem_of_getElem? (i := 9) rfl
set_option maxRecDepth 100000 in
theorem k_10 : (Cond.selects "LoanDesk$Meetings" y_isAt y_isAt) ∈ bgT := List.mem_of_getElem? (i := 10) rfl
set_option maxRecDepth 100000 in
theorem k_11 : (Cond.selects "LoanDesk$Meetings" y_isAnyAt y_isAnyAt) ∈ bgT := List.mem_of_getElem? (i := 11) rfl
set_option maxRecDepth 100000 in
theorem k_12 : (Cond.selects "LoanDeskModel" y_flearn y_flearn) ∈ bgT := List.mem_of_getElem? (i := 12) rfl
set_option maxRecDepth 100000 in
theorem k_13 : (Cond.selects "LoanDeskModel" y_fforget y_fforget) ∈ bgT := List.mem_of_getElem? (i := 13) rfl
set_option maxRecDepth 100000 in
theorem k_14 : (Cond.selects "LoanDeskModel" y_fmeet y_fmeet) ∈ bgT := List.mem_of_getElem? (i := 14) rfl
set_option maxRecDepth 100000 in
theorem k_15 : (Cond.selects "LoanDeskModel" y_fIsPoint y_fIsPoint) ∈ bgT := List.mem_of_getElem? (i := 15) rfl
set_option maxRecDepth 100000 in
theorem k_16 : (Cond.selects "LoanDeskModel" y_fIsUsed y_fIsUsed) ∈ bgT := List.mem_of_getElem? (i := 16) rfl
set_option maxRecDepth 100000 in
theorem k_17 : (Cond.selects "LoanDeskModel" y_fuses y_fuses) ∈ bgT := List.mem_of_getElem? (i := 17) rfl
set_option maxRecDepth 100000 in
theorem k_18 : (Cond.selects "LoanDeskModel" y_fchanges y_fchanges) ∈ bgT := List.mem_of_getElem? (i := 18) rfl
set_option maxRecDepth 100000 in
theorem k_19 : (Cond.selects "LoanDeskModel" y_fgoAll y_fgoAll) ∈ bgT := List.mem_of_getElem? (i := 19) rfl
set_option maxRecDepth 100000 in
theorem k_20 : (Cond.selects "LoanDeskModel" y_fthrough y_fthrough) ∈ bgT := List.mem_of_getElem? (i := 20) rfl
set_option maxRecDepth 100000 in
theorem k_21 : (Cond.selects "LoanDeskModel" y_fmeets y_fmeets) ∈ bgT := List.mem_of_getElem? (i := 21) rfl
set_option maxRecDepth 100000 in
theorem k_22 : (Cond.initialized "LoanDeskLaw") ∈ bgT := List.mem_of_getElem? (i := 22) rfl
set_option maxRecDepth 100000 in
theorem k_23 : (Cond.initialized "LoanDesk") ∈ bgT := List.mem_of_getElem? (i := 23) rfl
set_option maxRecDepth 100000 in
theorem k_24 : (Cond.initialized "LoanDesk$Graph") ∈ bgT := List.mem_of_getElem? (i := 24) rfl
set_option maxRecDepth 100000 in
theorem k_25 : (Cond.initialized "LoanDesk$Reach") ∈ bgT := List.mem_of_getElem? (i := 25) rfl
set_option maxRecDepth 100000 in
theorem k_26 : (Cond.initialized "LoanDesk$Pile") ∈ bgT := List.mem_of_getElem? (i := 26) rfl
set_option maxRecDepth 100000 in
theorem k_27 : (Cond.initialized "LoanDesk$Uses") ∈ bgT := List.mem_of_getElem? (i := 27) rfl
set_option maxRecDepth 100000 in
theorem k_28 : (Cond.initialized "LoanDesk$Holding") ∈ bgT := List.mem_of_getElem? (i := 28) rfl
set_option maxRecDepth 100000 in
theorem k_29 : (Cond.initialized "LoanDesk$Meetings") ∈ bgT := List.mem_of_getElem? (i := 29) rfl
set_option maxRecDepth 100000 in
theorem k_30 : (Cond.initialized "LoanDeskModel") ∈ bgT := List.mem_of_getElem? (i := 30) rfl
set_option maxRecDepth 100000 in
theorem k_31 : (Cond.initialized "java/util/Arrays") ∈ bgT := List.mem_of_getElem? (i := 31) rfl
set_option maxRecDepth 100000 in
theorem k_32 : (Cond.initialized "java/lang/Math") ∈ bgT := List.mem_of_getElem? (i := 32) rfl
set_option maxRecDepth 100000 in
theorem k_33 : (Cond.classLink "LoanDeskLaw" 7 "LoanDesk") ∈ bgT := List.mem_of_getElem? (i := 33) rfl
set_option maxRecDepth 100000 in
theorem k_34 : (Cond.instantiable "LoanDesk" 7) ∈ bgT := List.mem_of_getElem? (i := 34) rfl
set_option maxRecDepth 100000 in
theorem k_35 : (Cond.methodLink "LoanDeskLaw" 9 y_iD) ∈ bgT := List.mem_of_getElem? (i := 35) rfl
set_option maxRecDepth 100000 in
theorem k_36 : (Cond.instanceMethod y_iD) ∈ bgT := List.mem_of_getElem? (i := 36) rfl
set_option maxRecDepth 100000 in
theorem k_37 : (Cond.code y_iD prog_1_method_1_code 1 none) ∈ bgT := List.mem_of_getElem? (i := 37) rfl
set_option maxRecDepth 100000 in
theorem k_38 : (Cond.methodLink "LoanDesk" 1 objectInit) ∈ bgT := List.mem_of_getElem? (i := 38) rfl
set_option maxRecDepth 100000 in
theorem k_39 : (Cond.instanceMethod objectInit) ∈ bgT := List.mem_of_getElem? (i := 39) rfl
set_option maxRecDepth 100000 in
theorem k_40 : (Cond.code objectInit object_method_1_code 1 none) ∈ bgT := List.mem_of_getElem? (i := 40) rfl
set_option maxRecDepth 100000 in
theorem k_41 : (Cond.classLink "LoanDesk" 7 "LoanDesk$Graph") ∈ bgT := List.mem_of_getElem? (i := 41) rfl
set_option maxRecDepth 100000 in
theorem k_42 : (Cond.instantiable "LoanDesk$Graph" 7) ∈ bgT := List.mem_of_getElem? (i := 42) rfl
set_option maxRecDepth 100000 in
theorem k_43 : (Cond.instanceMethod y_iG) ∈ bgT := List.mem_of_getElem? (i := 43) rfl
set_option maxRecDepth 100000 in
theorem k_44 : (Cond.code y_iG prog_2_method_1_code 1 none) ∈ bgT := List.mem_of_getElem? (i := 44) rfl
set_option maxRecDepth 100000 in
theorem k_45 : (Cond.methodLink "LoanDesk$Graph" 3 objectInit) ∈ bgT := List.mem_of_getElem? (i := 45) rfl
set_option maxRecDepth 100000 in
theorem k_46 : (Cond.fieldLink "LoanDesk$Graph" 9 "LoanDesk$Graph" "doings" "[I") ∈ bgT := List.mem_of_getElem? (i := 46) rfl
set_option maxRecDepth 100000 in
theorem k_47 : (Cond.fieldLink "LoanDesk$Graph" 15 "LoanDesk$Graph" "as" "[I") ∈ bgT := List.mem_of_getElem? (i := 47) rfl
set_option maxRecDepth 100000 in
theorem k_48 : (Cond.fieldLink "LoanDesk$Graph" 18 "LoanDesk$Graph" "bs" "[I") ∈ bgT := List.mem_of_getElem? (i := 48) rfl
set_option maxRecDepth 100000 in
theorem k_49 : (Cond.fieldLink "LoanDesk$Graph" 21 "LoanDesk$Graph" "cs" "[I") ∈ bgT := List.mem_of_getElem? (i := 49) rfl
set_option maxRecDepth 100000 in
theorem k_50 : (Cond.fieldLink "LoanDesk$Graph" 24 "LoanDesk$Graph" "xs" "[I") ∈ bgT := List.mem_of_getElem? (i := 50) rfl
set_option maxRecDepth 100000 in
theorem k_51 : (Cond.fieldLink "LoanDesk$Graph" 27 "LoanDesk$Graph" "ys" "[I") ∈ bgT := List.mem_of_getElem? (i := 51) rfl
set_option maxRecDepth 100000 in
theorem k_52 : (Cond.fieldLink "LoanDesk$Graph" 30 "LoanDesk$Graph" "size" "I") ∈ bgT := List.mem_of_getElem? (i := 52) rfl
set_option maxRecDepth 100000 in
theorem k_53 : (Cond.laysFinal "LoanDesk$Graph" "LoanDesk$Graph" "doings" "[I") ∈ bgT := List.mem_of_getElem? (i := 53) rfl
set_option maxRecDepth 100000 in
theorem k_54 : (Cond.laysFinal "LoanDesk$Graph" "LoanDesk$Graph" "as" "[I") ∈ bgT := List.mem_of_getElem? (i := 54) rfl
set_option maxRecDepth 100000 in
theorem k_55 : (Cond.laysFinal "LoanDesk$Graph" "LoanDesk$Graph" "bs" "[I") ∈ bgT := List.mem_of_getElem? (i := 55) rfl
set_option maxRecDepth 100000 in
theorem k_56 : (Cond.laysFinal "LoanDesk$Graph" "LoanDesk$Graph" "cs" "[I") ∈ bgT := List.mem_of_getElem? (i := 56) rfl
set_option maxRecDepth 100000 in
theorem k_57 : (Cond.laysFinal "LoanDesk$Graph" "LoanDesk$Graph" "xs" "[I") ∈ bgT := List.mem_of_getElem? (i := 57) rfl
set_option maxRecDepth 100000 in
theorem k_58 : (Cond.laysFinal "LoanDesk$Graph" "LoanDesk$Graph" "ys" "[I") ∈ bgT := List.mem_of_getElem? (i := 58) rfl
set_option maxRecDepth 100000 in
theorem k_59 : (Cond.lays "LoanDesk$Graph" "LoanDesk$Graph" "size" "I") ∈ bgT := List.mem_of_getElem? (i := 59) rfl
set_option maxRecDepth 100000 in
theorem k_60 : (Cond.arrayClass .int) ∈ bgT := List.mem_of_getElem? (i := 60) rfl
set_option maxRecDepth 100000 in
theorem k_61 : (Cond.classLink "LoanDesk" 16 "LoanDesk$Reach") ∈ bgT := List.mem_of_getElem? (i := 61) rfl
set_option maxRecDepth 100000 in
theorem k_62 : (Cond.instantiable "LoanDesk$Reach" 2) ∈ bgT := List.mem_of_getElem? (i := 62) rfl
set_option maxRecDepth 100000 in
theorem k_63 : (Cond.instanceMethod y_iR) ∈ bgT := List.mem_of_getElem? (i := 63) rfl
set_option maxRecDepth 100000 in
theorem k_64 : (Cond.code y_iR prog_6_method_1_code 1 none) ∈ bgT := List.mem_of_getElem? (i := 64) rfl
set_option maxRecDepth 100000 in
theorem k_65 : (Cond.methodLink "LoanDesk$Reach" 3 objectInit) ∈ bgT := List.mem_of_getElem? (i := 65) rfl
set_option maxRecDepth 100000 in
theorem k_66 : (Cond.classLink "LoanDesk$Reach" 15 "LoanDesk$Pile") ∈ bgT := List.mem_of_getElem? (i := 66) rfl
set_option maxRecDepth 100000 in
theorem k_67 : (Cond.instantiable "LoanDesk$Pile" 3) ∈ bgT := List.mem_of_getElem? (i := 67) rfl
set_option maxRecDepth 100000 in
theorem k_68 : (Cond.instanceMethod y_iP) ∈ bgT := List.mem_of_getElem? (i := 68) rfl
set_option maxRecDepth 100000 in
theorem k_69 : (Cond.code y_iP prog_5_method_1_code 1 none) ∈ bgT := List.mem_of_getElem? (i := 69) rfl
set_option maxRecDepth 100000 in
theorem k_70 : (Cond.methodLink "LoanDesk$Pile" 3 objectInit) ∈ bgT := List.mem_of_getElem? (i := 70) rfl
set_option maxRecDepth 100000 in
theorem k_71 : (Cond.fieldLink "LoanDesk$Pile" 9 "LoanDesk$Pile" "points" "[I") ∈ bgT := List.mem_of_getElem? (i := 71) rfl
set_option maxRecDepth 100000 in
theorem k_72 : (Cond.fieldLink "LoanDesk$Pile" 15 "LoanDesk$Pile" "isIn" "[Z") ∈ bgT := List.mem_of_getElem? (i := 72) rfl
set_option maxRecDepth 100000 in
theorem k_73 : (Cond.fieldLink "LoanDesk$Pile" 19 "LoanDesk$Pile" "size" "I") ∈ bgT := List.mem_of_getElem? (i := 73) rfl
set_option maxRecDepth 100000 in
theorem k_74 : (Cond.laysFinal "LoanDesk$Pile" "LoanDesk$Pile" "points" "[I") ∈ bgT := List.mem_of_getElem? (i := 74) rfl
set_option maxRecDepth 100000 in
theorem k_75 : (Cond.laysFinal "LoanDesk$Pile" "LoanDesk$Pile" "isIn" "[Z") ∈ bgT := List.mem_of_getElem? (i := 75) rfl
set_option maxRecDepth 100000 in
theorem k_76 : (Cond.lays "LoanDesk$Pile" "LoanDesk$Pile" "size" "I") ∈ bgT := List.mem_of_getElem? (i := 76) rfl
set_option maxRecDepth 100000 in
theorem k_77 : (Cond.arrayClass .boolean) ∈ bgT := List.mem_of_getElem? (i := 77) rfl
set_option maxRecDepth 100000 in
theorem k_78 : (Cond.fieldLink "LoanDesk$Reach" 9 "LoanDesk$Reach" "reached" "[I") ∈ bgT := List.mem_of_getElem? (i := 78) rfl
set_option maxRecDepth 100000 in
theorem k_79 : (Cond.fieldLink "LoanDesk$Reach" 18 "LoanDesk$Reach" "pile" "LLoanDesk$Pile;") ∈ bgT := List.mem_of_getElem? (i := 79) rfl
set_option maxRecDepth 100000 in
theorem k_80 : (Cond.laysFinal "LoanDesk$Reach" "LoanDesk$Reach" "reached" "[I") ∈ bgT := List.mem_of_getElem? (i := 80) rfl
set_option maxRecDepth 100000 in
theorem k_81 : (Cond.laysFinal "LoanDesk$Reach" "LoanDesk$Reach" "pile" "LLoanDesk$Pile;") ∈ bgT := List.mem_of_getElem? (i := 81) rfl
set_option maxRecDepth 100000 in
theorem k_82 : (Cond.classLink "LoanDesk" 23 "LoanDesk$Uses") ∈ bgT := List.mem_of_getElem? (i := 82) rfl
set_option maxRecDepth 100000 in
theorem k_83 : (Cond.instantiable "LoanDesk$Uses" 1) ∈ bgT := List.mem_of_getElem? (i := 83) rfl
set_option maxRecDepth 100000 in
theorem k_84 : (Cond.instanceMethod y_iU) ∈ bgT := List.mem_of_getElem? (i := 84) rfl
set_option maxRecDepth 100000 in
theorem k_85 : (Cond.code y_iU prog_7_method_1_code 1 none) ∈ bgT := List.mem_of_getElem? (i := 85) rfl
set_option maxRecDepth 100000 in
theorem k_86 : (Cond.methodLink "LoanDesk$Uses" 3 objectInit) ∈ bgT := List.mem_of_getElem? (i := 86) rfl
set_option maxRecDepth 100000 in
theorem k_87 : (Cond.fieldLink "LoanDesk$Uses" 9 "LoanDesk$Uses" "later" "[I") ∈ bgT := List.mem_of_getElem? (i := 87) rfl
set_option maxRecDepth 100000 in
theorem k_88 : (Cond.laysFinal "LoanDesk$Uses" "LoanDesk$Uses" "later" "[I") ∈ bgT := List.mem_of_getElem? (i := 88) rfl
set_option maxRecDepth 100000 in
theorem k_89 : (Cond.classLink "LoanDesk" 30 "LoanDesk$Holding") ∈ bgT := List.mem_of_getElem? (i := 89) rfl
set_option maxRecDepth 100000 in
theorem k_90 : (Cond.instantiable "LoanDesk$Holding" 3) ∈ bgT := List.mem_of_getElem? (i := 90) rfl
set_option maxRecDepth 100000 in
theorem k_91 : (Cond.instanceMethod y_iH) ∈ bgT := List.mem_of_getElem? (i := 91) rfl
set_option maxRecDepth 100000 in
theorem k_92 : (Cond.code y_iH prog_3_method_1_code 1 none) ∈ bgT := List.mem_of_getElem? (i := 92) rfl
set_option maxRecDepth 100000 in
theorem k_93 : (Cond.methodLink "LoanDesk$Holding" 3 objectInit) ∈ bgT := List.mem_of_getElem? (i := 93) rfl
set_option maxRecDepth 100000 in
theorem k_94 : (Cond.classLink "LoanDesk$Holding" 18 "LoanDesk$Pile") ∈ bgT := List.mem_of_getElem? (i := 94) rfl
set_option maxRecDepth 100000 in
theorem k_95 : (Cond.fieldLink "LoanDesk$Holding" 9 "LoanDesk$Holding" "ahead" "[I") ∈ bgT := List.mem_of_getElem? (i := 95) rfl
set_option maxRecDepth 100000 in
theorem k_96 : (Cond.fieldLink "LoanDesk$Holding" 15 "LoanDesk$Holding" "behind" "[I") ∈ bgT := List.mem_of_getElem? (i := 96) rfl
set_option maxRecDepth 100000 in
theorem k_97 : (Cond.fieldLink "LoanDesk$Holding" 21 "LoanDesk$Holding" "pile" "LLoanDesk$Pile;") ∈ bgT := List.mem_of_getElem? (i := 97) rfl
set_option maxRecDepth 100000 in
theorem k_98 : (Cond.laysFinal "LoanDesk$Holding" "LoanDesk$Holding" "ahead" "[I") ∈ bgT := List.mem_of_getElem? (i := 98) rfl
set_option maxRecDepth 100000 in
theorem k_99 : (Cond.laysFinal "LoanDesk$Holding" "LoanDesk$Holding" "behind" "[I") ∈ bgT := List.mem_of_getElem? (i := 99) rfl
set_option maxRecDepth 100000 in
theorem k_100 : (Cond.laysFinal "LoanDesk$Holding" "LoanDesk$Holding" "pile" "LLoanDesk$Pile;") ∈ bgT := List.mem_of_getElem? (i := 100) rfl
set_option maxRecDepth 100000 in
theorem k_101 : (Cond.classLink "LoanDesk" 37 "LoanDesk$Meetings") ∈ bgT := List.mem_of_getElem? (i := 101) rfl
set_option maxRecDepth 100000 in
theorem k_102 : (Cond.instantiable "LoanDesk$Meetings" 1) ∈ bgT := List.mem_of_getElem? (i := 102) rfl
set_option maxRecDepth 100000 in
theorem k_103 : (Cond.instanceMethod y_iM) ∈ bgT := List.mem_of_getElem? (i := 103) rfl
set_option maxRecDepth 100000 in
theorem k_104 : (Cond.code y_iM prog_4_method_1_code 1 none) ∈ bgT := List.mem_of_getElem? (i := 104) rfl
set_option maxRecDepth 100000 in
theorem k_105 : (Cond.methodLink "LoanDesk$Meetings" 3 objectInit) ∈ bgT := List.mem_of_getElem? (i := 105) rfl
set_option maxRecDepth 100000 in
theorem k_106 : (Cond.fieldLink "LoanDesk$Meetings" 9 "LoanDesk$Meetings" "words" "[J") ∈ bgT := List.mem_of_getElem? (i := 106) rfl
set_option maxRecDepth 100000 in
theorem k_107 : (Cond.laysFinal "LoanDesk$Meetings" "LoanDesk$Meetings" "words" "[J") ∈ bgT := List.mem_of_getElem? (i := 107) rfl
set_option maxRecDepth 100000 in
theorem k_108 : (Cond.arrayClass .long) ∈ bgT := List.mem_of_getElem? (i := 108) rfl
set_option maxRecDepth 100000 in
theorem k_109 : (Cond.fieldLink "LoanDesk" 10 "LoanDesk" "graph" "LLoanDesk$Graph;") ∈ bgT := List.mem_of_getElem? (i := 109) rfl
set_option maxRecDepth 100000 in
theorem k_110 : (Cond.fieldLink "LoanDesk" 19 "LoanDesk" "reach" "LLoanDesk$Reach;") ∈ bgT := List.mem_of_getElem? (i := 110) rfl
set_option maxRecDepth 100000 in
theorem k_111 : (Cond.fieldLink "LoanDesk" 26 "LoanDesk" "uses" "LLoanDesk$Uses;") ∈ bgT := List.mem_of_getElem? (i := 111) rfl
set_option maxRecDepth 100000 in
theorem k_112 : (Cond.fieldLink "LoanDesk" 33 "LoanDesk" "holding" "LLoanDesk$Holding;") ∈ bgT := List.mem_of_getElem? (i := 112) rfl
set_option maxRecDepth 100000 in
theorem k_113 : (Cond.fieldLink "LoanDesk" 40 "LoanDesk" "meetings" "LLoanDesk$Meetings;") ∈ bgT := List.mem_of_getElem? (i := 113) rfl
set_option maxRecDepth 100000 in
theorem k_114 : (Cond.fieldLink "LoanDesk" 44 "LoanDesk" "waysKnown" "Z") ∈ bgT := List.mem_of_getElem? (i := 114) rfl
set_option maxRecDepth 100000 in
theorem k_115 : (Cond.fieldLink "LoanDesk" 48 "LoanDesk" "meetingsKnown" "Z") ∈ bgT := List.mem_of_getElem? (i := 115) rfl
set_option maxRecDepth 100000 in
theorem k_116 : (Cond.laysFinal "LoanDesk" "LoanDesk" "graph" "LLoanDesk$Graph;") ∈ bgT := List.mem_of_getElem? (i := 116) rfl
set_option maxRecDepth 100000 in
theorem k_117 : (Cond.laysFinal "LoanDesk" "LoanDesk" "reach" "LLoanDesk$Reach;") ∈ bgT := List.mem_of_getElem? (i := 117) rfl
set_option maxRecDepth 100000 in
theorem k_118 : (Cond.laysFinal "LoanDesk" "LoanDesk" "uses" "LLoanDesk$Uses;") ∈ bgT := List.mem_of_getElem? (i := 118) rfl
set_option maxRecDepth 100000 in
theorem k_119 : (Cond.laysFinal "LoanDesk" "LoanDesk" "holding" "LLoanDesk$Holding;") ∈ bgT := List.mem_of_getElem? (i := 119) rfl
set_option maxRecDepth 100000 in
theorem k_120 : (Cond.laysFinal "LoanDesk" "LoanDesk" "meetings" "LLoanDesk$Meetings;") ∈ bgT := List.mem_of_getElem? (i := 120) rfl
set_option maxRecDepth 100000 in
theorem k_121 : (Cond.lays "LoanDesk" "LoanDesk" "waysKnown" "Z") ∈ bgT := List.mem_of_getElem? (i := 121) rfl
set_option maxRecDepth 100000 in
theorem k_122 : (Cond.lays "LoanDesk" "LoanDesk" "meetingsKnown" "Z") ∈ bgT := List.mem_of_getElem? (i := 122) rfl
set_option maxRecDepth 100000 in
theorem k_123 : (Cond.methodLink "LoanDeskLaw" 13 y_point) ∈ bgT := List.mem_of_getElem? (i := 123) rfl
set_option maxRecDepth 100000 in
theorem k_124 : (Cond.instanceMethod y_point) ∈ bgT := List.mem_of_getElem? (i := 124) rfl
set_option maxRecDepth 100000 in
theorem k_125 : (Cond.selects "LoanDesk" y_point y_point) ∈ bgT := List.mem_of_getElem? (i := 125) rfl
set_option maxRecDepth 100000 in
theorem k_126 : (Cond.code y_point prog_1_method_2_code 5 (some .int)) ∈ bgT := List.mem_of_getElem? (i := 126) rfl
set_option maxRecDepth 100000 in
theorem k_127 : (Cond.methodLink "LoanDesk" 51 y_isDoing) ∈ bgT := List.mem_of_getElem? (i := 127) rfl
set_option maxRecDepth 100000 in
theorem k_128 : (Cond.static y_isDoing) ∈ bgT := List.mem_of_getElem? (i := 128) rfl
set_option maxRecDepth 100000 in
theorem k_129 : (Cond.code y_isDoing prog_1_method_11_code 4 (some .boolean)) ∈ bgT := List.mem_of_getElem? (i := 129) rfl
set_option maxRecDepth 100000 in
theorem k_130 : (Cond.methodLink "LoanDesk" 125 y_isRef) ∈ bgT := List.mem_of_getElem? (i := 130) rfl
set_option maxRecDepth 100000 in
theorem k_131 : (Cond.static y_isRef) ∈ bgT := List.mem_of_getElem? (i := 131) rfl
set_option maxRecDepth 100000 in
theorem k_132 : (Cond.code y_isRef prog_1_method_12_code 1 (some .boolean)) ∈ bgT := List.mem_of_getElem? (i := 132) rfl
set_option maxRecDepth 100000 in
theorem k_133 : (Cond.methodLink "LoanDesk" 128 y_isPlace) ∈ bgT := List.mem_of_getElem? (i := 133) rfl
set_option maxRecDepth 100000 in
theorem k_134 : (Cond.static y_isPlace) ∈ bgT := List.mem_of_getElem? (i := 134) rfl
set_option maxRecDepth 100000 in
theorem k_135 : (Cond.code y_isPlace prog_1_method_13_code 3 (some .boolean)) ∈ bgT := List.mem_of_getElem? (i := 135) rfl
set_option maxRecDepth 100000 in
theorem k_136 : (Cond.methodLink "LoanDesk" 55 y_hasRoom) ∈ bgT := List.mem_of_getElem? (i := 136) rfl
set_option maxRecDepth 100000 in
theorem k_137 : (Cond.instanceMethod y_hasRoom) ∈ bgT := List.mem_of_getElem? (i := 137) rfl
set_option maxRecDepth 100000 in
theorem k_138 : (Cond.selects "LoanDesk$Graph" y_hasRoom y_hasRoom) ∈ bgT := List.mem_of_getElem? (i := 138) rfl
set_option maxRecDepth 100000 in
theorem k_139 : (Cond.code y_hasRoom prog_2_method_3_code 1 (some .boolean)) ∈ bgT := List.mem_of_getElem? (i := 139) rfl
set_option maxRecDepth 100000 in
theorem k_140 : (Cond.methodLink "LoanDesk" 59 y_forget) ∈ bgT := List.mem_of_getElem? (i := 140) rfl
set_option maxRecDepth 100000 in
theorem k_141 : (Cond.instanceMethod y_forget) ∈ bgT := List.mem_of_getElem? (i := 141) rfl
set_option maxRecDepth 100000 in
theorem k_142 : (Cond.code y_forget prog_1_method_16_code 1 none) ∈ bgT := List.mem_of_getElem? (i := 142) rfl
set_option maxRecDepth 100000 in
theorem k_143 : (Cond.methodLink "LoanDesk" 62 y_add) ∈ bgT := List.mem_of_getElem? (i := 143) rfl
set_option maxRecDepth 100000 in
theorem k_144 : (Cond.instanceMethod y_add) ∈ bgT := List.mem_of_getElem? (i := 144) rfl
set_option maxRecDepth 100000 in
theorem k_145 : (Cond.selects "LoanDesk$Graph" y_add y_add) ∈ bgT := List.mem_of_getElem? (i := 145) rfl
set_option maxRecDepth 100000 in
theorem k_146 : (Cond.code y_add prog_2_method_7_code 6 (some .int)) ∈ bgT := List.mem_of_getElem? (i := 146) rfl
set_option maxRecDepth 100000 in
theorem k_147 : (Cond.methodLink "LoanDesk$Graph" 41 y_hasRoom) ∈ bgT := List.mem_of_getElem? (i := 147) rfl
set_option maxRecDepth 100000 in
theorem k_148 : (Cond.methodLink "LoanDeskLaw" 18 y_next) ∈ bgT := List.mem_of_getElem? (i := 148) rfl
set_option maxRecDepth 100000 in
theorem k_149 : (Cond.instanceMethod y_next) ∈ bgT := List.mem_of_getElem? (i := 149) rfl
set_option maxRecDepth 100000 in
theorem k_150 : (Cond.selects "LoanDesk" y_next y_next) ∈ bgT := List.mem_of_getElem? (i := 150) rfl
set_option maxRecDepth 100000 in
theorem k_151 : (Cond.code y_next prog_1_method_3_code 4 (some .boolean)) ∈ bgT := List.mem_of_getElem? (i := 151) rfl
set_option maxRecDepth 100000 in
theorem k_152 : (Cond.methodLink "LoanDesk" 66 y_isPoint) ∈ bgT := List.mem_of_getElem? (i := 152) rfl
set_option maxRecDepth 100000 in
theorem k_153 : (Cond.instanceMethod y_isPoint) ∈ bgT := List.mem_of_getElem? (i := 153) rfl
set_option maxRecDepth 100000 in
theorem k_154 : (Cond.selects "LoanDesk$Graph" y_isPoint y_isPoint) ∈ bgT := List.mem_of_getElem? (i := 154) rfl
set_option maxRecDepth 100000 in
theorem k_155 : (Cond.code y_isPoint prog_2_method_4_code 2 (some .boolean)) ∈ bgT := List.mem_of_getElem? (i := 155) rfl
set_option maxRecDepth 100000 in
theorem k_156 : (Cond.methodLink "LoanDesk" 70 y_isNext) ∈ bgT := List.mem_of_getElem? (i := 156) rfl
set_option maxRecDepth 100000 in
theorem k_157 : (Cond.static y_isNext) ∈ bgT := List.mem_of_getElem? (i := 157) rfl
set_option maxRecDepth 100000 in
theorem k_158 : (Cond.code y_isNext prog_1_method_14_code 1 (some .boolean)) ∈ bgT := List.mem_of_getElem? (i := 158) rfl
set_option maxRecDepth 100000 in
theorem k_159 : (Cond.methodLink "LoanDesk" 131 y_isIndex) ∈ bgT := List.mem_of_getElem? (i := 159) rfl
set_option maxRecDepth 100000 in
theorem k_160 : (Cond.static y_isIndex) ∈ bgT := List.mem_of_getElem? (i := 160) rfl
set_option maxRecDepth 100000 in
theorem k_161 : (Cond.code y_isIndex prog_1_method_15_code 1 (some .boolean)) ∈ bgT := List.mem_of_getElem? (i := 161) rfl
set_option maxRecDepth 100000 in
theorem k_162 : (Cond.methodLink "LoanDesk" 73 y_tellNext) ∈ bgT := List.mem_of_getElem? (i := 162) rfl
set_option maxRecDepth 100000 in
theorem k_163 : (Cond.instanceMethod y_tellNext) ∈ bgT := List.mem_of_getElem? (i := 163) rfl
set_option maxRecDepth 100000 in
theorem k_164 : (Cond.selects "LoanDesk$Graph" y_tellNext y_tellNext) ∈ bgT := List.mem_of_getElem? (i := 164) rfl
set_option maxRecDepth 100000 in
theorem k_165 : (Cond.code y_tellNext prog_2_method_8_code 4 none) ∈ bgT := List.mem_of_getElem? (i := 165) rfl
set_option maxRecDepth 100000 in
theorem k_166 : (Cond.methodLink "LoanDesk$Graph" 34 y_isPoint) ∈ bgT := List.mem_of_getElem? (i := 166) rfl
set_option maxRecDepth 100000 in
theorem k_167 : (Cond.methodLink "LoanDeskLaw" 23 y_isReached) ∈ bgT := List.mem_of_getElem? (i := 167) rfl
set_option maxRecDepth 100000 in
theorem k_168 : (Cond.instanceMethod y_isReached) ∈ bgT := List.mem_of_getElem? (i := 168) rfl
set_option maxRecDepth 100000 in
theorem k_169 : (Cond.selects "LoanDesk" y_isReached y_isReached) ∈ bgT := List.mem_of_getElem? (i := 169) rfl
set_option maxRecDepth 100000 in
theorem k_170 : (Cond.code y_isReached prog_1_method_4_code 2 (some .boolean)) ∈ bgT := List.mem_of_getElem? (i := 170) rfl
set_option maxRecDepth 100000 in
theorem k_171 : (Cond.methodLink "LoanDesk" 77 y_findWays) ∈ bgT := List.mem_of_getElem? (i := 171) rfl
set_option maxRecDepth 100000 in
theorem k_172 : (Cond.instanceMethod y_findWays) ∈ bgT := List.mem_of_getElem? (i := 172) rfl
set_option maxRecDepth 100000 in
theorem k_173 : (Cond.code y_findWays prog_1_method_17_code 1 none) ∈ bgT := List.mem_of_getElem? (i := 173) rfl
set_option maxRecDepth 100000 in
theorem k_174 : (Cond.methodLink "LoanDesk" 134 y_rfind) ∈ bgT := List.mem_of_getElem? (i := 174) rfl
set_option maxRecDepth 100000 in
theorem k_175 : (Cond.instanceMethod y_rfind) ∈ bgT := List.mem_of_getElem? (i := 175) rfl
set_option maxRecDepth 100000 in
theorem k_176 : (Cond.selects "LoanDesk$Reach" y_rfind y_rfind) ∈ bgT := List.mem_of_getElem? (i := 176) rfl
set_option maxRecDepth 100000 in
theorem k_177 : (Cond.code y_rfind prog_6_method_4_code 4 none) ∈ bgT := List.mem_of_getElem? (i := 177) rfl
set_option maxRecDepth 100000 in
theorem k_178 : (Cond.methodLink "LoanDesk$Reach" 26 y_fillI) ∈ bgT := List.mem_of_getElem? (i := 178) rfl
set_option maxRecDepth 100000 in
theorem k_179 : (Cond.static y_fillI) ∈ bgT := List.mem_of_getElem? (i := 179) rfl
set_option maxRecDepth 100000 in
theorem k_180 : (Cond.code y_fillI prog_11_method_103_code 4 none) ∈ bgT := List.mem_of_getElem? (i := 180) rfl
set_option maxRecDepth 100000 in
theorem k_181 : (Cond.methodLink "LoanDesk$Reach" 32 y_arrive) ∈ bgT := List.mem_of_getElem? (i := 181) rfl
set_option maxRecDepth 100000 in
theorem k_182 : (Cond.instanceMethod y_arrive) ∈ bgT := List.mem_of_getElem? (i := 182) rfl
set_option maxRecDepth 100000 in
theorem k_183 : (Cond.code y_arrive prog_6_method_5_code 3 none) ∈ bgT := List.mem_of_getElem? (i := 183) rfl
set_option maxRecDepth 100000 in
theorem k_184 : (Cond.methodLink "LoanDesk$Reach" 53 y_isPoint) ∈ bgT := List.mem_of_getElem? (i := 184) rfl
set_option maxRecDepth 100000 in
theorem k_185 : (Cond.methodLink "LoanDesk$Reach" 56 y_comesTo) ∈ bgT := List.mem_of_getElem? (i := 185) rfl
set_option maxRecDepth 100000 in
theorem k_186 : (Cond.instanceMethod y_comesTo) ∈ bgT := List.mem_of_getElem? (i := 186) rfl
set_option maxRecDepth 100000 in
theorem k_187 : (Cond.selects "LoanDesk$Reach" y_comesTo y_comesTo) ∈ bgT := List.mem_of_getElem? (i := 187) rfl
set_option maxRecDepth 100000 in
theorem k_188 : (Cond.code y_comesTo prog_6_method_2_code 2 (some .boolean)) ∈ bgT := List.mem_of_getElem? (i := 188) rfl
set_option maxRecDepth 100000 in
theorem k_189 : (Cond.methodLink "LoanDesk$Reach" 59 y_put) ∈ bgT := List.mem_of_getElem? (i := 189) rfl
set_option maxRecDepth 100000 in
theorem k_190 : (Cond.instanceMethod y_put) ∈ bgT := List.mem_of_getElem? (i := 190) rfl
set_option maxRecDepth 100000 in
theorem k_191 : (Cond.selects "LoanDesk$Pile" y_put y_put) ∈ bgT := List.mem_of_getElem? (i := 191) rfl
set_option maxRecDepth 100000 in
theorem k_192 : (Cond.code y_put prog_5_method_3_code 2 none) ∈ bgT := List.mem_of_getElem? (i := 192) rfl
set_option maxRecDepth 100000 in
theorem k_193 : (Cond.methodLink "LoanDesk$Reach" 36 y_pEmpty) ∈ bgT := List.mem_of_getElem? (i := 193) rfl
set_option maxRecDepth 100000 in
theorem k_194 : (Cond.instanceMethod y_pEmpty) ∈ bgT := List.mem_of_getElem? (i := 194) rfl
set_option maxRecDepth 100000 in
theorem k_195 : (Cond.selects "LoanDesk$Pile" y_pEmpty y_pEmpty) ∈ bgT := List.mem_of_getElem? (i := 195) rfl
set_option maxRecDepth 100000 in
theorem k_196 : (Cond.code y_pEmpty prog_5_method_2_code 1 (some .boolean)) ∈ bgT := List.mem_of_getElem? (i := 196) rfl
set_option maxRecDepth 100000 in
theorem k_197 : (Cond.methodLink "LoanDesk$Reach" 40 y_take) ∈ bgT := List.mem_of_getElem? (i := 197) rfl
set_option maxRecDepth 100000 in
theorem k_198 : (Cond.instanceMethod y_take) ∈ bgT := List.mem_of_getElem? (i := 198) rfl
set_option maxRecDepth 100000 in
theorem k_199 : (Cond.selects "LoanDesk$Pile" y_take y_take) ∈ bgT := List.mem_of_getElem? (i := 199) rfl
set_option maxRecDepth 100000 in
theorem k_200 : (Cond.code y_take prog_5_method_4_code 2 (some .int)) ∈ bgT := List.mem_of_getElem? (i := 200) rfl
set_option maxRecDepth 100000 in
theorem k_201 : (Cond.methodLink "LoanDesk$Reach" 44 y_firstNext) ∈ bgT := List.mem_of_getElem? (i := 201) rfl
set_option maxRecDepth 100000 in
theorem k_202 : (Cond.instanceMethod y_firstNext) ∈ bgT := List.mem_of_getElem? (i := 202) rfl
set_option maxRecDepth 100000 in
theorem k_203 : (Cond.selects "LoanDesk$Graph" y_firstNext y_firstNext) ∈ bgT := List.mem_of_getElem? (i := 203) rfl
set_option maxRecDepth 100000 in
theorem k_204 : (Cond.code y_firstNext prog_2_method_10_code 2 (some .int)) ∈ bgT := List.mem_of_getElem? (i := 204) rfl
set_option maxRecDepth 100000 in
theorem k_205 : (Cond.methodLink "LoanDesk$Reach" 50 y_secondNext) ∈ bgT := List.mem_of_getElem? (i := 205) rfl
set_option maxRecDepth 100000 in
theorem k_206 : (Cond.instanceMethod y_secondNext) ∈ bgT := List.mem_of_getElem? (i := 206) rfl
set_option maxRecDepth 100000 in
theorem k_207 : (Cond.selects "LoanDesk$Graph" y_secondNext y_secondNext) ∈ bgT := List.mem_of_getElem? (i := 207) rfl
set_option maxRecDepth 100000 in
theorem k_208 : (Cond.code y_secondNext prog_2_method_11_code 2 (some .int)) ∈ bgT := List.mem_of_getElem? (i := 208) rfl
set_option maxRecDepth 100000 in
theorem k_209 : (Cond.methodLink "LoanDesk" 138 y_ufind) ∈ bgT := List.mem_of_getElem? (i := 209) rfl
set_option maxRecDepth 100000 in
theorem k_210 : (Cond.instanceMethod y_ufind) ∈ bgT := List.mem_of_getElem? (i := 210) rfl
set_option maxRecDepth 100000 in
theorem k_211 : (Cond.selects "LoanDesk$Uses" y_ufind y_ufind) ∈ bgT := List.mem_of_getElem? (i := 211) rfl
set_option maxRecDepth 100000 in
theorem k_212 : (Cond.code y_ufind prog_7_method_3_code 4 none) ∈ bgT := List.mem_of_getElem? (i := 212) rfl
set_option maxRecDepth 100000 in
theorem k_213 : (Cond.methodLink "LoanDesk$Uses" 19 y_fillI) ∈ bgT := List.mem_of_getElem? (i := 213) rfl
set_option maxRecDepth 100000 in
theorem k_214 : (Cond.methodLink "LoanDesk$Uses" 25 y_growAll) ∈ bgT := List.mem_of_getElem? (i := 214) rfl
set_option maxRecDepth 100000 in
theorem k_215 : (Cond.instanceMethod y_growAll) ∈ bgT := List.mem_of_getElem? (i := 215) rfl
set_option maxRecDepth 100000 in
theorem k_216 : (Cond.code y_growAll prog_7_method_4_code 7 (some .boolean)) ∈ bgT := List.mem_of_getElem? (i := 216) rfl
set_option maxRecDepth 100000 in
theorem k_217 : (Cond.methodLink "LoanDesk$Uses" 29 y_gsize) ∈ bgT := List.mem_of_getElem? (i := 217) rfl
set_option maxRecDepth 100000 in
theorem k_218 : (Cond.instanceMethod y_gsize) ∈ bgT := List.mem_of_getElem? (i := 218) rfl
set_option maxRecDepth 100000 in
theorem k_219 : (Cond.selects "LoanDesk$Graph" y_gsize y_gsize) ∈ bgT := List.mem_of_getElem? (i := 219) rfl
set_option maxRecDepth 100000 in
theorem k_220 : (Cond.code y_gsize prog_2_method_2_code 1 (some .int)) ∈ bgT := List.mem_of_getElem? (i := 220) rfl
set_option maxRecDepth 100000 in
theorem k_221 : (Cond.methodLink "LoanDesk$Uses" 35 y_math_min) ∈ bgT := List.mem_of_getElem? (i := 221) rfl
set_option maxRecDepth 100000 in
theorem k_222 : (Cond.static y_math_min) ∈ bgT := List.mem_of_getElem? (i := 222) rfl
set_option maxRecDepth 100000 in
theorem k_223 : (Cond.code y_math_min prog_10_method_69_code 2 (some .int)) ∈ bgT := List.mem_of_getElem? (i := 223) rfl
set_option maxRecDepth 100000 in
theorem k_224 : (Cond.methodLink "LoanDesk$Uses" 41 y_firstNext) ∈ bgT := List.mem_of_getElem? (i := 224) rfl
set_option maxRecDepth 100000 in
theorem k_225 : (Cond.methodLink "LoanDesk$Uses" 45 y_secondNext) ∈ bgT := List.mem_of_getElem? (i := 225) rfl
set_option maxRecDepth 100000 in
theorem k_226 : (Cond.methodLink "LoanDesk$Uses" 48 y_ubehind) ∈ bgT := List.mem_of_getElem? (i := 226) rfl
set_option maxRecDepth 100000 in
theorem k_227 : (Cond.instanceMethod y_ubehind) ∈ bgT := List.mem_of_getElem? (i := 227) rfl
set_option maxRecDepth 100000 in
theorem k_228 : (Cond.selects "LoanDesk$Uses" y_ubehind y_ubehind) ∈ bgT := List.mem_of_getElem? (i := 228) rfl
set_option maxRecDepth 100000 in
theorem k_229 : (Cond.code y_ubehind prog_7_method_2_code 2 (some .int)) ∈ bgT := List.mem_of_getElem? (i := 229) rfl
set_option maxRecDepth 100000 in
theorem k_230 : (Cond.methodLink "LoanDesk$Uses" 51 y_usedFrom) ∈ bgT := List.mem_of_getElem? (i := 230) rfl
set_option maxRecDepth 100000 in
theorem k_231 : (Cond.instanceMethod y_usedFrom) ∈ bgT := List.mem_of_getElem? (i := 231) rfl
set_option maxRecDepth 100000 in
theorem k_232 : (Cond.selects "LoanDesk$Graph" y_usedFrom y_usedFrom) ∈ bgT := List.mem_of_getElem? (i := 232) rfl
set_option maxRecDepth 100000 in
theorem k_233 : (Cond.code y_usedFrom prog_2_method_14_code 3 (some .int)) ∈ bgT := List.mem_of_getElem? (i := 233) rfl
set_option maxRecDepth 100000 in
theorem k_234 : (Cond.methodLink "LoanDesk" 80 y_comesTo) ∈ bgT := List.mem_of_getElem? (i := 234) rfl
set_option maxRecDepth 100000 in
theorem k_235 : (Cond.methodLink "LoanDeskLaw" 28 y_holders) ∈ bgT := List.mem_of_getElem? (i := 235) rfl
set_option maxRecDepth 100000 in
theorem k_236 : (Cond.instanceMethod y_holders) ∈ bgT := List.mem_of_getElem? (i := 236) rfl
set_option maxRecDepth 100000 in
theorem k_237 : (Cond.selects "LoanDesk" y_holders y_holders) ∈ bgT := List.mem_of_getElem? (i := 237) rfl
set_option maxRecDepth 100000 in
theorem k_238 : (Cond.code y_holders prog_1_method_5_code 3 (some .int)) ∈ bgT := List.mem_of_getElem? (i := 238) rfl
set_option maxRecDepth 100000 in
theorem k_239 : (Cond.methodLink "LoanDesk" 83 y_isLoan) ∈ bgT := List.mem_of_getElem? (i := 239) rfl
set_option maxRecDepth 100000 in
theorem k_240 : (Cond.instanceMethod y_isLoan) ∈ bgT := List.mem_of_getElem? (i := 240) rfl
set_option maxRecDepth 100000 in
theorem k_241 : (Cond.selects "LoanDesk$Graph" y_isLoan y_isLoan) ∈ bgT := List.mem_of_getElem? (i := 241) rfl
set_option maxRecDepth 100000 in
theorem k_242 : (Cond.code y_isLoan prog_2_method_5_code 2 (some .boolean)) ∈ bgT := List.mem_of_getElem? (i := 242) rfl
set_option maxRecDepth 100000 in
theorem k_243 : (Cond.methodLink "LoanDesk" 86 y_follow) ∈ bgT := List.mem_of_getElem? (i := 243) rfl
set_option maxRecDepth 100000 in
theorem k_244 : (Cond.instanceMethod y_follow) ∈ bgT := List.mem_of_getElem? (i := 244) rfl
set_option maxRecDepth 100000 in
theorem k_245 : (Cond.selects "LoanDesk$Holding" y_follow y_follow) ∈ bgT := List.mem_of_getElem? (i := 245) rfl
set_option maxRecDepth 100000 in
theorem k_246 : (Cond.code y_follow prog_3_method_3_code 4 none) ∈ bgT := List.mem_of_getElem? (i := 246) rfl
set_option maxRecDepth 100000 in
theorem k_247 : (Cond.methodLink "LoanDesk$Holding" 29 y_fillI) ∈ bgT := List.mem_of_getElem? (i := 247) rfl
set_option maxRecDepth 100000 in
theorem k_248 : (Cond.methodLink "LoanDesk$Holding" 35 y_put) ∈ bgT := List.mem_of_getElem? (i := 248) rfl
set_option maxRecDepth 100000 in
theorem k_249 : (Cond.methodLink "LoanDesk$Holding" 39 y_pEmpty) ∈ bgT := List.mem_of_getElem? (i := 249) rfl
set_option maxRecDepth 100000 in
theorem k_250 : (Cond.methodLink "LoanDesk$Holding" 43 y_take) ∈ bgT := List.mem_of_getElem? (i := 250) rfl
set_option maxRecDepth 100000 in
theorem k_251 : (Cond.methodLink "LoanDesk$Holding" 47 y_pass) ∈ bgT := List.mem_of_getElem? (i := 251) rfl
set_option maxRecDepth 100000 in
theorem k_252 : (Cond.instanceMethod y_pass) ∈ bgT := List.mem_of_getElem? (i := 252) rfl
set_option maxRecDepth 100000 in
theorem k_253 : (Cond.code y_pass prog_3_method_4_code 5 none) ∈ bgT := List.mem_of_getElem? (i := 253) rfl
set_option maxRecDepth 100000 in
theorem k_254 : (Cond.methodLink "LoanDesk$Holding" 51 y_heldBehind) ∈ bgT := List.mem_of_getElem? (i := 254) rfl
set_option maxRecDepth 100000 in
theorem k_255 : (Cond.instanceMethod y_heldBehind) ∈ bgT := List.mem_of_getElem? (i := 255) rfl
set_option maxRecDepth 100000 in
theorem k_256 : (Cond.selects "LoanDesk$Graph" y_heldBehind y_heldBehind) ∈ bgT := List.mem_of_getElem? (i := 256) rfl
set_option maxRecDepth 100000 in
theorem k_257 : (Cond.code y_heldBehind prog_2_method_12_code 4 (some .int)) ∈ bgT := List.mem_of_getElem? (i := 257) rfl
set_option maxRecDepth 100000 in
theorem k_258 : (Cond.methodLink "LoanDesk$Graph" 45 y_withHolder) ∈ bgT := List.mem_of_getElem? (i := 258) rfl
set_option maxRecDepth 100000 in
theorem k_259 : (Cond.static y_withHolder) ∈ bgT := List.mem_of_getElem? (i := 259) rfl
set_option maxRecDepth 100000 in
theorem k_260 : (Cond.code y_withHolder prog_2_method_13_code 4 (some .int)) ∈ bgT := List.mem_of_getElem? (i := 260) rfl
set_option maxRecDepth 100000 in
theorem k_261 : (Cond.methodLink "LoanDesk$Holding" 57 y_firstNext) ∈ bgT := List.mem_of_getElem? (i := 261) rfl
set_option maxRecDepth 100000 in
theorem k_262 : (Cond.methodLink "LoanDesk$Holding" 61 y_handOn) ∈ bgT := List.mem_of_getElem? (i := 262) rfl
set_option maxRecDepth 100000 in
theorem k_263 : (Cond.instanceMethod y_handOn) ∈ bgT := List.mem_of_getElem? (i := 263) rfl
set_option maxRecDepth 100000 in
theorem k_264 : (Cond.code y_handOn prog_3_method_5_code 5 none) ∈ bgT := List.mem_of_getElem? (i := 264) rfl
set_option maxRecDepth 100000 in
theorem k_265 : (Cond.methodLink "LoanDesk$Holding" 67 y_isPoint) ∈ bgT := List.mem_of_getElem? (i := 265) rfl
set_option maxRecDepth 100000 in
theorem k_266 : (Cond.methodLink "LoanDesk$Holding" 64 y_secondNext) ∈ bgT := List.mem_of_getElem? (i := 266) rfl
set_option maxRecDepth 100000 in
theorem k_267 : (Cond.methodLink "LoanDesk" 90 y_hbehind) ∈ bgT := List.mem_of_getElem? (i := 267) rfl
set_option maxRecDepth 100000 in
theorem k_268 : (Cond.instanceMethod y_hbehind) ∈ bgT := List.mem_of_getElem? (i := 268) rfl
set_option maxRecDepth 100000 in
theorem k_269 : (Cond.selects "LoanDesk$Holding" y_hbehind y_hbehind) ∈ bgT := List.mem_of_getElem? (i := 269) rfl
set_option maxRecDepth 100000 in
theorem k_270 : (Cond.code y_hbehind prog_3_method_2_code 2 (some .int)) ∈ bgT := List.mem_of_getElem? (i := 270) rfl
set_option maxRecDepth 100000 in
theorem k_271 : (Cond.methodLink "LoanDeskLaw" 33 y_used) ∈ bgT := List.mem_of_getElem? (i := 271) rfl
set_option maxRecDepth 100000 in
theorem k_272 : (Cond.instanceMethod y_used) ∈ bgT := List.mem_of_getElem? (i := 272) rfl
set_option maxRecDepth 100000 in
theorem k_273 : (Cond.selects "LoanDesk" y_used y_used) ∈ bgT := List.mem_of_getElem? (i := 273) rfl
set_option maxRecDepth 100000 in
theorem k_274 : (Cond.code y_used prog_1_method_6_code 2 (some .int)) ∈ bgT := List.mem_of_getElem? (i := 274) rfl
set_option maxRecDepth 100000 in
theorem k_275 : (Cond.methodLink "LoanDesk" 94 y_ubehind) ∈ bgT := List.mem_of_getElem? (i := 275) rfl
set_option maxRecDepth 100000 in
theorem k_276 : (Cond.methodLink "LoanDeskLaw" 38 y_isAlive) ∈ bgT := List.mem_of_getElem? (i := 276) rfl
set_option maxRecDepth 100000 in
theorem k_277 : (Cond.instanceMethod y_isAlive) ∈ bgT := List.mem_of_getElem? (i := 277) rfl
set_option maxRecDepth 100000 in
theorem k_278 : (Cond.selects "LoanDesk" y_isAlive y_isAlive) ∈ bgT := List.mem_of_getElem? (i := 278) rfl
set_option maxRecDepth 100000 in
theorem k_279 : (Cond.code y_isAlive prog_1_method_7_code 3 (some .boolean)) ∈ bgT := List.mem_of_getElem? (i := 279) rfl
set_option maxRecDepth 100000 in
theorem k_280 : (Cond.methodLink "LoanDesk" 95 y_holders) ∈ bgT := List.mem_of_getElem? (i := 280) rfl
set_option maxRecDepth 100000 in
theorem k_281 : (Cond.methodLink "LoanDesk" 99 y_used) ∈ bgT := List.mem_of_getElem? (i := 281) rfl
set_option maxRecDepth 100000 in
theorem k_282 : (Cond.methodLink "LoanDeskLaw" 43 y_met) ∈ bgT := List.mem_of_getElem? (i := 282) rfl
set_option maxRecDepth 100000 in
theorem k_283 : (Cond.instanceMethod y_met) ∈ bgT := List.mem_of_getElem? (i := 283) rfl
set_option maxRecDepth 100000 in
theorem k_284 : (Cond.selects "LoanDesk" y_met y_met) ∈ bgT := List.mem_of_getElem? (i := 284) rfl
set_option maxRecDepth 100000 in
theorem k_285 : (Cond.code y_met prog_1_method_8_code 3 (some .int)) ∈ bgT := List.mem_of_getElem? (i := 285) rfl
set_option maxRecDepth 100000 in
theorem k_286 : (Cond.methodLink "LoanDesk" 102 y_findMeet) ∈ bgT := List.mem_of_getElem? (i := 286) rfl
set_option maxRecDepth 100000 in
theorem k_287 : (Cond.instanceMethod y_findMeet) ∈ bgT := List.mem_of_getElem? (i := 287) rfl
set_option maxRecDepth 100000 in
theorem k_288 : (Cond.code y_findMeet prog_1_method_18_code 2 none) ∈ bgT := List.mem_of_getElem? (i := 288) rfl
set_option maxRecDepth 100000 in
theorem k_289 : (Cond.methodLink "LoanDesk" 139 y_mempty) ∈ bgT := List.mem_of_getElem? (i := 289) rfl
set_option maxRecDepth 100000 in
theorem k_290 : (Cond.instanceMethod y_mempty) ∈ bgT := List.mem_of_getElem? (i := 290) rfl
set_option maxRecDepth 100000 in
theorem k_291 : (Cond.selects "LoanDesk$Meetings" y_mempty y_mempty) ∈ bgT := List.mem_of_getElem? (i := 291) rfl
set_option maxRecDepth 100000 in
theorem k_292 : (Cond.code y_mempty prog_4_method_2_code 1 none) ∈ bgT := List.mem_of_getElem? (i := 292) rfl
set_option maxRecDepth 100000 in
theorem k_293 : (Cond.methodLink "LoanDesk$Meetings" 15 y_fillJ) ∈ bgT := List.mem_of_getElem? (i := 293) rfl
set_option maxRecDepth 100000 in
theorem k_294 : (Cond.static y_fillJ) ∈ bgT := List.mem_of_getElem? (i := 294) rfl
set_option maxRecDepth 100000 in
theorem k_295 : (Cond.code y_fillJ prog_11_method_101_code 5 none) ∈ bgT := List.mem_of_getElem? (i := 295) rfl
set_option maxRecDepth 100000 in
theorem k_296 : (Cond.methodLink "LoanDesk" 108 y_gsize) ∈ bgT := List.mem_of_getElem? (i := 296) rfl
set_option maxRecDepth 100000 in
theorem k_297 : (Cond.methodLink "LoanDesk" 140 y_addMeet) ∈ bgT := List.mem_of_getElem? (i := 297) rfl
set_option maxRecDepth 100000 in
theorem k_298 : (Cond.instanceMethod y_addMeet) ∈ bgT := List.mem_of_getElem? (i := 298) rfl
set_option maxRecDepth 100000 in
theorem k_299 : (Cond.code y_addMeet prog_1_method_19_code 4 none) ∈ bgT := List.mem_of_getElem? (i := 299) rfl
set_option maxRecDepth 100000 in
theorem k_300 : (Cond.methodLink "LoanDesk" 144 y_borrowing) ∈ bgT := List.mem_of_getElem? (i := 300) rfl
set_option maxRecDepth 100000 in
theorem k_301 : (Cond.instanceMethod y_borrowing) ∈ bgT := List.mem_of_getElem? (i := 301) rfl
set_option maxRecDepth 100000 in
theorem k_302 : (Cond.selects "LoanDesk$Graph" y_borrowing y_borrowing) ∈ bgT := List.mem_of_getElem? (i := 302) rfl
set_option maxRecDepth 100000 in
theorem k_303 : (Cond.code y_borrowing prog_2_method_15_code 2 (some .int)) ∈ bgT := List.mem_of_getElem? (i := 303) rfl
set_option maxRecDepth 100000 in
theorem k_304 : (Cond.methodLink "LoanDesk$Graph" 38 y_isLoan) ∈ bgT := List.mem_of_getElem? (i := 304) rfl
set_option maxRecDepth 100000 in
theorem k_305 : (Cond.methodLink "LoanDesk" 147 y_touches) ∈ bgT := List.mem_of_getElem? (i := 305) rfl
set_option maxRecDepth 100000 in
theorem k_306 : (Cond.instanceMethod y_touches) ∈ bgT := List.mem_of_getElem? (i := 306) rfl
set_option maxRecDepth 100000 in
theorem k_307 : (Cond.selects "LoanDesk$Graph" y_touches y_touches) ∈ bgT := List.mem_of_getElem? (i := 307) rfl
set_option maxRecDepth 100000 in
theorem k_308 : (Cond.code y_touches prog_2_method_16_code 4 (some .boolean)) ∈ bgT := List.mem_of_getElem? (i := 308) rfl
set_option maxRecDepth 100000 in
theorem k_309 : (Cond.methodLink "LoanDesk$Graph" 49 y_isChange) ∈ bgT := List.mem_of_getElem? (i := 309) rfl
set_option maxRecDepth 100000 in
theorem k_310 : (Cond.instanceMethod y_isChange) ∈ bgT := List.mem_of_getElem? (i := 310) rfl
set_option maxRecDepth 100000 in
theorem k_311 : (Cond.code y_isChange prog_2_method_17_code 2 (some .boolean)) ∈ bgT := List.mem_of_getElem? (i := 311) rfl
set_option maxRecDepth 100000 in
theorem k_312 : (Cond.methodLink "LoanDesk$Graph" 52 y_isLook) ∈ bgT := List.mem_of_getElem? (i := 312) rfl
set_option maxRecDepth 100000 in
theorem k_313 : (Cond.instanceMethod y_isLook) ∈ bgT := List.mem_of_getElem? (i := 313) rfl
set_option maxRecDepth 100000 in
theorem k_314 : (Cond.code y_isLook prog_2_method_18_code 2 (some .boolean)) ∈ bgT := List.mem_of_getElem? (i := 314) rfl
set_option maxRecDepth 100000 in
theorem k_315 : (Cond.methodLink "LoanDesk$Graph" 55 y_overlap) ∈ bgT := List.mem_of_getElem? (i := 315) rfl
set_option maxRecDepth 100000 in
theorem k_316 : (Cond.static y_overlap) ∈ bgT := List.mem_of_getElem? (i := 316) rfl
set_option maxRecDepth 100000 in
theorem k_317 : (Cond.code y_overlap prog_2_method_19_code 5 (some .boolean)) ∈ bgT := List.mem_of_getElem? (i := 317) rfl
set_option maxRecDepth 100000 in
theorem k_318 : (Cond.methodLink "LoanDesk$Graph" 59 y_math_min) ∈ bgT := List.mem_of_getElem? (i := 318) rfl
set_option maxRecDepth 100000 in
theorem k_319 : (Cond.methodLink "LoanDesk$Graph" 65 y_math_max) ∈ bgT := List.mem_of_getElem? (i := 319) rfl
set_option maxRecDepth 100000 in
theorem k_320 : (Cond.static y_math_max) ∈ bgT := List.mem_of_getElem? (i := 320) rfl
set_option maxRecDepth 100000 in
theorem k_321 : (Cond.code y_math_max prog_10_method_65_code 2 (some .int)) ∈ bgT := List.mem_of_getElem? (i := 321) rfl
set_option maxRecDepth 100000 in
theorem k_322 : (Cond.methodLink "LoanDesk" 151 y_madd) ∈ bgT := List.mem_of_getElem? (i := 322) rfl
set_option maxRecDepth 100000 in
theorem k_323 : (Cond.instanceMethod y_madd) ∈ bgT := List.mem_of_getElem? (i := 323) rfl
set_option maxRecDepth 100000 in
theorem k_324 : (Cond.selects "LoanDesk$Meetings" y_madd y_madd) ∈ bgT := List.mem_of_getElem? (i := 324) rfl
set_option maxRecDepth 100000 in
theorem k_325 : (Cond.code y_madd prog_4_method_3_code 3 none) ∈ bgT := List.mem_of_getElem? (i := 325) rfl
set_option maxRecDepth 100000 in
theorem k_326 : (Cond.methodLink "LoanDesk" 105 y_least) ∈ bgT := List.mem_of_getElem? (i := 326) rfl
set_option maxRecDepth 100000 in
theorem k_327 : (Cond.instanceMethod y_least) ∈ bgT := List.mem_of_getElem? (i := 327) rfl
set_option maxRecDepth 100000 in
theorem k_328 : (Cond.selects "LoanDesk$Meetings" y_least y_least) ∈ bgT := List.mem_of_getElem? (i := 328) rfl
set_option maxRecDepth 100000 in
theorem k_329 : (Cond.code y_least prog_4_method_6_code 4 (some .int)) ∈ bgT := List.mem_of_getElem? (i := 329) rfl
set_option maxRecDepth 100000 in
theorem k_330 : (Cond.methodLink "LoanDesk$Meetings" 28 y_isAt) ∈ bgT := List.mem_of_getElem? (i := 330) rfl
set_option maxRecDepth 100000 in
theorem k_331 : (Cond.instanceMethod y_isAt) ∈ bgT := List.mem_of_getElem? (i := 331) rfl
set_option maxRecDepth 100000 in
theorem k_332 : (Cond.code y_isAt prog_4_method_8_code 3 (some .boolean)) ∈ bgT := List.mem_of_getElem? (i := 332) rfl
set_option maxRecDepth 100000 in
theorem k_333 : (Cond.methodLink "LoanDeskLaw" 47 y_count) ∈ bgT := List.mem_of_getElem? (i := 333) rfl
set_option maxRecDepth 100000 in
theorem k_334 : (Cond.instanceMethod y_count) ∈ bgT := List.mem_of_getElem? (i := 334) rfl
set_option maxRecDepth 100000 in
theorem k_335 : (Cond.selects "LoanDesk" y_count y_count) ∈ bgT := List.mem_of_getElem? (i := 335) rfl
set_option maxRecDepth 100000 in
theorem k_336 : (Cond.code y_count prog_1_method_9_code 2 (some .int)) ∈ bgT := List.mem_of_getElem? (i := 336) rfl
set_option maxRecDepth 100000 in
theorem k_337 : (Cond.methodLink "LoanDesk" 112 y_rcount) ∈ bgT := List.mem_of_getElem? (i := 337) rfl
set_option maxRecDepth 100000 in
theorem k_338 : (Cond.instanceMethod y_rcount) ∈ bgT := List.mem_of_getElem? (i := 338) rfl
set_option maxRecDepth 100000 in
theorem k_339 : (Cond.selects "LoanDesk$Reach" y_rcount y_rcount) ∈ bgT := List.mem_of_getElem? (i := 339) rfl
set_option maxRecDepth 100000 in
theorem k_340 : (Cond.code y_rcount prog_6_method_3_code 3 (some .int)) ∈ bgT := List.mem_of_getElem? (i := 340) rfl
set_option maxRecDepth 100000 in
theorem k_341 : (Cond.methodLink "LoanDesk" 115 y_mcount) ∈ bgT := List.mem_of_getElem? (i := 341) rfl
set_option maxRecDepth 100000 in
theorem k_342 : (Cond.instanceMethod y_mcount) ∈ bgT := List.mem_of_getElem? (i := 342) rfl
set_option maxRecDepth 100000 in
theorem k_343 : (Cond.selects "LoanDesk$Meetings" y_mcount y_mcount) ∈ bgT := List.mem_of_getElem? (i := 343) rfl
set_option maxRecDepth 100000 in
theorem k_344 : (Cond.code y_mcount prog_4_method_4_code 3 (some .int)) ∈ bgT := List.mem_of_getElem? (i := 344) rfl
set_option maxRecDepth 100000 in
theorem k_345 : (Cond.methodLink "LoanDesk$Meetings" 25 y_isAnyAt) ∈ bgT := List.mem_of_getElem? (i := 345) rfl
set_option maxRecDepth 100000 in
theorem k_346 : (Cond.instanceMethod y_isAnyAt) ∈ bgT := List.mem_of_getElem? (i := 346) rfl
set_option maxRecDepth 100000 in
theorem k_347 : (Cond.code y_isAnyAt prog_4_method_7_code 2 (some .boolean)) ∈ bgT := List.mem_of_getElem? (i := 347) rfl
set_option maxRecDepth 100000 in
theorem k_348 : (Cond.methodLink "LoanDesk" 116 y_mfirst) ∈ bgT := List.mem_of_getElem? (i := 348) rfl
set_option maxRecDepth 100000 in
theorem k_349 : (Cond.instanceMethod y_mfirst) ∈ bgT := List.mem_of_getElem? (i := 349) rfl
set_option maxRecDepth 100000 in
theorem k_350 : (Cond.selects "LoanDesk$Meetings" y_mfirst y_mfirst) ∈ bgT := List.mem_of_getElem? (i := 350) rfl
set_option maxRecDepth 100000 in
theorem k_351 : (Cond.code y_mfirst prog_4_method_5_code 2 (some .int)) ∈ bgT := List.mem_of_getElem? (i := 351) rfl
set_option maxRecDepth 100000 in
theorem k_352 : (Cond.methodLink "LoanDesk" 119 y_countLoans) ∈ bgT := List.mem_of_getElem? (i := 352) rfl
set_option maxRecDepth 100000 in
theorem k_353 : (Cond.instanceMethod y_countLoans) ∈ bgT := List.mem_of_getElem? (i := 353) rfl
set_option maxRecDepth 100000 in
theorem k_354 : (Cond.selects "LoanDesk$Graph" y_countLoans y_countLoans) ∈ bgT := List.mem_of_getElem? (i := 354) rfl
set_option maxRecDepth 100000 in
theorem k_355 : (Cond.code y_countLoans prog_2_method_6_code 3 (some .int)) ∈ bgT := List.mem_of_getElem? (i := 355) rfl
set_option maxRecDepth 100000 in
theorem k_356 : (Cond.methodLink "LoanDeskLaw" 51 y_clear) ∈ bgT := List.mem_of_getElem? (i := 356) rfl
set_option maxRecDepth 100000 in
theorem k_357 : (Cond.instanceMethod y_clear) ∈ bgT := List.mem_of_getElem? (i := 357) rfl
set_option maxRecDepth 100000 in
theorem k_358 : (Cond.selects "LoanDesk" y_clear y_clear) ∈ bgT := List.mem_of_getElem? (i := 358) rfl
set_option maxRecDepth 100000 in
theorem k_359 : (Cond.code y_clear prog_1_method_10_code 2 (some .int)) ∈ bgT := List.mem_of_getElem? (i := 359) rfl
set_option maxRecDepth 100000 in
theorem k_360 : (Cond.methodLink "LoanDesk" 122 y_gempty) ∈ bgT := List.mem_of_getElem? (i := 360) rfl
set_option maxRecDepth 100000 in
theorem k_361 : (Cond.instanceMethod y_gempty) ∈ bgT := List.mem_of_getElem? (i := 361) rfl
set_option maxRecDepth 100000 in
theorem k_362 : (Cond.selects "LoanDesk$Graph" y_gempty y_gempty) ∈ bgT := List.mem_of_getElem? (i := 362) rfl
set_option maxRecDepth 100000 in
theorem k_363 : (Cond.code y_gempty prog_2_method_9_code 1 none) ∈ bgT := List.mem_of_getElem? (i := 363) rfl
set_option maxRecDepth 100000 in
theorem k_364 : (Cond.classLink "LoanDeskLaw" 10 "LoanDeskModel") ∈ bgT := List.mem_of_getElem? (i := 364) rfl
set_option maxRecDepth 100000 in
theorem k_365 : (Cond.instantiable "LoanDeskModel" 14) ∈ bgT := List.mem_of_getElem? (i := 365) rfl
set_option maxRecDepth 100000 in
theorem k_366 : (Cond.methodLink "LoanDeskLaw" 12 y_iF) ∈ bgT := List.mem_of_getElem? (i := 366) rfl
set_option maxRecDepth 100000 in
theorem k_367 : (Cond.instanceMethod y_iF) ∈ bgT := List.mem_of_getElem? (i := 367) rfl
set_option maxRecDepth 100000 in
theorem k_368 : (Cond.code y_iF prog_9_method_1_code 1 none) ∈ bgT := List.mem_of_getElem? (i := 368) rfl
set_option maxRecDepth 100000 in
theorem k_369 : (Cond.methodLink "LoanDeskModel" 1 objectInit) ∈ bgT := List.mem_of_getElem? (i := 369) rfl
set_option maxRecDepth 100000 in
theorem k_370 : (Cond.fieldLink "LoanDeskModel" 44 "LoanDeskModel" "points" "I") ∈ bgT := List.mem_of_getElem? (i := 370) rfl
set_option maxRecDepth 100000 in
theorem k_371 : (Cond.fieldLink "LoanDeskModel" 7 "LoanDeskModel" "doings" "[I") ∈ bgT := List.mem_of_getElem? (i := 371) rfl
set_option maxRecDepth 100000 in
theorem k_372 : (Cond.fieldLink "LoanDeskModel" 13 "LoanDeskModel" "as" "[I") ∈ bgT := List.mem_of_getElem? (i := 372) rfl
set_option maxRecDepth 100000 in
theorem k_373 : (Cond.fieldLink "LoanDeskModel" 16 "LoanDeskModel" "bs" "[I") ∈ bgT := List.mem_of_getElem? (i := 373) rfl
set_option maxRecDepth 100000 in
theorem k_374 : (Cond.fieldLink "LoanDeskModel" 19 "LoanDeskModel" "cs" "[I") ∈ bgT := List.mem_of_getElem? (i := 374) rfl
set_option maxRecDepth 100000 in
theorem k_375 : (Cond.fieldLink "LoanDeskModel" 22 "LoanDeskModel" "xs" "[I") ∈ bgT := List.mem_of_getElem? (i := 375) rfl
set_option maxRecDepth 100000 in
theorem k_376 : (Cond.fieldLink "LoanDeskModel" 25 "LoanDeskModel" "ys" "[I") ∈ bgT := List.mem_of_getElem? (i := 376) rfl
set_option maxRecDepth 100000 in
theorem k_377 : (Cond.fieldLink "LoanDeskModel" 55 "LoanDeskModel" "known" "Z") ∈ bgT := List.mem_of_getElem? (i := 377) rfl
set_option maxRecDepth 100000 in
theorem k_378 : (Cond.fieldLink "LoanDeskModel" 28 "LoanDeskModel" "reached" "[Z") ∈ bgT := List.mem_of_getElem? (i := 378) rfl
set_option maxRecDepth 100000 in
theorem k_379 : (Cond.fieldLink "LoanDeskModel" 32 "LoanDeskModel" "later" "[I") ∈ bgT := List.mem_of_getElem? (i := 379) rfl
set_option maxRecDepth 100000 in
theorem k_380 : (Cond.fieldLink "LoanDeskModel" 35 "LoanDeskModel" "holds" "[I") ∈ bgT := List.mem_of_getElem? (i := 380) rfl
set_option maxRecDepth 100000 in
theorem k_381 : (Cond.fieldLink "LoanDeskModel" 38 "LoanDeskModel" "pile" "[I") ∈ bgT := List.mem_of_getElem? (i := 381) rfl
set_option maxRecDepth 100000 in
theorem k_382 : (Cond.fieldLink "LoanDeskModel" 41 "LoanDeskModel" "seen" "[Z") ∈ bgT := List.mem_of_getElem? (i := 382) rfl
set_option maxRecDepth 100000 in
theorem k_383 : (Cond.fieldLink "LoanDeskModel" 59 "LoanDeskModel" "high" "I") ∈ bgT := List.mem_of_getElem? (i := 383) rfl
set_option maxRecDepth 100000 in
theorem k_384 : (Cond.lays "LoanDeskModel" "LoanDeskModel" "points" "I") ∈ bgT := List.mem_of_getElem? (i := 384) rfl
set_option maxRecDepth 100000 in
theorem k_385 : (Cond.laysFinal "LoanDeskModel" "LoanDeskModel" "doings" "[I") ∈ bgT := List.mem_of_getElem? (i := 385) rfl
set_option maxRecDepth 100000 in
theorem k_386 : (Cond.laysFinal "LoanDeskModel" "LoanDeskModel" "as" "[I") ∈ bgT := List.mem_of_getElem? (i := 386) rfl
set_option maxRecDepth 100000 in
theorem k_387 : (Cond.laysFinal "LoanDeskModel" "LoanDeskModel" "bs" "[I") ∈ bgT := List.mem_of_getElem? (i := 387) rfl
set_option maxRecDepth 100000 in
theorem k_388 : (Cond.laysFinal "LoanDeskModel" "LoanDeskModel" "cs" "[I") ∈ bgT := List.mem_of_getElem? (i := 388) rfl
set_option maxRecDepth 100000 in
theorem k_389 : (Cond.laysFinal "LoanDeskModel" "LoanDeskModel" "xs" "[I") ∈ bgT := List.mem_of_getElem? (i := 389) rfl
set_option maxRecDepth 100000 in
theorem k_390 : (Cond.laysFinal "LoanDeskModel" "LoanDeskModel" "ys" "[I") ∈ bgT := List.mem_of_getElem? (i := 390) rfl
set_option maxRecDepth 100000 in
theorem k_391 : (Cond.lays "LoanDeskModel" "LoanDeskModel" "known" "Z") ∈ bgT := List.mem_of_getElem? (i := 391) rfl
set_option maxRecDepth 100000 in
theorem k_392 : (Cond.laysFinal "LoanDeskModel" "LoanDeskModel" "reached" "[Z") ∈ bgT := List.mem_of_getElem? (i := 392) rfl
set_option maxRecDepth 100000 in
theorem k_393 : (Cond.laysFinal "LoanDeskModel" "LoanDeskModel" "later" "[I") ∈ bgT := List.mem_of_getElem? (i := 393) rfl
set_option maxRecDepth 100000 in
theorem k_394 : (Cond.laysFinal "LoanDeskModel" "LoanDeskModel" "holds" "[I") ∈ bgT := List.mem_of_getElem? (i := 394) rfl
set_option maxRecDepth 100000 in
theorem k_395 : (Cond.laysFinal "LoanDeskModel" "LoanDeskModel" "pile" "[I") ∈ bgT := List.mem_of_getElem? (i := 395) rfl
set_option maxRecDepth 100000 in
theorem k_396 : (Cond.laysFinal "LoanDeskModel" "LoanDeskModel" "seen" "[Z") ∈ bgT := List.mem_of_getElem? (i := 396) rfl
set_option maxRecDepth 100000 in
theorem k_397 : (Cond.lays "LoanDeskModel" "LoanDeskModel" "high" "I") ∈ bgT := List.mem_of_getElem? (i := 397) rfl
set_option maxRecDepth 100000 in
theorem k_398 : (Cond.methodLink "LoanDeskLaw" 17 y_fpoint) ∈ bgT := List.mem_of_getElem? (i := 398) rfl
set_option maxRecDepth 100000 in
theorem k_399 : (Cond.instanceMethod y_fpoint) ∈ bgT := List.mem_of_getElem? (i := 399) rfl
set_option maxRecDepth 100000 in
theorem k_400 : (Cond.selects "LoanDeskModel" y_fpoint y_fpoint) ∈ bgT := List.mem_of_getElem? (i := 400) rfl
set_option maxRecDepth 100000 in
theorem k_401 : (Cond.code y_fpoint prog_9_method_4_code 6 (some .int)) ∈ bgT := List.mem_of_getElem? (i := 401) rfl
set_option maxRecDepth 100000 in
theorem k_402 : (Cond.methodLink "LoanDeskModel" 48 y_fIsRef) ∈ bgT := List.mem_of_getElem? (i := 402) rfl
set_option maxRecDepth 100000 in
theorem k_403 : (Cond.static y_fIsRef) ∈ bgT := List.mem_of_getElem? (i := 403) rfl
set_option maxRecDepth 100000 in
theorem k_404 : (Cond.code y_fIsRef prog_9_method_2_code 1 (some .boolean)) ∈ bgT := List.mem_of_getElem? (i := 404) rfl
set_option maxRecDepth 100000 in
theorem k_405 : (Cond.methodLink "LoanDeskModel" 52 y_fIsPlace) ∈ bgT := List.mem_of_getElem? (i := 405) rfl
set_option maxRecDepth 100000 in
theorem k_406 : (Cond.static y_fIsPlace) ∈ bgT := List.mem_of_getElem? (i := 406) rfl
set_option maxRecDepth 100000 in
theorem k_407 : (Cond.code y_fIsPlace prog_9_method_3_code 4 (some .boolean)) ∈ bgT := List.mem_of_getElem? (i := 407) rfl
set_option maxRecDepth 100000 in
theorem k_408 : (Cond.methodLink "LoanDeskLaw" 22 y_fnext) ∈ bgT := List.mem_of_getElem? (i := 408) rfl
set_option maxRecDepth 100000 in
theorem k_409 : (Cond.instanceMethod y_fnext) ∈ bgT := List.mem_of_getElem? (i := 409) rfl
set_option maxRecDepth 100000 in
theorem k_410 : (Cond.selects "LoanDeskModel" y_fnext y_fnext) ∈ bgT := List.mem_of_getElem? (i := 410) rfl
set_option maxRecDepth 100000 in
theorem k_411 : (Cond.code y_fnext prog_9_method_5_code 4 (some .boolean)) ∈ bgT := List.mem_of_getElem? (i := 411) rfl
set_option maxRecDepth 100000 in
theorem k_412 : (Cond.methodLink "LoanDeskLaw" 27 y_fIsReached) ∈ bgT := List.mem_of_getElem? (i := 412) rfl
set_option maxRecDepth 100000 in
theorem k_413 : (Cond.instanceMethod y_fIsReached) ∈ bgT := List.mem_of_getElem? (i := 413) rfl
set_option maxRecDepth 100000 in
theorem k_414 : (Cond.selects "LoanDeskModel" y_fIsReached y_fIsReached) ∈ bgT := List.mem_of_getElem? (i := 414) rfl
set_option maxRecDepth 100000 in
theorem k_415 : (Cond.code y_fIsReached prog_9_method_15_code 2 (some .boolean)) ∈ bgT := List.mem_of_getElem? (i := 415) rfl
set_option maxRecDepth 100000 in
theorem k_416 : (Cond.methodLink "LoanDeskModel" 89 y_flearn) ∈ bgT := List.mem_of_getElem? (i := 416) rfl
set_option maxRecDepth 100000 in
theorem k_417 : (Cond.instanceMethod y_flearn) ∈ bgT := List.mem_of_getElem? (i := 417) rfl
set_option maxRecDepth 100000 in
theorem k_418 : (Cond.code y_flearn prog_9_method_14_code 3 none) ∈ bgT := List.mem_of_getElem? (i := 418) rfl
set_option maxRecDepth 100000 in
theorem k_419 : (Cond.methodLink "LoanDeskModel" 73 y_fforget) ∈ bgT := List.mem_of_getElem? (i := 419) rfl
set_option maxRecDepth 100000 in
theorem k_420 : (Cond.instanceMethod y_fforget) ∈ bgT := List.mem_of_getElem? (i := 420) rfl
set_option maxRecDepth 100000 in
theorem k_421 : (Cond.code y_fforget prog_9_method_7_code 2 none) ∈ bgT := List.mem_of_getElem? (i := 421) rfl
set_option maxRecDepth 100000 in
theorem k_422 : (Cond.methodLink "LoanDeskModel" 69 y_fmeet) ∈ bgT := List.mem_of_getElem? (i := 422) rfl
set_option maxRecDepth 100000 in
theorem k_423 : (Cond.instanceMethod y_fmeet) ∈ bgT := List.mem_of_getElem? (i := 423) rfl
set_option maxRecDepth 100000 in
theorem k_424 : (Cond.code y_fmeet prog_9_method_8_code 3 none) ∈ bgT := List.mem_of_getElem? (i := 424) rfl
set_option maxRecDepth 100000 in
theorem k_425 : (Cond.methodLink "LoanDeskModel" 62 y_fIsPoint) ∈ bgT := List.mem_of_getElem? (i := 425) rfl
set_option maxRecDepth 100000 in
theorem k_426 : (Cond.instanceMethod y_fIsPoint) ∈ bgT := List.mem_of_getElem? (i := 426) rfl
set_option maxRecDepth 100000 in
theorem k_427 : (Cond.code y_fIsPoint prog_9_method_6_code 2 (some .boolean)) ∈ bgT := List.mem_of_getElem? (i := 427) rfl
set_option maxRecDepth 100000 in
theorem k_428 : (Cond.methodLink "LoanDeskModel" 82 y_fIsUsed) ∈ bgT := List.mem_of_getElem? (i := 428) rfl
set_option maxRecDepth 100000 in
theorem k_429 : (Cond.instanceMethod y_fIsUsed) ∈ bgT := List.mem_of_getElem? (i := 429) rfl
set_option maxRecDepth 100000 in
theorem k_430 : (Cond.code y_fIsUsed prog_9_method_13_code 4 (some .boolean)) ∈ bgT := List.mem_of_getElem? (i := 430) rfl
set_option maxRecDepth 100000 in
theorem k_431 : (Cond.methodLink "LoanDeskModel" 79 y_fuses) ∈ bgT := List.mem_of_getElem? (i := 431) rfl
set_option maxRecDepth 100000 in
theorem k_432 : (Cond.instanceMethod y_fuses) ∈ bgT := List.mem_of_getElem? (i := 432) rfl
set_option maxRecDepth 100000 in
theorem k_433 : (Cond.code y_fuses prog_9_method_10_code 3 (some .boolean)) ∈ bgT := List.mem_of_getElem? (i := 433) rfl
set_option maxRecDepth 100000 in
theorem k_434 : (Cond.methodLink "LoanDeskModel" 65 y_fchanges) ∈ bgT := List.mem_of_getElem? (i := 434) rfl
set_option maxRecDepth 100000 in
theorem k_435 : (Cond.instanceMethod y_fchanges) ∈ bgT := List.mem_of_getElem? (i := 435) rfl
set_option maxRecDepth 100000 in
theorem k_436 : (Cond.code y_fchanges prog_9_method_9_code 3 (some .boolean)) ∈ bgT := List.mem_of_getElem? (i := 436) rfl
set_option maxRecDepth 100000 in
theorem k_437 : (Cond.methodLink "LoanDeskModel" 85 y_fgoAll) ∈ bgT := List.mem_of_getElem? (i := 437) rfl
set_option maxRecDepth 100000 in
theorem k_438 : (Cond.instanceMethod y_fgoAll) ∈ bgT := List.mem_of_getElem? (i := 438) rfl
set_option maxRecDepth 100000 in
theorem k_439 : (Cond.code y_fgoAll prog_9_method_12_code 4 none) ∈ bgT := List.mem_of_getElem? (i := 439) rfl
set_option maxRecDepth 100000 in
theorem k_440 : (Cond.methodLink "LoanDeskModel" 76 y_fthrough) ∈ bgT := List.mem_of_getElem? (i := 440) rfl
set_option maxRecDepth 100000 in
theorem k_441 : (Cond.instanceMethod y_fthrough) ∈ bgT := List.mem_of_getElem? (i := 441) rfl
set_option maxRecDepth 100000 in
theorem k_442 : (Cond.code y_fthrough prog_9_method_11_code 3 none) ∈ bgT := List.mem_of_getElem? (i := 442) rfl
set_option maxRecDepth 100000 in
theorem k_443 : (Cond.methodLink "LoanDeskLaw" 32 y_fholders) ∈ bgT := List.mem_of_getElem? (i := 443) rfl
set_option maxRecDepth 100000 in
theorem k_444 : (Cond.instanceMethod y_fholders) ∈ bgT := List.mem_of_getElem? (i := 444) rfl
set_option maxRecDepth 100000 in
theorem k_445 : (Cond.selects "LoanDeskModel" y_fholders y_fholders) ∈ bgT := List.mem_of_getElem? (i := 445) rfl
set_option maxRecDepth 100000 in
theorem k_446 : (Cond.code y_fholders prog_9_method_16_code 3 (some .int)) ∈ bgT := List.mem_of_getElem? (i := 446) rfl
set_option maxRecDepth 100000 in
theorem k_447 : (Cond.methodLink "LoanDeskLaw" 37 y_fused) ∈ bgT := List.mem_of_getElem? (i := 447) rfl
set_option maxRecDepth 100000 in
theorem k_448 : (Cond.instanceMethod y_fused) ∈ bgT := List.mem_of_getElem? (i := 448) rfl
set_option maxRecDepth 100000 in
theorem k_449 : (Cond.selects "LoanDeskModel" y_fused y_fused) ∈ bgT := List.mem_of_getElem? (i := 449) rfl
set_option maxRecDepth 100000 in
theorem k_450 : (Cond.code y_fused prog_9_method_17_code 2 (some .int)) ∈ bgT := List.mem_of_getElem? (i := 450) rfl
set_option maxRecDepth 100000 in
theorem k_451 : (Cond.methodLink "LoanDeskLaw" 42 y_fIsAlive) ∈ bgT := List.mem_of_getElem? (i := 451) rfl
set_option maxRecDepth 100000 in
theorem k_452 : (Cond.instanceMethod y_fIsAlive) ∈ bgT := List.mem_of_getElem? (i := 452) rfl
set_option maxRecDepth 100000 in
theorem k_453 : (Cond.selects "LoanDeskModel" y_fIsAlive y_fIsAlive) ∈ bgT := List.mem_of_getElem? (i := 453) rfl
set_option maxRecDepth 100000 in
theorem k_454 : (Cond.code y_fIsAlive prog_9_method_18_code 3 (some .boolean)) ∈ bgT := List.mem_of_getElem? (i := 454) rfl
set_option maxRecDepth 100000 in
theorem k_455 : (Cond.methodLink "LoanDeskModel" 92 y_fholders) ∈ bgT := List.mem_of_getElem? (i := 455) rfl
set_option maxRecDepth 100000 in
theorem k_456 : (Cond.methodLink "LoanDeskModel" 96 y_fused) ∈ bgT := List.mem_of_getElem? (i := 456) rfl
set_option maxRecDepth 100000 in
theorem k_457 : (Cond.methodLink "LoanDeskLaw" 46 y_fmet) ∈ bgT := List.mem_of_getElem? (i := 457) rfl
set_option maxRecDepth 100000 in
theorem k_458 : (Cond.instanceMethod y_fmet) ∈ bgT := List.mem_of_getElem? (i := 458) rfl
set_option maxRecDepth 100000 in
theorem k_459 : (Cond.selects "LoanDeskModel" y_fmet y_fmet) ∈ bgT := List.mem_of_getElem? (i := 459) rfl
set_option maxRecDepth 100000 in
theorem k_460 : (Cond.code y_fmet prog_9_method_21_code 5 (some .int)) ∈ bgT := List.mem_of_getElem? (i := 460) rfl
set_option maxRecDepth 100000 in
theorem k_461 : (Cond.methodLink "LoanDeskModel" 109 y_fmeets) ∈ bgT := List.mem_of_getElem? (i := 461) rfl
set_option maxRecDepth 100000 in
theorem k_462 : (Cond.instanceMethod y_fmeets) ∈ bgT := List.mem_of_getElem? (i := 462) rfl
set_option maxRecDepth 100000 in
theorem k_463 : (Cond.code y_fmeets prog_9_method_20_code 5 (some .boolean)) ∈ bgT := List.mem_of_getElem? (i := 463) rfl
set_option maxRecDepth 100000 in
theorem k_464 : (Cond.methodLink "LoanDeskModel" 100 y_fIsReached) ∈ bgT := List.mem_of_getElem? (i := 464) rfl
set_option maxRecDepth 100000 in
theorem k_465 : (Cond.methodLink "LoanDeskModel" 103 y_fIsAlive) ∈ bgT := List.mem_of_getElem? (i := 465) rfl
set_option maxRecDepth 100000 in
theorem k_466 : (Cond.methodLink "LoanDeskModel" 106 y_foverlap) ∈ bgT := List.mem_of_getElem? (i := 466) rfl
set_option maxRecDepth 100000 in
theorem k_467 : (Cond.static y_foverlap) ∈ bgT := List.mem_of_getElem? (i := 467) rfl
set_option maxRecDepth 100000 in
theorem k_468 : (Cond.code y_foverlap prog_9_method_19_code 4 (some .boolean)) ∈ bgT := List.mem_of_getElem? (i := 468) rfl
set_option maxRecDepth 100000 in
theorem k_469 : (Cond.methodLink "LoanDeskLaw" 50 y_fcount) ∈ bgT := List.mem_of_getElem? (i := 469) rfl
set_option maxRecDepth 100000 in
theorem k_470 : (Cond.instanceMethod y_fcount) ∈ bgT := List.mem_of_getElem? (i := 470) rfl
set_option maxRecDepth 100000 in
theorem k_471 : (Cond.selects "LoanDeskModel" y_fcount y_fcount) ∈ bgT := List.mem_of_getElem? (i := 471) rfl
set_option maxRecDepth 100000 in
theorem k_472 : (Cond.code y_fcount prog_9_method_22_code 8 (some .int)) ∈ bgT := List.mem_of_getElem? (i := 472) rfl
set_option maxRecDepth 100000 in
theorem k_473 : (Cond.methodLink "LoanDeskModel" 112 y_fmet) ∈ bgT := List.mem_of_getElem? (i := 473) rfl
set_option maxRecDepth 100000 in
theorem k_474 : (Cond.methodLink "LoanDeskLaw" 55 y_fclear) ∈ bgT := List.mem_of_getElem? (i := 474) rfl
set_option maxRecDepth 100000 in
theorem k_475 : (Cond.instanceMethod y_fclear) ∈ bgT := List.mem_of_getElem? (i := 475) rfl
set_option maxRecDepth 100000 in
theorem k_476 : (Cond.selects "LoanDeskModel" y_fclear y_fclear) ∈ bgT := List.mem_of_getElem? (i := 476) rfl
set_option maxRecDepth 100000 in
theorem k_477 : (Cond.code y_fclear prog_9_method_23_code 2 (some .int)) ∈ bgT := List.mem_of_getElem? (i := 477) rfl
def ld_nwT : List (String × Nat × MethodName × String) := [("LoanDesk", 9, y_iG, "LoanDesk"), ("LoanDesk", 18, y_iR, "LoanDesk"), ("LoanDesk$Reach", 17, y_iP, "LoanDesk"), ("LoanDesk", 25, y_iU, "LoanDesk"), ("LoanDesk", 32, y_iH, "LoanDesk"), ("LoanDesk$Holding", 20, y_iP, "LoanDesk"), ("LoanDesk", 39, y_iM, "LoanDesk"), ("LoanDesk$Reach", 22, y_isIndex, "LoanDesk"), ("LoanDesk$Pile", 23, y_isIndex, "LoanDesk"), ("LoanDesk$Uses", 15, y_isIndex, "LoanDesk"), ("LoanDesk$Holding", 25, y_isIndex, "LoanDesk"), ("LoanDesk$Meetings", 21, y_isIndex, "LoanDesk")]
def ld_nwc (q : String × Nat × MethodName × String) : Cond := .methodLinkNest q.1 q.2.1 q.2.2.1 q.2.2.2
def ld_nw (U : State) : Prop := ∀ q ∈ ld_nwT, va_Nw (ld_nwc q) U
theorem ld_nwm (i : Nat) {q : String × Nat × MethodName × String} (h : ld_nwT[i]? = some q) : q ∈ ld_nwT := List.mem_of_getElem? h
theorem ld_nw_warm {s U : State} (hW : s.WarmedH U.vm) (h : ld_nw s) : ld_nw U := fun q hq => va_Nw.warmM hW (h q hq)
theorem ld_nw_same {u U : State} (e : u.vm = U.vm) (h : ld_nw u) : ld_nw U := fun q hq => va_Nw.same rfl e (h q hq)
def T_Graph : u_T := fun k => match k with
  | 0 => ("LoanDesk$Graph", "doings", "[I", true)
  | 1 => ("LoanDesk$Graph", "as", "[I", true)
  | 2 => ("LoanDesk$Graph", "bs", "[I", true)
  | 3 => ("LoanDesk$Graph", "cs", "[I", true)
  | 4 => ("LoanDesk$Graph", "xs", "[I", true)
  | 5 => ("LoanDesk$Graph", "ys", "[I", true)
  | _ => ("LoanDesk$Graph", "size", "I", false)
def t_Graph : Nat → FieldType := fun k => match k with
  | 0 => .array .int
  | 1 => .array .int
  | 2 => .array .int
  | 3 => .array .int
  | 4 => .array .int
  | 5 => .array .int
  | _ => .int
theorem n_Graph : ∀ a, a < 7 → ∀ b, b < 7 → a ≠ b → (T_Graph a).2.1 ≠ (T_Graph b).2.1 := by decide +kernel
theorem tk_Graph : ∀ k, k < 7 → parseFieldDescriptor (T_Graph k).2.2.1 = some (t_Graph k) := by decide +kernel
theorem u_Graph : ∀ w ∈ u_ws "LoanDesk$Graph" T_Graph 7, w ∈ bgT := by decide +kernel
def T_Pile : u_T := fun k => match k with
  | 0 => ("LoanDesk$Pile", "points", "[I", true)
  | 1 => ("LoanDesk$Pile", "isIn", "[Z", true)
  | _ => ("LoanDesk$Pile", "size", "I", false)
def t_Pile : Nat → FieldType := fun k => match k with
  | 0 => .array .int
  | 1 => .array .boolean
  | _ => .int
theorem n_Pile : ∀ a, a < 3 → ∀ b, b < 3 → a ≠ b → (T_Pile a).2.1 ≠ (T_Pile b).2.1 := by decide +kernel
theorem tk_Pile : ∀ k, k < 3 → parseFieldDescriptor (T_Pile k).2.2.1 = some (t_Pile k) := by decide +kernel
theorem u_Pile : ∀ w ∈ u_ws "LoanDesk$Pile" T_Pile 3, w ∈ bgT := by decide +kernel
def T_Reach : u_T := fun k => match k with
  | 0 => ("LoanDesk$Reach", "reached", "[I", true)
  | _ => ("LoanDesk$Reach", "pile", "LLoanDesk$Pile;", true)
def t_Reach : Nat → FieldType := fun k => match k with
  | 0 => .array .int
  | _ => .object "LoanDesk$Pile"
theorem n_Reach : ∀ a, a < 2 → ∀ b, b < 2 → a ≠ b → (T_Reach a).2.1 ≠ (T_Reach b).2.1 := by decide +kernel
theorem tk_Reach : ∀ k, k < 2 → parseFieldDescriptor (T_Reach k).2.2.1 = some (t_Reach k) := by decide +kernel
theorem u_Reach : ∀ w ∈ u_ws "LoanDesk$Reach" T_Reach 2, w ∈ bgT := by decide +kernel
def T_Uses : u_T := fun k => match k with
  | _ => ("LoanDesk$Uses", "later", "[I", true)
def t_Uses : Nat → FieldType := fun k => match k with
  | _ => .array .int
theorem n_Uses : ∀ a, a < 1 → ∀ b, b < 1 → a ≠ b → (T_Uses a).2.1 ≠ (T_Uses b).2.1 := by decide +kernel
theorem tk_Uses : ∀ k, k < 1 → parseFieldDescriptor (T_Uses k).2.2.1 = some (t_Uses k) := by decide +kernel
theorem u_Uses : ∀ w ∈ u_ws "LoanDesk$Uses" T_Uses 1, w ∈ bgT := by decide +kernel
def T_Holding : u_T := fun k => match k with
  | 0 => ("LoanDesk$Holding", "ahead", "[I", true)
  | 1 => ("LoanDesk$Holding", "behind", "[I", true)
  | _ => ("LoanDesk$Holding", "pile", "LLoanDesk$Pile;", true)
def t_Holding : Nat → FieldType := fun k => match k with
  | 0 => .array .int
  | 1 => .array .int
  | _ => .object "LoanDesk$Pile"
theorem n_Holding : ∀ a, a < 3 → ∀ b, b < 3 → a ≠ b → (T_Holding a).2.1 ≠ (T_Holding b).2.1 := by decide +kernel
theorem tk_Holding : ∀ k, k < 3 → parseFieldDescriptor (T_Holding k).2.2.1 = some (t_Holding k) := by decide +kernel
theorem u_Holding : ∀ w ∈ u_ws "LoanDesk$Holding" T_Holding 3, w ∈ bgT := by decide +kernel
def T_Meetings : u_T := fun k => match k with
  | _ => ("LoanDesk$Meetings", "words", "[J", true)
def t_Meetings : Nat → FieldType := fun k => match k with
  | _ => .array .long
theorem n_Meetings : ∀ a, a < 1 → ∀ b, b < 1 → a ≠ b → (T_Meetings a).2.1 ≠ (T_Meetings b).2.1 := by decide +kernel
theorem tk_Meetings : ∀ k, k < 1 → parseFieldDescriptor (T_Meetings k).2.2.1 = some (t_Meetings k) := by decide +kernel
theorem u_Meetings : ∀ w ∈ u_ws "LoanDesk$Meetings" T_Meetings 1, w ∈ bgT := by decide +kernel
def T_Desk : u_T := fun k => match k with
  | 0 => ("LoanDesk", "graph", "LLoanDesk$Graph;", true)
  | 1 => ("LoanDesk", "reach", "LLoanDesk$Reach;", true)
  | 2 => ("LoanDesk", "uses", "LLoanDesk$Uses;", true)
  | 3 => ("LoanDesk", "holding", "LLoanDesk$Holding;", true)
  | 4 => ("LoanDesk", "meetings", "LLoanDesk$Meetings;", true)
  | 5 => ("LoanDesk", "waysKnown", "Z", false)
  | _ => ("LoanDesk", "meetingsKnown", "Z", false)
def t_Desk : Nat → FieldType := fun k => match k with
  | 0 => .object "LoanDesk$Graph"
  | 1 => .object "LoanDesk$Reach"
  | 2 => .object "LoanDesk$Uses"
  | 3 => .object "LoanDesk$Holding"
  | 4 => .object "LoanDesk$Meetings"
  | 5 => .boolean
  | _ => .boolean
theorem n_Desk : ∀ a, a < 7 → ∀ b, b < 7 → a ≠ b → (T_Desk a).2.1 ≠ (T_Desk b).2.1 := by decide +kernel
theorem tk_Desk : ∀ k, k < 7 → parseFieldDescriptor (T_Desk k).2.2.1 = some (t_Desk k) := by decide +kernel
theorem u_Desk : ∀ w ∈ u_ws "LoanDesk" T_Desk 7, w ∈ bgT := by decide +kernel
def T_Ref : u_T := fun k => match k with
  | 0 => ("LoanDeskModel", "points", "I", false)
  | 1 => ("LoanDeskModel", "doings", "[I", true)
  | 2 => ("LoanDeskModel", "as", "[I", true)
  | 3 => ("LoanDeskModel", "bs", "[I", true)
  | 4 => ("LoanDeskModel", "cs", "[I", true)
  | 5 => ("LoanDeskModel", "xs", "[I", true)
  | 6 => ("LoanDeskModel", "ys", "[I", true)
  | 7 => ("LoanDeskModel", "known", "Z", false)
  | 8 => ("LoanDeskModel", "reached", "[Z", true)
  | 9 => ("LoanDeskModel", "later", "[I", true)
  | 10 => ("LoanDeskModel", "holds", "[I", true)
  | 11 => ("LoanDeskModel", "pile", "[I", true)
  | 12 => ("LoanDeskModel", "seen", "[Z", true)
  | _ => ("LoanDeskModel", "high", "I", false)
def t_Ref : Nat → FieldType := fun k => match k with
  | 0 => .int
  | 1 => .array .int
  | 2 => .array .int
  | 3 => .array .int
  | 4 => .array .int
  | 5 => .array .int
  | 6 => .array .int
  | 7 => .boolean
  | 8 => .array .boolean
  | 9 => .array .int
  | 10 => .array .int
  | 11 => .array .int
  | 12 => .array .boolean
  | _ => .int
theorem n_Ref : ∀ a, a < 14 → ∀ b, b < 14 → a ≠ b → (T_Ref a).2.1 ≠ (T_Ref b).2.1 := by decide +kernel
theorem tk_Ref : ∀ k, k < 14 → parseFieldDescriptor (T_Ref k).2.2.1 = some (t_Ref k) := by decide +kernel
theorem u_Ref : ∀ w ∈ u_ws "LoanDeskModel" T_Ref 14, w ∈ bgT := by decide +kernel
abbrev vwCl : List vw_C := [("LoanDesk$Graph", T_Graph, 7), ("LoanDesk$Pile", T_Pile, 3), ("LoanDesk$Reach", T_Reach, 2), ("LoanDesk$Uses", T_Uses, 1), ("LoanDesk$Holding", T_Holding, 3), ("LoanDesk$Meetings", T_Meetings, 1), ("LoanDesk", T_Desk, 7), ("LoanDeskModel", T_Ref, 14)]
theorem hd_add : y_add.cls ≠ "java/lang/invoke/MethodHandle" ∧ y_add.cls ≠ "java/lang/invoke/VarHandle" ∧ (parseMethodDescriptor y_add.desc).map (fun d => d.parameters.length) = some 4 := by decide +kernel
theorem hd_addMeet : y_addMeet.cls ≠ "java/lang/invoke/MethodHandle" ∧ y_addMeet.cls ≠ "java/lang/invoke/VarHandle" ∧ (parseMethodDescriptor y_addMeet.desc).map (fun d => d.parameters.length) = some 1 := by decide +kernel
theorem hd_arrive : y_arrive.cls ≠ "java/lang/invoke/MethodHandle" ∧ y_arrive.cls ≠ "java/lang/invoke/VarHandle" ∧ (parseMethodDescriptor y_arrive.desc).map (fun d => d.parameters.length) = some 2 := by decide +kernel
theorem hd_borrowing : y_borrowing.cls ≠ "java/lang/invoke/MethodHandle" ∧ y_borrowing.cls ≠ "java/lang/invoke/VarHandle" ∧ (parseMethodDescriptor y_borrowing.desc).map (fun d => d.parameters.length) = some 1 := by decide +kernel
theorem hd_clear : y_clear.cls ≠ "java/lang/invoke/MethodHandle" ∧ y_clear.cls ≠ "java/lang/invoke/VarHandle" ∧ (parseMethodDescriptor y_clear.desc).map (fun d => d.parameters.length) = some 0 := by decide +kernel
theorem hd_comesTo : y_comesTo.cls ≠ "java/lang/invoke/MethodHandle" ∧ y_comesTo.cls ≠ "java/lang/invoke/VarHandle" ∧ (parseMethodDescriptor y_comesTo.desc).map (fun d => d.parameters.length) = some 1 := by decide +kernel
theorem hd_count : y_count.cls ≠ "java/lang/invoke/MethodHandle" ∧ y_count.cls ≠ "java/lang/invoke/VarHandle" ∧ (parseMethodDescriptor y_count.desc).map (fun d => d.parameters.length) = some 1 := by decide +kernel
theorem hd_countLoans : y_countLoans.cls ≠ "java/lang/invoke/MethodHandle" ∧ y_countLoans.cls ≠ "java/lang/invoke/VarHandle" ∧ (parseMethodDescriptor y_countLoans.desc).map (fun d => d.parameters.length) = some 0 := by decide +kernel
theorem hd_fIsAlive : y_fIsAlive.cls ≠ "java/lang/invoke/MethodHandle" ∧ y_fIsAlive.cls ≠ "java/lang/invoke/VarHandle" ∧ (parseMethodDescriptor y_fIsAlive.desc).map (fun d => d.parameters.length) = some 2 := by decide +kernel
theorem hd_fIsPlace : y_fIsPlace.cls ≠ "java/lang/invoke/MethodHandle" ∧ y_fIsPlace.cls ≠ "java/lang/invoke/VarHandle" ∧ (parseMethodDescriptor y_fIsPlace.desc).map (fun d => d.parameters.length) = some 1 := by decide +kernel
theorem hd_fIsPoint : y_fIsPoint.cls ≠ "java/lang/invoke/MethodHandle" ∧ y_fIsPoint.cls ≠ "java/lang/invoke/VarHandle" ∧ (parseMethodDescriptor y_fIsPoint.desc).map (fun d => d.parameters.length) = some 1 := by decide +kernel
theorem hd_fIsReached : y_fIsReached.cls ≠ "java/lang/invoke/MethodHandle" ∧ y_fIsReached.cls ≠ "java/lang/invoke/VarHandle" ∧ (parseMethodDescriptor y_fIsReached.desc).map (fun d => d.parameters.length) = some 1 := by decide +kernel
theorem hd_fIsRef : y_fIsRef.cls ≠ "java/lang/invoke/MethodHandle" ∧ y_fIsRef.cls ≠ "java/lang/invoke/VarHandle" ∧ (parseMethodDescriptor y_fIsRef.desc).map (fun d => d.parameters.length) = some 1 := by decide +kernel
theorem hd_fIsUsed : y_fIsUsed.cls ≠ "java/lang/invoke/MethodHandle" ∧ y_fIsUsed.cls ≠ "java/lang/invoke/VarHandle" ∧ (parseMethodDescriptor y_fIsUsed.desc).map (fun d => d.parameters.length) = some 2 := by decide +kernel
theorem hd_fchanges : y_fchanges.cls ≠ "java/lang/invoke/MethodHandle" ∧ y_fchanges.cls ≠ "java/lang/invoke/VarHandle" ∧ (parseMethodDescriptor y_fchanges.desc).map (fun d => d.parameters.length) = some 2 := by decide +kernel
theorem hd_fclear : y_fclear.cls ≠ "java/lang/invoke/MethodHandle" ∧ y_fclear.cls ≠ "java/lang/invoke/VarHandle" ∧ (parseMethodDescriptor y_fclear.desc).map (fun d => d.parameters.length) = some 0 := by decide +kernel
theorem hd_fcount : y_fcount.cls ≠ "java/lang/invoke/MethodHandle" ∧ y_fcount.cls ≠ "java/lang/invoke/VarHandle" ∧ (parseMethodDescriptor y_fcount.desc).map (fun d => d.parameters.length) = some 1 := by decide +kernel
theorem hd_fforget : y_fforget.cls ≠ "java/lang/invoke/MethodHandle" ∧ y_fforget.cls ≠ "java/lang/invoke/VarHandle" ∧ (parseMethodDescriptor y_fforget.desc).map (fun d => d.parameters.length) = some 0 := by decide +kernel
theorem hd_fgoAll : y_fgoAll.cls ≠ "java/lang/invoke/MethodHandle" ∧ y_fgoAll.cls ≠ "java/lang/invoke/VarHandle" ∧ (parseMethodDescriptor y_fgoAll.desc).map (fun d => d.parameters.length) = some 1 := by decide +kernel
theorem hd_fholders : y_fholders.cls ≠ "java/lang/invoke/MethodHandle" ∧ y_fholders.cls ≠ "java/lang/invoke/VarHandle" ∧ (parseMethodDescriptor y_fholders.desc).map (fun d => d.parameters.length) = some 2 := by decide +kernel
theorem hd_fillI : y_fillI.cls ≠ "java/lang/invoke/MethodHandle" ∧ y_fillI.cls ≠ "java/lang/invoke/VarHandle" ∧ (parseMethodDescriptor y_fillI.desc).map (fun d => d.parameters.length) = some 2 := by decide +kernel
theorem hd_fillJ : y_fillJ.cls ≠ "java/lang/invoke/MethodHandle" ∧ y_fillJ.cls ≠ "java/lang/invoke/VarHandle" ∧ (parseMethodDescriptor y_fillJ.desc).map (fun d => d.parameters.length) = some 2 := by decide +kernel
theorem hd_findMeet : y_findMeet.cls ≠ "java/lang/invoke/MethodHandle" ∧ y_findMeet.cls ≠ "java/lang/invoke/VarHandle" ∧ (parseMethodDescriptor y_findMeet.desc).map (fun d => d.parameters.length) = some 0 := by decide +kernel
theorem hd_findWays : y_findWays.cls ≠ "java/lang/invoke/MethodHandle" ∧ y_findWays.cls ≠ "java/lang/invoke/VarHandle" ∧ (parseMethodDescriptor y_findWays.desc).map (fun d => d.parameters.length) = some 0 := by decide +kernel
theorem hd_firstNext : y_firstNext.cls ≠ "java/lang/invoke/MethodHandle" ∧ y_firstNext.cls ≠ "java/lang/invoke/VarHandle" ∧ (parseMethodDescriptor y_firstNext.desc).map (fun d => d.parameters.length) = some 1 := by decide +kernel
theorem hd_flearn : y_flearn.cls ≠ "java/lang/invoke/MethodHandle" ∧ y_flearn.cls ≠ "java/lang/invoke/VarHandle" ∧ (parseMethodDescriptor y_flearn.desc).map (fun d => d.parameters.length) = some 0 := by decide +kernel
theorem hd_fmeet : y_fmeet.cls ≠ "java/lang/invoke/MethodHandle" ∧ y_fmeet.cls ≠ "java/lang/invoke/VarHandle" ∧ (parseMethodDescriptor y_fmeet.desc).map (fun d => d.parameters.length) = some 2 := by decide +kernel
theorem hd_fmeets : y_fmeets.cls ≠ "java/lang/invoke/MethodHandle" ∧ y_fmeets.cls ≠ "java/lang/invoke/VarHandle" ∧ (parseMethodDescriptor y_fmeets.desc).map (fun d => d.parameters.length) = some 2 := by decide +kernel
theorem hd_fmet : y_fmet.cls ≠ "java/lang/invoke/MethodHandle" ∧ y_fmet.cls ≠ "java/lang/invoke/VarHandle" ∧ (parseMethodDescriptor y_fmet.desc).map (fun d => d.parameters.length) = some 2 := by decide +kernel
theorem hd_fnext : y_fnext.cls ≠ "java/lang/invoke/MethodHandle" ∧ y_fnext.cls ≠ "java/lang/invoke/VarHandle" ∧ (parseMethodDescriptor y_fnext.desc).map (fun d => d.parameters.length) = some 3 := by decide +kernel
theorem hd_follow : y_follow.cls ≠ "java/lang/invoke/MethodHandle" ∧ y_follow.cls ≠ "java/lang/invoke/VarHandle" ∧ (parseMethodDescriptor y_follow.desc).map (fun d => d.parameters.length) = some 2 := by decide +kernel
theorem hd_forget : y_forget.cls ≠ "java/lang/invoke/MethodHandle" ∧ y_forget.cls ≠ "java/lang/invoke/VarHandle" ∧ (parseMethodDescriptor y_forget.desc).map (fun d => d.parameters.length) = some 0 := by decide +kernel
theorem hd_foverlap : y_foverlap.cls ≠ "java/lang/invoke/MethodHandle" ∧ y_foverlap.cls ≠ "java/lang/invoke/VarHandle" ∧ (parseMethodDescriptor y_foverlap.desc).map (fun d => d.parameters.length) = some 2 := by decide +kernel
theorem hd_fpoint : y_fpoint.cls ≠ "java/lang/invoke/MethodHandle" ∧ y_fpoint.cls ≠ "java/lang/invoke/VarHandle" ∧ (parseMethodDescriptor y_fpoint.desc).map (fun d => d.parameters.length) = some 4 := by decide +kernel
theorem hd_fthrough : y_fthrough.cls ≠ "java/lang/invoke/MethodHandle" ∧ y_fthrough.cls ≠ "java/lang/invoke/VarHandle" ∧ (parseMethodDescriptor y_fthrough.desc).map (fun d => d.parameters.length) = some 2 := by decide +kernel
theorem hd_fused : y_fused.cls ≠ "java/lang/invoke/MethodHandle" ∧ y_fused.cls ≠ "java/lang/invoke/VarHandle" ∧ (parseMethodDescriptor y_fused.desc).map (fun d => d.parameters.length) = some 1 := by decide +kernel
theorem hd_fuses : y_fuses.cls ≠ "java/lang/invoke/MethodHandle" ∧ y_fuses.cls ≠ "java/lang/invoke/VarHandle" ∧ (parseMethodDescriptor y_fuses.desc).map (fun d => d.parameters.length) = some 2 := by decide +kernel
theorem hd_gempty : y_gempty.cls ≠ "java/lang/invoke/MethodHandle" ∧ y_gempty.cls ≠ "java/lang/invoke/VarHandle" ∧ (parseMethodDescriptor y_gempty.desc).map (fun d => d.parameters.length) = some 0 := by decide +kernel
theorem hd_growAll : y_growAll.cls ≠ "java/lang/invoke/MethodHandle" ∧ y_growAll.cls ≠ "java/lang/invoke/VarHandle" ∧ (parseMethodDescriptor y_growAll.desc).map (fun d => d.parameters.length) = some 1 := by decide +kernel
theorem hd_gsize : y_gsize.cls ≠ "java/lang/invoke/MethodHandle" ∧ y_gsize.cls ≠ "java/lang/invoke/VarHandle" ∧ (parseMethodDescriptor y_gsize.desc).map (fun d => d.parameters.length) = some 0 := by decide +kernel
theorem hd_handOn : y_handOn.cls ≠ "java/lang/invoke/MethodHandle" ∧ y_handOn.cls ≠ "java/lang/invoke/VarHandle" ∧ (parseMethodDescriptor y_handOn.desc).map (fun d => d.parameters.length) = some 3 := by decide +kernel
theorem hd_hasRoom : y_hasRoom.cls ≠ "java/lang/invoke/MethodHandle" ∧ y_hasRoom.cls ≠ "java/lang/invoke/VarHandle" ∧ (parseMethodDescriptor y_hasRoom.desc).map (fun d => d.parameters.length) = some 0 := by decide +kernel
theorem hd_hbehind : y_hbehind.cls ≠ "java/lang/invoke/MethodHandle" ∧ y_hbehind.cls ≠ "java/lang/invoke/VarHandle" ∧ (parseMethodDescriptor y_hbehind.desc).map (fun d => d.parameters.length) = some 1 := by decide +kernel
theorem hd_heldBehind : y_heldBehind.cls ≠ "java/lang/invoke/MethodHandle" ∧ y_heldBehind.cls ≠ "java/lang/invoke/VarHandle" ∧ (parseMethodDescriptor y_heldBehind.desc).map (fun d => d.parameters.length) = some 3 := by decide +kernel
theorem hd_holders : y_holders.cls ≠ "java/lang/invoke/MethodHandle" ∧ y_holders.cls ≠ "java/lang/invoke/VarHandle" ∧ (parseMethodDescriptor y_holders.desc).map (fun d => d.parameters.length) = some 2 := by decide +kernel
theorem hd_iD : y_iD.cls ≠ "java/lang/invoke/MethodHandle" ∧ y_iD.cls ≠ "java/lang/invoke/VarHandle" ∧ (parseMethodDescriptor y_iD.desc).map (fun d => d.parameters.length) = some 0 := by decide +kernel
theorem hd_iF : y_iF.cls ≠ "java/lang/invoke/MethodHandle" ∧ y_iF.cls ≠ "java/lang/invoke/VarHandle" ∧ (parseMethodDescriptor y_iF.desc).map (fun d => d.parameters.length) = some 0 := by decide +kernel
theorem hd_iG : y_iG.cls ≠ "java/lang/invoke/MethodHandle" ∧ y_iG.cls ≠ "java/lang/invoke/VarHandle" ∧ (parseMethodDescriptor y_iG.desc).map (fun d => d.parameters.length) = some 0 := by decide +kernel
theorem hd_iH : y_iH.cls ≠ "java/lang/invoke/MethodHandle" ∧ y_iH.cls ≠ "java/lang/invoke/VarHandle" ∧ (parseMethodDescriptor y_iH.desc).map (fun d => d.parameters.length) = some 0 := by decide +kernel
theorem hd_iM : y_iM.cls ≠ "java/lang/invoke/MethodHandle" ∧ y_iM.cls ≠ "java/lang/invoke/VarHandle" ∧ (parseMethodDescriptor y_iM.desc).map (fun d => d.parameters.length) = some 0 := by decide +kernel
theorem hd_iP : y_iP.cls ≠ "java/lang/invoke/MethodHandle" ∧ y_iP.cls ≠ "java/lang/invoke/VarHandle" ∧ (parseMethodDescriptor y_iP.desc).map (fun d => d.parameters.length) = some 0 := by decide +kernel
theorem hd_iR : y_iR.cls ≠ "java/lang/invoke/MethodHandle" ∧ y_iR.cls ≠ "java/lang/invoke/VarHandle" ∧ (parseMethodDescriptor y_iR.desc).map (fun d => d.parameters.length) = some 0 := by decide +kernel
theorem hd_iU : y_iU.cls ≠ "java/lang/invoke/MethodHandle" ∧ y_iU.cls ≠ "java/lang/invoke/VarHandle" ∧ (parseMethodDescriptor y_iU.desc).map (fun d => d.parameters.length) = some 0 := by decide +kernel
theorem hd_isAlive : y_isAlive.cls ≠ "java/lang/invoke/MethodHandle" ∧ y_isAlive.cls ≠ "java/lang/invoke/VarHandle" ∧ (parseMethodDescriptor y_isAlive.desc).map (fun d => d.parameters.length) = some 2 := by decide +kernel
theorem hd_isAnyAt : y_isAnyAt.cls ≠ "java/lang/invoke/MethodHandle" ∧ y_isAnyAt.cls ≠ "java/lang/invoke/VarHandle" ∧ (parseMethodDescriptor y_isAnyAt.desc).map (fun d => d.parameters.length) = some 1 := by decide +kernel
theorem hd_isAt : y_isAt.cls ≠ "java/lang/invoke/MethodHandle" ∧ y_isAt.cls ≠ "java/lang/invoke/VarHandle" ∧ (parseMethodDescriptor y_isAt.desc).map (fun d => d.parameters.length) = some 2 := by decide +kernel
theorem hd_isChange : y_isChange.cls ≠ "java/lang/invoke/MethodHandle" ∧ y_isChange.cls ≠ "java/lang/invoke/VarHandle" ∧ (parseMethodDescriptor y_isChange.desc).map (fun d => d.parameters.length) = some 1 := by decide +kernel
theorem hd_isDoing : y_isDoing.cls ≠ "java/lang/invoke/MethodHandle" ∧ y_isDoing.cls ≠ "java/lang/invoke/VarHandle" ∧ (parseMethodDescriptor y_isDoing.desc).map (fun d => d.parameters.length) = some 4 := by decide +kernel
theorem hd_isIndex : y_isIndex.cls ≠ "java/lang/invoke/MethodHandle" ∧ y_isIndex.cls ≠ "java/lang/invoke/VarHandle" ∧ (parseMethodDescriptor y_isIndex.desc).map (fun d => d.parameters.length) = some 1 := by decide +kernel
theorem hd_isLoan : y_isLoan.cls ≠ "java/lang/invoke/MethodHandle" ∧ y_isLoan.cls ≠ "java/lang/invoke/VarHandle" ∧ (parseMethodDescriptor y_isLoan.desc).map (fun d => d.parameters.length) = some 1 := by decide +kernel
theorem hd_isLook : y_isLook.cls ≠ "java/lang/invoke/MethodHandle" ∧ y_isLook.cls ≠ "java/lang/invoke/VarHandle" ∧ (parseMethodDescriptor y_isLook.desc).map (fun d => d.parameters.length) = some 1 := by decide +kernel
theorem hd_isNext : y_isNext.cls ≠ "java/lang/invoke/MethodHandle" ∧ y_isNext.cls ≠ "java/lang/invoke/VarHandle" ∧ (parseMethodDescriptor y_isNext.desc).map (fun d => d.parameters.length) = some 1 := by decide +kernel
theorem hd_isPlace : y_isPlace.cls ≠ "java/lang/invoke/MethodHandle" ∧ y_isPlace.cls ≠ "java/lang/invoke/VarHandle" ∧ (parseMethodDescriptor y_isPlace.desc).map (fun d => d.parameters.length) = some 1 := by decide +kernel
theorem hd_isPoint : y_isPoint.cls ≠ "java/lang/invoke/MethodHandle" ∧ y_isPoint.cls ≠ "java/lang/invoke/VarHandle" ∧ (parseMethodDescriptor y_isPoint.desc).map (fun d => d.parameters.length) = some 1 := by decide +kernel
theorem hd_isReached : y_isReached.cls ≠ "java/lang/invoke/MethodHandle" ∧ y_isReached.cls ≠ "java/lang/invoke/VarHandle" ∧ (parseMethodDescriptor y_isReached.desc).map (fun d => d.parameters.length) = some 1 := by decide +kernel
theorem hd_isRef : y_isRef.cls ≠ "java/lang/invoke/MethodHandle" ∧ y_isRef.cls ≠ "java/lang/invoke/VarHandle" ∧ (parseMethodDescriptor y_isRef.desc).map (fun d => d.parameters.length) = some 1 := by decide +kernel
theorem hd_least : y_least.cls ≠ "java/lang/invoke/MethodHandle" ∧ y_least.cls ≠ "java/lang/invoke/VarHandle" ∧ (parseMethodDescriptor y_least.desc).map (fun d => d.parameters.length) = some 2 := by decide +kernel
theorem hd_madd : y_madd.cls ≠ "java/lang/invoke/MethodHandle" ∧ y_madd.cls ≠ "java/lang/invoke/VarHandle" ∧ (parseMethodDescriptor y_madd.desc).map (fun d => d.parameters.length) = some 2 := by decide +kernel
theorem hd_math_max : y_math_max.cls ≠ "java/lang/invoke/MethodHandle" ∧ y_math_max.cls ≠ "java/lang/invoke/VarHandle" ∧ (parseMethodDescriptor y_math_max.desc).map (fun d => d.parameters.length) = some 2 := by decide +kernel
theorem hd_math_min : y_math_min.cls ≠ "java/lang/invoke/MethodHandle" ∧ y_math_min.cls ≠ "java/lang/invoke/VarHandle" ∧ (parseMethodDescriptor y_math_min.desc).map (fun d => d.parameters.length) = some 2 := by decide +kernel
theorem hd_mcount : y_mcount.cls ≠ "java/lang/invoke/MethodHandle" ∧ y_mcount.cls ≠ "java/lang/invoke/VarHandle" ∧ (parseMethodDescriptor y_mcount.desc).map (fun d => d.parameters.length) = some 0 := by decide +kernel
theorem hd_mempty : y_mempty.cls ≠ "java/lang/invoke/MethodHandle" ∧ y_mempty.cls ≠ "java/lang/invoke/VarHandle" ∧ (parseMethodDescriptor y_mempty.desc).map (fun d => d.parameters.length) = some 0 := by decide +kernel
theorem hd_met : y_met.cls ≠ "java/lang/invoke/MethodHandle" ∧ y_met.cls ≠ "java/lang/invoke/VarHandle" ∧ (parseMethodDescriptor y_met.desc).map (fun d => d.parameters.length) = some 2 := by decide +kernel
theorem hd_mfirst : y_mfirst.cls ≠ "java/lang/invoke/MethodHandle" ∧ y_mfirst.cls ≠ "java/lang/invoke/VarHandle" ∧ (parseMethodDescriptor y_mfirst.desc).map (fun d => d.parameters.length) = some 0 := by decide +kernel
theorem hd_next : y_next.cls ≠ "java/lang/invoke/MethodHandle" ∧ y_next.cls ≠ "java/lang/invoke/VarHandle" ∧ (parseMethodDescriptor y_next.desc).map (fun d => d.parameters.length) = some 3 := by decide +kernel
theorem hd_overlap : y_overlap.cls ≠ "java/lang/invoke/MethodHandle" ∧ y_overlap.cls ≠ "java/lang/invoke/VarHandle" ∧ (parseMethodDescriptor y_overlap.desc).map (fun d => d.parameters.length) = some 2 := by decide +kernel
theorem hd_pEmpty : y_pEmpty.cls ≠ "java/lang/invoke/MethodHandle" ∧ y_pEmpty.cls ≠ "java/lang/invoke/VarHandle" ∧ (parseMethodDescriptor y_pEmpty.desc).map (fun d => d.parameters.length) = some 0 := by decide +kernel
theorem hd_pass : y_pass.cls ≠ "java/lang/invoke/MethodHandle" ∧ y_pass.cls ≠ "java/lang/invoke/VarHandle" ∧ (parseMethodDescriptor y_pass.desc).map (fun d => d.parameters.length) = some 3 := by decide +kernel
theorem hd_point : y_point.cls ≠ "java/lang/invoke/MethodHandle" ∧ y_point.cls ≠ "java/lang/invoke/VarHandle" ∧ (parseMethodDescriptor y_point.desc).map (fun d => d.parameters.length) = some 4 := by decide +kernel
theorem hd_put : y_put.cls ≠ "java/lang/invoke/MethodHandle" ∧ y_put.cls ≠ "java/lang/invoke/VarHandle" ∧ (parseMethodDescriptor y_put.desc).map (fun d => d.parameters.length) = some 1 := by decide +kernel
theorem hd_rcount : y_rcount.cls ≠ "java/lang/invoke/MethodHandle" ∧ y_rcount.cls ≠ "java/lang/invoke/VarHandle" ∧ (parseMethodDescriptor y_rcount.desc).map (fun d => d.parameters.length) = some 0 := by decide +kernel
theorem hd_rfind : y_rfind.cls ≠ "java/lang/invoke/MethodHandle" ∧ y_rfind.cls ≠ "java/lang/invoke/VarHandle" ∧ (parseMethodDescriptor y_rfind.desc).map (fun d => d.parameters.length) = some 1 := by decide +kernel
theorem hd_secondNext : y_secondNext.cls ≠ "java/lang/invoke/MethodHandle" ∧ y_secondNext.cls ≠ "java/lang/invoke/VarHandle" ∧ (parseMethodDescriptor y_secondNext.desc).map (fun d => d.parameters.length) = some 1 := by decide +kernel
theorem hd_take : y_take.cls ≠ "java/lang/invoke/MethodHandle" ∧ y_take.cls ≠ "java/lang/invoke/VarHandle" ∧ (parseMethodDescriptor y_take.desc).map (fun d => d.parameters.length) = some 0 := by decide +kernel
theorem hd_tellNext : y_tellNext.cls ≠ "java/lang/invoke/MethodHandle" ∧ y_tellNext.cls ≠ "java/lang/invoke/VarHandle" ∧ (parseMethodDescriptor y_tellNext.desc).map (fun d => d.parameters.length) = some 3 := by decide +kernel
theorem hd_touches : y_touches.cls ≠ "java/lang/invoke/MethodHandle" ∧ y_touches.cls ≠ "java/lang/invoke/VarHandle" ∧ (parseMethodDescriptor y_touches.desc).map (fun d => d.parameters.length) = some 2 := by decide +kernel
theorem hd_ubehind : y_ubehind.cls ≠ "java/lang/invoke/MethodHandle" ∧ y_ubehind.cls ≠ "java/lang/invoke/VarHandle" ∧ (parseMethodDescriptor y_ubehind.desc).map (fun d => d.parameters.length) = some 1 := by decide +kernel
theorem hd_ufind : y_ufind.cls ≠ "java/lang/invoke/MethodHandle" ∧ y_ufind.cls ≠ "java/lang/invoke/VarHandle" ∧ (parseMethodDescriptor y_ufind.desc).map (fun d => d.parameters.length) = some 1 := by decide +kernel
theorem hd_used : y_used.cls ≠ "java/lang/invoke/MethodHandle" ∧ y_used.cls ≠ "java/lang/invoke/VarHandle" ∧ (parseMethodDescriptor y_used.desc).map (fun d => d.parameters.length) = some 1 := by decide +kernel
theorem hd_usedFrom : y_usedFrom.cls ≠ "java/lang/invoke/MethodHandle" ∧ y_usedFrom.cls ≠ "java/lang/invoke/VarHandle" ∧ (parseMethodDescriptor y_usedFrom.desc).map (fun d => d.parameters.length) = some 2 := by decide +kernel
theorem hd_withHolder : y_withHolder.cls ≠ "java/lang/invoke/MethodHandle" ∧ y_withHolder.cls ≠ "java/lang/invoke/VarHandle" ∧ (parseMethodDescriptor y_withHolder.desc).map (fun d => d.parameters.length) = some 3 := by decide +kernel
end
section
abbrev ld_gT : Type := (Nat → Int32) × (Nat → Int32) × (Nat → Int32) × (Nat → Int32) × (Nat → Int32) × (Nat → Int32) × Int32
abbrev ld_pT : Type := (Nat → Int32) × (Nat → Int32) × Int32
def ld_gW (a : Nat → Nat) (cI : ClassId) (G : ld_gT) : va_W := [(a 1, .inr (0, [.ref (a 2), .ref (a 3), .ref (a 4), .ref (a 5), .ref (a 6), .ref (a 7), .int G.2.2.2.2.2.2])), (a 2, .inl (cI, 120, .inl (G.1))), (a 3, .inl (cI, 120, .inl (G.2.1))), (a 4, .inl (cI, 120, .inl (G.2.2.1))), (a 5, .inl (cI, 120, .inl (G.2.2.2.1))), (a 6, .inl (cI, 120, .inl (G.2.2.2.2.1))), (a 7, .inl (cI, 120, .inl (G.2.2.2.2.2.1)))]
def ld_pW (a0 a1 a2 : Nat) (cI cZ : ClassId) (P : ld_pT) : va_W := [(a0, .inr (1, [.ref a1, .ref a2, .int P.2.2])), (a1, .inl (cI, 120, .inl (P.1))), (a2, .inl (cZ, 120, .inl (P.2.1)))]
def ld_rW (a : Nat → Nat) (cI : ClassId) (f : Nat → Int32) : va_W := [(a 8, .inr (2, [.ref (a 9), .ref (a 10)])), (a 9, .inl (cI, 120, .inl (f)))]
def ld_uW (a : Nat → Nat) (cI : ClassId) (f : Nat → Int32) : va_W := [(a 13, .inr (3, [.ref (a 14)])), (a 14, .inl (cI, 120, .inl (f)))]
def ld_hW (a : Nat → Nat) (cI : ClassId) (f : (Nat → Int32) × (Nat → Int32)) : va_W := [(a 15, .inr (4, [.ref (a 16), .ref (a 17), .ref (a 18)])), (a 16, .inl (cI, 120, .inl (f.1))), (a 17, .inl (cI, 120, .inl (f.2)))]
def ld_mW (a : Nat → Nat) (cJ : ClassId) (f : Nat → Int64) : va_W := [(a 21, .inr (5, [.ref (a 22)])), (a 22, .inl (cJ, 240, .inr (.inl (f))))]
def ld_dW (a : Nat → Nat) (f : Int32 × Int32) : va_W := [(a 0, .inr (6, [.ref (a 1), .ref (a 8), .ref (a 13), .ref (a 15), .ref (a 21), .int f.1, .int f.2]))]
/-! base: naming of a call's answer, partial answers, loops as a step that is run again, counting -/
def ld_lt {α β : Type} (x : α) (f : α → β) : β := f x
theorem ld_nm {α β : Type} {x : α} {f : α → β} {b : β} (h : ld_lt x f = b) : ∃ r, x = r ∧ f r = b := ⟨x, rfl, h⟩
theorem ld_ob {α β : Type} {x : Option α} {f : α → Option β} {b : β} (h : x.bind f = some b) : ∃ r, x = some r ∧ f r = some b := by
  cases x with
  | none => cases h
  | some a => exact ⟨a, rfl, h⟩
def ld_it2 {σ ρ : Type} (k : σ → Option ρ) : σ ⊕ ρ → Option ρ
  | .inl x => k x
  | .inr r => some r
def ld_it {σ ρ : Type} (f : σ → Option (σ ⊕ ρ)) : Nat → σ → Option ρ
  | 0, _ => none
  | n + 1, x => (f x).bind (ld_it2 (ld_it f n))
theorem ld_its {σ ρ : Type} {f : σ → Option (σ ⊕ ρ)} {n : Nat} {x : σ} {R : ρ} (h : ld_it f (n + 1) x = some R) : ∃ y, f x = some y ∧ ld_it2 (ld_it f n) y = some R := ld_ob h
/-- a loop's end by an invariant and a measure that falls -/
theorem ld_loop {σ ρ : Type} {f : σ → Option (σ ⊕ ρ)} (I : σ → Prop) (μ : σ → Nat) (Post : ρ → Prop)
    (hs : ∀ x, I x → (∃ x', f x = some (.inl x') ∧ I x' ∧ μ x' < μ x) ∨ (∃ r, f x = some (.inr r) ∧ Post r)) :
    ∀ n x, I x → μ x < n → ∃ r, ld_it f n x = some r ∧ Post r := by
  intro n
  induction n with
  | zero => intro x _ h; exact absurd h (Nat.not_lt_zero _)
  | succ n ih =>
    intro x hI hm
    rcases hs x hI with ⟨x', hx, hI', hl⟩ | ⟨r, hx, hr⟩
    · obtain ⟨r, h1, h2⟩ := ih x' hI' (by omega)
      exact ⟨r, by show (f x).bind _ = _; rw [hx]; exact h1, h2⟩
    · exact ⟨r, by show (f x).bind _ = _; rw [hx]; rfl, hr⟩
/-- how many places below n hold -/
def ld_cn (f : Nat → Bool) : Nat → Nat
  | 0 => 0
  | n + 1 => ld_cn f n + (if f n = true then 1 else 0)
theorem ld_cn_le (f : Nat → Bool) : ∀ n, ld_cn f n ≤ n := by
  intro n
  induction n with
  | zero => exact Nat.le_refl 0
  | succ n ih => simp only [ld_cn]; split <;> omega
theorem ld_cn_mono {f g : Nat → Bool} : ∀ n, (∀ j, j < n → f j = true → g j = true) → ld_cn f n ≤ ld_cn g n := by
  intro n
  induction n with
  | zero => intro _; exact Nat.le_refl _
  | succ n ih =>
    intro h
    have h1 := ih (fun j hj => h j (by omega))
    have h2 := h n (by omega)
    simp only [ld_cn]
    by_cases hf : f n = true
    · rw [if_pos hf, if_pos (h2 hf)]; omega
    · rw [if_neg hf]; split <;> omega
theorem ld_cn_lt {f g : Nat → Bool} : ∀ n, (∀ j, j < n → f j = true → g j = true) → ∀ j, j < n → f j = false → g j = true → ld_cn f n < ld_cn g n := by
  intro n
  induction n with
  | zero => intro _ j hj; exact absurd hj (Nat.not_lt_zero _)
  | succ n ih =>
    intro h j hj hf hg
    simp only [ld_cn]
    by_cases hjn : j = n
    · subst hjn
      have h1 := ld_cn_mono j (fun i hi => h i (by omega))
      rw [hf, hg, if_pos rfl, if_neg (by decide)]
      omega
    · have h1 := ih (fun i hi => h i (by omega)) j (by omega) hf hg
      have h2 := h n (by omega)
      by_cases hfn : f n = true
      · rw [if_pos hfn, if_pos (h2 hfn)]; omega
      · rw [if_neg hfn]; split <;> omega
theorem ld_cn_eq {f g : Nat → Bool} : ∀ n, (∀ j, j < n → f j = g j) → ld_cn f n = ld_cn g n := by
  intro n
  induction n with
  | zero => intro _; rfl
  | succ n ih =>
    intro h
    simp only [ld_cn]
    rw [ih (fun j hj => h j (by omega)), h n (by omega)]
theorem ld_cn_add {f g : Nat → Bool} : ∀ n j, j < n → f j = false → g j = true → (∀ i, i < n → i ≠ j → g i = f i) → ld_cn g n = ld_cn f n + 1 := by
  intro n
  induction n with
  | zero => intro j hj; exact absurd hj (Nat.not_lt_zero _)
  | succ n ih =>
    intro j hj hf hg ho
    simp only [ld_cn]
    by_cases hjn : j = n
    · subst hjn
      rw [ld_cn_eq (f := g) (g := f) j (fun i hi => ho i (by omega) (by omega)), hf, hg, if_pos rfl, if_neg (by decide)]
    · rw [ih j (by omega) hf hg (fun i hi hne => ho i (by omega) hne), ho n (by omega) (fun z => hjn z.symm)]
      omega
theorem ld_cn_0 {f : Nat → Bool} : ∀ n, ld_cn f n = 0 → ∀ j, j < n → f j = false := by
  intro n h j hj
  cases hf : f j with
  | false => rfl
  | true =>
    have h1 := ld_cn_lt (f := fun _ => false) (g := f) n (fun _ _ q => by cases q) j hj rfl hf
    omega
theorem ld_cn_full {f : Nat → Bool} {n j : Nat} (hj : j < n) (hf : f j = false) : ld_cn f n < n := by
  have h1 := ld_cn_lt (f := f) (g := fun _ => true) n (fun _ _ _ => rfl) j hj hf rfl
  have h2 := ld_cn_le (fun _ => true) n
  omega
def ld_ex {σ ρ τ : Type} (y : σ ⊕ ρ) (f : σ → τ) (g : ρ → τ) : τ := match y with
  | .inl x => f x
  | .inr r => g r
def ld_in (i : Int32) (n : Nat) : Bool := decide (0 ≤ i.toInt ∧ i.toInt < n)
theorem ld_grd {β : Type} {i : Int32} {n : Nat} {x : Option β} {b : β} (h : (if ld_in i n = true then x else none) = some b) : vp_in i n ∧ x = some b := by
  by_cases q : ld_in i n = true
  · rw [if_pos q] at h
    exact ⟨vp_in_iff.mpr (of_decide_eq_true q), h⟩
  · rw [if_neg q] at h
    cases h
theorem ld_in_nI {j n : Nat} (h : j < n) (hn : n < 2 ^ 31) : ld_in (nI j) n = true := decide_eq_true (vp_in_iff.mp (vp_in_nI h hn))
def ld_fl (n : Nat) (v : Int32) (f : Nat → Int32) : Nat → Int32 := fun j => if j < n then v else f j
def ld_flL (n : Nat) (v : Int64) (f : Nat → Int64) : Nat → Int64 := fun j => if j < n then v else f j
theorem ld_rg {x : Int32} (h1 : ¬ x < 0) (h2 : ¬ 120 ≤ x) : vp_in x 120 := by
  rw [Int32.lt_iff_toInt_lt] at h1
  rw [Int32.le_iff_toInt_le] at h2
  have e0 : (0 : Int32).toInt = 0 := by decide
  have e1 : (120 : Int32).toInt = 120 := by decide
  rw [vp_in_iff]
  omega
theorem ld_inv {σ ρ : Type} {f : σ → Option (σ ⊕ ρ)} (I : σ → Prop) (J : ρ → Prop) (h1 : ∀ x x', I x → f x = some (.inl x') → I x') (h2 : ∀ x r, I x → f x = some (.inr r) → J r) : ∀ n x r, I x → ld_it f n x = some r → J r := by
  intro n
  induction n with
  | zero => intro x r _ h; cases h
  | succ n ih =>
    intro x r hI h
    obtain ⟨y, hy, h⟩ := ld_its h
    cases y with
    | inl x' => exact ih x' r (h1 x x' hI hy) h
    | inr r' =>
      obtain rfl := Option.some.inj h
      exact h2 x r' hI hy
theorem ld_nb {r : Int32} (h : r = 0 ∨ r = 1) : narrow .boolean (.int r) = .int r := by
  rcases h with rfl | rfl <;> rfl
/-! ===== Int32 by its bits: bt x i ===== -/
def bt (x : Int32) (i : Nat) : Bool := x.toBitVec.getLsbD i
theorem b_ext {x y : Int32} (h : ∀ i, i < 32 → bt x i = bt y i) : x = y := Int32.toBitVec_inj.mp (BitVec.eq_of_getLsbD_eq (fun i hi => h i hi))
theorem b_or (x y : Int32) (i : Nat) : bt (x ||| y) i = (bt x i || bt y i) := by unfold bt; rw [Int32.toBitVec_or, BitVec.getLsbD_or]
theorem b_and (x y : Int32) (i : Nat) : bt (x &&& y) i = (bt x i && bt y i) := by unfold bt; rw [Int32.toBitVec_and, BitVec.getLsbD_and]
theorem b_xor (x y : Int32) (i : Nat) : bt (x ^^^ y) i = (bt x i ^^ bt y i) := by unfold bt; rw [Int32.toBitVec_xor, BitVec.getLsbD_xor]
theorem b_big {x : Int32} {i : Nat} (h : 32 ≤ i) : bt x i = false := BitVec.getLsbD_of_ge _ _ h
theorem b_255 (i : Nat) : bt 255 i = decide (i < 8) := by
  rcases Nat.lt_or_ge i 32 with h | h
  · exact (by decide +kernel : ∀ i, i < 32 → bt 255 i = decide (i < 8)) i h
  · rw [b_big h, decide_eq_false (by omega)]
theorem b_65535 (i : Nat) : bt 65535 i = decide (i < 16) := by
  rcases Nat.lt_or_ge i 32 with h | h
  · exact (by decide +kernel : ∀ i, i < 32 → bt 65535 i = decide (i < 16)) i h
  · rw [b_big h, decide_eq_false (by omega)]
theorem b_m1 : ∀ i, i < 32 → bt (-1) i = true := by decide +kernel
theorem b_0 (i : Nat) : bt 0 i = false := BitVec.getLsbD_zero
theorem s_l : ∀ n, n < 32 → ((nI n &&& 31).toBitVec.smod 32).toNat = n := by decide +kernel
theorem s_u : ∀ n, n < 32 → (((nI n).toUInt32 &&& Int32.toUInt32 31).toBitVec % 32).toNat = n := by decide +kernel
theorem b_shl (n : Nat) (hn : n < 32) (x : Int32) {i : Nat} (hi : i < 32) : bt (x <<< (nI n &&& 31)) i = (decide (n ≤ i) && bt x (i - n)) := by
  unfold bt
  rw [Int32.toBitVec_shiftLeft]
  show (x.toBitVec <<< ((nI n &&& 31).toBitVec.smod 32).toNat).getLsbD i = _
  rw [s_l n hn, BitVec.getLsbD_shiftLeft]
  rcases Nat.lt_or_ge i n with h | h
  · simp [h, Nat.not_le.mpr h]
  · simp [hi, h, Nat.not_lt.mpr h]
theorem b_ushr (n : Nat) (hn : n < 32) (x : Int32) (i : Nat) : bt ((x.toUInt32 >>> ((nI n).toUInt32 &&& Int32.toUInt32 31)).toInt32) i = bt x (n + i) := by
  show (x.toUInt32 >>> ((nI n).toUInt32 &&& Int32.toUInt32 31)).toBitVec.getLsbD i = x.toUInt32.toBitVec.getLsbD (n + i)
  rw [UInt32.toBitVec_shiftRight]
  show (x.toUInt32.toBitVec >>> (((nI n).toUInt32 &&& Int32.toUInt32 31).toBitVec % 32).toNat).getLsbD i = _
  rw [s_u n hn, BitVec.getLsbD_ushiftRight]
theorem b_sshr (n : Nat) (hn : n < 32) (x : Int32) {i : Nat} (hi : i < 32) : bt (x >>> (nI n &&& 31)) i = if n + i < 32 then bt x (n + i) else bt x 31 := by
  unfold bt
  rw [Int32.toBitVec_shiftRight]
  show (x.toBitVec.sshiftRight ((nI n &&& 31).toBitVec.smod 32).toNat).getLsbD i = _
  rw [s_l n hn, BitVec.getLsbD_sshiftRight, BitVec.msb_eq_getLsbD_last]
  simp [hi]
theorem b_shl8 (x : Int32) {i : Nat} (hi : i < 32) : bt (x <<< ((8 : Int32) &&& 31)) i = (decide (8 ≤ i) && bt x (i - 8)) := b_shl 8 (by omega) x hi
theorem b_shl16 (x : Int32) {i : Nat} (hi : i < 32) : bt (x <<< ((16 : Int32) &&& 31)) i = (decide (16 ≤ i) && bt x (i - 16)) := b_shl 16 (by omega) x hi
theorem b_shl24 (x : Int32) {i : Nat} (hi : i < 32) : bt (x <<< ((24 : Int32) &&& 31)) i = (decide (24 ≤ i) && bt x (i - 24)) := b_shl 24 (by omega) x hi
theorem b_sshr8 (x : Int32) {i : Nat} (hi : i < 32) : bt (x >>> ((8 : Int32) &&& 31)) i = if 8 + i < 32 then bt x (8 + i) else bt x 31 := b_sshr 8 (by omega) x hi
/-! masks of sixteen references -/
theorem ld_b1 : ∀ j, j < 32 → bt 1 j = decide (j = 0) := by decide +kernel
theorem ld_bit {a i : Nat} (ha : a < 16) (hi : i < 32) : bt ((1 : Int32) <<< (nI a &&& 31)) i = decide (i = a) := by
  rw [b_shl a (by omega) 1 hi]
  rcases Nat.lt_or_ge i a with h | h
  · rw [decide_eq_false (Nat.not_le.mpr h), decide_eq_false (by omega), Bool.false_and]
  · rw [decide_eq_true h, Bool.true_and, ld_b1 (i - a) (by omega)]
    exact decide_eq_decide.mpr (by omega)
theorem ld_not {x : Int32} {i : Nat} (hi : i < 32) : bt (x ^^^ (-1)) i = !(bt x i) := by
  rw [b_xor, b_m1 i hi, Bool.xor_true]
/-- all bits below sixteen -/
def ld_16 (x : Int32) : Prop := ∀ i, 16 ≤ i → bt x i = false
theorem ld_16_ext {x y : Int32} (hx : ld_16 x) (hy : ld_16 y) (h : ∀ i, i < 16 → bt x i = bt y i) : x = y := by
  refine b_ext (fun i hi => ?_)
  rcases Nat.lt_or_ge i 16 with q | q
  · exact h i q
  · rw [hx i q, hy i q]
theorem ld_16_0 : ld_16 0 := fun i _ => b_0 i
theorem ld_16_or {x y : Int32} (hx : ld_16 x) (hy : ld_16 y) : ld_16 (x ||| y) := fun i hi => by rw [b_or, hx i hi, hy i hi]; rfl
theorem ld_16_and {x y : Int32} (hx : ld_16 x) : ld_16 (x &&& y) := fun i hi => by rw [b_and, hx i hi]; rfl
theorem ld_16_bit {a : Nat} (ha : a < 16) : ld_16 ((1 : Int32) <<< (nI a &&& 31)) := fun i hi => by
  rcases Nat.lt_or_ge i 32 with q | q
  · rw [ld_bit ha q]; exact decide_eq_false (by omega)
  · exact b_big q
theorem ld_ne0 {x : Int32} : ¬ x = 0 ↔ ∃ i, i < 32 ∧ bt x i = true := by
  constructor
  · intro h
    refine Classical.byContradiction (fun q => h (b_ext (fun i hi => ?_)))
    rw [b_0]
    cases hb : bt x i with
    | false => rfl
    | true => exact absurd ⟨i, hi, hb⟩ q
  · intro ⟨i, _, hb⟩ h
    rw [h, b_0] at hb
    cases hb
/-! the graph as a mathematical value: how many points, then by point: doing, a, b, c, the two that can come next (120: none) -/
abbrev ld_M : Type := Nat × (Nat → Nat) × (Nat → Nat) × (Nat → Nat) × (Nat → Nat) × (Nat → Nat) × (Nat → Nat)
abbrev ld_d (M : ld_M) : Nat → Nat := M.2.1
abbrev ld_a (M : ld_M) : Nat → Nat := M.2.2.1
abbrev ld_b (M : ld_M) : Nat → Nat := M.2.2.2.1
abbrev ld_c (M : ld_M) : Nat → Nat := M.2.2.2.2.1
abbrev ld_x (M : ld_M) : Nat → Nat := M.2.2.2.2.2.1
abbrev ld_y (M : ld_M) : Nat → Nat := M.2.2.2.2.2.2
def ld_nx (M : ld_M) (p q : Nat) : Prop := q < M.1 ∧ (ld_x M p = q ∨ ld_y M p = q)
/-- what is used at a point or later, by what is used behind it -/
def ld_uB (M : ld_M) (q : Nat) (B : Nat → Bool) (i : Nat) : Bool :=
  if ld_d M q = 1 ∨ ld_d M q = 3 then B i && !decide (i = ld_a M q)
  else if ld_d M q = 2 then (B i && !decide (i = ld_a M q)) || decide (i = ld_b M q)
  else if ld_d M q = 4 then B i || decide (i = ld_a M q) else B i
/-- who holds the loan of point L behind a point, by who holds it ahead -/
def ld_hB (M : ld_M) (L p : Nat) (A : Nat → Bool) (i : Nat) : Bool :=
  if ld_d M p = 1 then (if i = ld_a M p then decide (p = L) else A i)
  else if ld_d M p = 2 then (if i = ld_a M p then A (ld_b M p) else A i)
  else if ld_d M p = 3 then (if i = ld_a M p then false else A i) else A i
theorem ld_uB_mono {M : ld_M} {q : Nat} {B C : Nat → Bool} (h : ∀ i, B i = true → C i = true) {i : Nat} (hb : ld_uB M q B i = true) : ld_uB M q C i = true := by
  unfold ld_uB at hb ⊢
  by_cases h1 : ld_d M q = 1 ∨ ld_d M q = 3
  · rw [if_pos h1, Bool.and_eq_true] at hb ⊢; exact ⟨h i hb.1, hb.2⟩
  · rw [if_neg h1] at hb ⊢
    by_cases h2 : ld_d M q = 2
    · rw [if_pos h2, Bool.or_eq_true, Bool.and_eq_true] at hb ⊢
      rcases hb with hb | hb
      · exact Or.inl ⟨h i hb.1, hb.2⟩
      · exact Or.inr hb
    · rw [if_neg h2] at hb ⊢
      by_cases h3 : ld_d M q = 4
      · rw [if_pos h3, Bool.or_eq_true] at hb ⊢
        rcases hb with hb | hb
        · exact Or.inl (h i hb)
        · exact Or.inr hb
      · rw [if_neg h3] at hb ⊢; exact h i hb
theorem ld_hB_mono {M : ld_M} {L p : Nat} {B C : Nat → Bool} (h : ∀ i, B i = true → C i = true) {i : Nat} (hb : ld_hB M L p B i = true) : ld_hB M L p C i = true := by
  unfold ld_hB at hb ⊢
  by_cases hi : i = ld_a M p
  · simp only [if_pos hi] at hb ⊢
    by_cases h1 : ld_d M p = 1
    · rw [if_pos h1] at hb ⊢; exact hb
    · rw [if_neg h1] at hb ⊢
      by_cases h2 : ld_d M p = 2
      · rw [if_pos h2] at hb ⊢; exact h _ hb
      · rw [if_neg h2] at hb ⊢
        by_cases h3 : ld_d M p = 3
        · rw [if_pos h3] at hb; cases hb
        · rw [if_neg h3] at hb ⊢; exact h i hb
  · simp only [if_neg hi] at hb ⊢
    by_cases h1 : ld_d M p = 1
    · rw [if_pos h1] at hb ⊢; exact h i hb
    · rw [if_neg h1] at hb ⊢
      by_cases h2 : ld_d M p = 2
      · rw [if_pos h2] at hb ⊢; exact h i hb
      · rw [if_neg h2] at hb ⊢
        by_cases h3 : ld_d M p = 3
        · rw [if_pos h3] at hb ⊢; exact h i hb
        · rw [if_neg h3] at hb ⊢; exact h i hb
/-- closed under the ways, and least so -/
def ld_clR (M : ld_M) (S : Nat → Bool) : Prop := (0 < M.1 → S 0 = true) ∧ ∀ p q, p < M.1 → S p = true → ld_nx M p q → S q = true
def ld_lsR (M : ld_M) (S : Nat → Bool) : Prop := ld_clR M S ∧ ∀ V, ld_clR M V → ∀ p, p < M.1 → S p = true → V p = true
def ld_clU (M : ld_M) (S : Nat → Nat → Bool) : Prop := ∀ p q i, p < M.1 → ld_nx M p q → ld_uB M q (S q) i = true → S p i = true
def ld_lsU (M : ld_M) (S : Nat → Nat → Bool) : Prop := ld_clU M S ∧ ∀ V, ld_clU M V → ∀ p i, p < M.1 → S p i = true → V p i = true
def ld_clH (M : ld_M) (L : Nat) (S : Nat → Nat → Bool) : Prop := ∀ p q i, p < M.1 → ld_nx M p q → ld_hB M L p (S p) i = true → S q i = true
def ld_lsH (M : ld_M) (L : Nat) (S : Nat → Nat → Bool) : Prop := ld_clH M L S ∧ ∀ V, ld_clH M L V → ∀ p i, p < M.1 → S p i = true → V p i = true
theorem ld_beq {a b : Bool} (h1 : a = true → b = true) (h2 : b = true → a = true) : a = b := by
  cases a with
  | true => exact (h1 rfl).symm
  | false =>
    cases b with
    | false => rfl
    | true => exact (h2 rfl)
theorem ld_unR {M : ld_M} {S T : Nat → Bool} (hS : ld_lsR M S) (hT : ld_lsR M T) {p : Nat} (hp : p < M.1) : S p = T p := ld_beq (hS.2 T hT.1 p hp) (hT.2 S hS.1 p hp)
theorem ld_unU {M : ld_M} {S T : Nat → Nat → Bool} (hS : ld_lsU M S) (hT : ld_lsU M T) {p : Nat} (hp : p < M.1) (i : Nat) : S p i = T p i := ld_beq (hS.2 T hT.1 p i hp) (hT.2 S hS.1 p i hp)
theorem ld_unH {M : ld_M} {L : Nat} {S T : Nat → Nat → Bool} (hS : ld_lsH M L S) (hT : ld_lsH M L T) {p : Nat} (hp : p < M.1) (i : Nat) : S p i = T p i := ld_beq (hS.2 T hT.1 p i hp) (hT.2 S hS.1 p i hp)
end
section
/-! contracts in one form: a reader (nothing changes) and a changer (its world's new contents), and their calls -/
abbrev ld_K (D : va_G) (cI cZ cJ : ClassId) (U : State) : Prop := va_K D vwCl [(cI, .int), (cZ, .boolean), (cJ, .long)] U
def ld_PR (D : va_G) (cI cZ cJ : ClassId) (ws : va_W) (av : List Value) : Array Value → State → Prop := va_Pc av (fun U => va_P D vwCl ws U.heap ∧ ld_K D cI cZ cJ U ∧ ld_nw U)
def ld_PM (D : va_G) (cI cZ cJ : ClassId) (ws : va_W) (sz : Nat) (av : List Value) : Array Value → State → Prop := va_Pc av (fun U => U.heap.size = sz ∧ va_P D vwCl ws U.heap ∧ ld_K D cI cZ cJ U ∧ va_D (fun _ => True) ws ∧ ld_nw U)
def ld_QI (D : va_G) (ws' : va_W) (A : Nat → Prop) (r : Int32) : Array Value → State → Outcome → State → Prop := va_Qi (fun z (_ : Unit) => z = r) (fun _ t => va_P D vwCl ws' t.heap ∧ va_D A ws') A
def ld_QV (D : va_G) (ws' : va_W) (A : Nat → Prop) : Array Value → State → Outcome → State → Prop := va_Qv (fun (_ : Unit) => True) (fun _ t => va_P D vwCl ws' t.heap ∧ va_D A ws') A
theorem ld_PR_blind {D : va_G} {cI cZ cJ : ClassId} {ws : va_W} {av : List Value} : FrameBlind (ld_PR D cI cZ cJ ws av) := fun a U g mk q => by
  obtain ⟨q0, qP, qK, qN⟩ := q
  exact ⟨q0, qP, va_K.moved (u := U) (U := U.calling g mk a) (Vm.Alike.refl U.vm) qK, ld_nw_same (u := U) (U := U.calling g mk a) rfl qN⟩
theorem ld_PM_blind {D : va_G} {cI cZ cJ : ClassId} {ws : va_W} {sz : Nat} {av : List Value} : FrameBlind (ld_PM D cI cZ cJ ws sz av) := fun a U g mk q => by
  obtain ⟨q0, qz, qP, qK, qD, qN⟩ := q
  exact ⟨q0, qz, qP, va_K.moved (u := U) (U := U.calling g mk a) (Vm.Alike.refl U.vm) qK, qD, ld_nw_same (u := U) (U := U.calling g mk a) rfl qN⟩
theorem ld_subP {D : va_G} {cl : List vw_C} {ws ws' : va_W} {H : Heap} (h : va_P D cl ws H) (is : List Nat) (hs : is.map (fun i => ws[i]?) = ws'.map some) : va_P D cl ws' H := by
  intro k q hk
  have h1 : (is.map (fun i => ws[i]?))[k]? = some (some q) := by rw [hs, List.getElem?_map, hk]; rfl
  rw [List.getElem?_map] at h1
  cases hi : is[k]? with
  | none => rw [hi] at h1; cases h1
  | some i => rw [hi] at h1; exact h i q (Option.some.inj h1)
section LDC
variable {p : Program} {l : Launch} {e : Env} {R : Room} {s : State} {m : MethodId} {args : Array Value} {below : List Frame} {meth : Method} {c : Code} {H : Heap} {locs : List Loc} {cells slots : Nat} {Q : State → Prop}
variable {D : va_G} {cI cZ cJ : ClassId} {ws wc wc' wr ws2 : va_W} {As av rest st0 : List Value} {a : Array Value} {pc mc ms : Nat} {ls : Array Slot} {r : Int32} {A0 : Nat → Prop} {H0 : Heap} {b : Nat} {C : String} {T : u_T} {N : Nat}
theorem ld_preR (hP : va_P D vwCl ws H) (hK : ld_K D cI cZ cJ s) (hN : ld_nw s) (isC : List Nat) (hC : isC.map (fun i => ws[i]?) = wc.map some) : PreS s H (ld_PR D cI cZ cJ wc av) av :=
  ⟨ld_PR_blind, fun U hU hW => ⟨rfl, by rw [hU]; exact ld_subP hP isC hC, va_K.moved hW.alike hK, ld_nw_warm hW hN⟩⟩
theorem ld_preRV (hP : va_P D vwCl ws H) (hK : ld_K D cI cZ cJ s) (hN : ld_nw s) (isC : List Nat) (hC : isC.map (fun i => ws[i]?) = wc.map some) (ci q0 : Nat) (hc : vwCl[ci]? = some (C, T, N)) {fs : List Value} (he : wc[q0]? = some (b, .inr (ci, fs))) : PreV s H C b (ld_PR D cI cZ cJ wc (.ref b :: As)) As :=
  ⟨ld_PR_blind, va_recv hK (ld_subP hP isC hC) (ci := ci) (q0 := q0) hc he, (ld_preR hP hK hN isC hC).2⟩
theorem ld_preM (hP : va_P D vwCl ws H) (hK : ld_K D cI cZ cJ s) (hN : ld_nw s) (hD : va_D A0 ws) (isC : List Nat) (hnC : va_nd isC = true) (hC : isC.map (fun i => ws[i]?) = wc.map some) : PreS s H (ld_PM D cI cZ cJ wc H.size av) av :=
  ⟨ld_PM_blind, fun U hU hW => ⟨rfl, by rw [hU], by rw [hU]; exact ld_subP hP isC hC, va_K.moved hW.alike hK, (hD.sub isC hnC hC).weaken (fun _ _ _ _ => trivial), ld_nw_warm hW hN⟩⟩
theorem ld_preMV (hP : va_P D vwCl ws H) (hK : ld_K D cI cZ cJ s) (hN : ld_nw s) (hD : va_D A0 ws) (isC : List Nat) (hnC : va_nd isC = true) (hC : isC.map (fun i => ws[i]?) = wc.map some) (ci q0 : Nat) (hc : vwCl[ci]? = some (C, T, N)) {fs : List Value} (he : wc[q0]? = some (b, .inr (ci, fs))) : PreV s H C b (ld_PM D cI cZ cJ wc H.size (.ref b :: As)) As :=
  ⟨ld_PM_blind, va_recv hK (ld_subP hP isC hC) (ci := ci) (q0 := q0) hc he, (ld_preM hP hK hN hD isC hnC hC).2⟩
theorem ld_rd (hr : CallRun p l e R s m args below meth c H locs cells slots 0 0 (F0 m pc ls st0) rest (vp_Si (fun z => z = r) a) (fun _ => False)) (kk : W p l e R s m args below meth c H locs cells slots Q (F0 m (pc + 3) ls (.int r :: rest))) : W p l e R s m args below meth c H locs cells slots Q (F0 m pc ls st0) :=
  vp_callSi hr (fun z hz => by subst hz; exact kk)
theorem ld_mi (hr : va_Run p l e R s m args below meth c H locs cells slots mc ms (F0 m pc ls st0) rest (ld_QI D wc' (va_A wc H.size) r a) (va_A wc H.size)) (hP : va_P D vwCl ws H) (hD : va_D A0 ws) (hS : va_S A0 H0 H locs) (hA : ∀ q, H0.size ≤ q → A0 q) (isC isR isN : List Nat)
    (hC : isC.map (fun i => ws[i]?) = wc.map some) (hR : isR.map (fun i => ws[i]?) = wr.map some) (hn : va_nd isR = true) (hdis : ∀ i ∈ isR, i ∉ isC) (hnN : va_nd isN = true) (hN : isN.map (fun i => (wr ++ wc')[i]?) = ws2.map some)
    (kk : ∀ (H1 : Heap) (locs1 : List Loc), va_P D vwCl ws2 H1 → va_D A0 ws2 → va_S A0 H0 H1 locs1 → W p l e R s m args below meth c H1 locs1 (cells + mc) (slots + ms) Q (F0 m (pc + 3) ls (.int r :: rest))) : W p l e R s m args below meth c H locs cells slots Q (F0 m pc ls st0) := by
  have hF := va_free hD hS hA isC hC
  refine va_calli hr hS (fun q _ h => hF q h) hF (fun z u t H1 locs1 ht hvm hw hB hz hk hS1 => ?_)
  obtain ⟨hP1, hD1⟩ := hB
  rw [ht] at hP1
  subst hw
  obtain ⟨hP2, hD2⟩ := va_join hP hD isC isR hC hR hn hdis hk hF hP1 hD1
  exact kk H1 locs1 (ld_subP hP2 isN hN) (hD2.sub isN hnN hN) hS1
theorem ld_mv (hr : va_Run p l e R s m args below meth c H locs cells slots mc ms (F0 m pc ls st0) rest (ld_QV D wc' (va_A wc H.size) a) (va_A wc H.size)) (hP : va_P D vwCl ws H) (hD : va_D A0 ws) (hS : va_S A0 H0 H locs) (hA : ∀ q, H0.size ≤ q → A0 q) (isC isR isN : List Nat)
    (hC : isC.map (fun i => ws[i]?) = wc.map some) (hR : isR.map (fun i => ws[i]?) = wr.map some) (hn : va_nd isR = true) (hdis : ∀ i ∈ isR, i ∉ isC) (hnN : va_nd isN = true) (hN : isN.map (fun i => (wr ++ wc')[i]?) = ws2.map some)
    (kk : ∀ (H1 : Heap) (locs1 : List Loc), va_P D vwCl ws2 H1 → va_D A0 ws2 → va_S A0 H0 H1 locs1 → W p l e R s m args below meth c H1 locs1 (cells + mc) (slots + ms) Q (F0 m (pc + 3) ls rest)) : W p l e R s m args below meth c H locs cells slots Q (F0 m pc ls st0) := by
  have hF := va_free hD hS hA isC hC
  refine va_callv hr hS (fun q _ h => hF q h) hF (fun u t H1 locs1 ht hvm hw hB hz hk hS1 => ?_)
  obtain ⟨hP1, hD1⟩ := hB
  rw [ht] at hP1
  obtain ⟨hP2, hD2⟩ := va_join hP hD isC isR hC hR hn hdis hk hF hP1 hD1
  exact kk H1 locs1 (ld_subP hP2 isN hN) (hD2.sub isN hnN hN) hS1
end LDC
end
section
theorem d_fillI_0 : decode prog_11_method_103_code 0 = .ok (.iconst 0, 1) := by decide +kernel
theorem d_fillI_1 : decode prog_11_method_103_code 1 = .ok (.istore_n 2, 1) := by decide +kernel
theorem d_fillI_2 : decode prog_11_method_103_code 2 = .ok (.aload_n 0, 1) := by decide +kernel
theorem d_fillI_3 : decode prog_11_method_103_code 3 = .ok (.arraylength, 1) := by decide +kernel
theorem d_fillI_4 : decode prog_11_method_103_code 4 = .ok (.istore_n 3, 1) := by decide +kernel
theorem d_fillI_5 : decode prog_11_method_103_code 5 = .ok (.iload_n 2, 1) := by decide +kernel
theorem d_fillI_6 : decode prog_11_method_103_code 6 = .ok (.iload_n 3, 1) := by decide +kernel
theorem d_fillI_7 : decode prog_11_method_103_code 7 = .ok (.if_icmp .ge 13, 3) := by decide +kernel
theorem d_fillI_10 : decode prog_11_method_103_code 10 = .ok (.aload_n 0, 1) := by decide +kernel
theorem d_fillI_11 : decode prog_11_method_103_code 11 = .ok (.iload_n 2, 1) := by decide +kernel
theorem d_fillI_12 : decode prog_11_method_103_code 12 = .ok (.iload_n 1, 1) := by decide +kernel
theorem d_fillI_13 : decode prog_11_method_103_code 13 = .ok (.iastore, 1) := by decide +kernel
theorem d_fillI_14 : decode prog_11_method_103_code 14 = .ok (.iinc 2 1, 3) := by decide +kernel
theorem d_fillI_17 : decode prog_11_method_103_code 17 = .ok (.goto (-12), 3) := by decide +kernel
theorem d_fillI_20 : decode prog_11_method_103_code 20 = .ok (.return_, 1) := by decide +kernel
theorem d_fillJ_0 : decode prog_11_method_101_code 0 = .ok (.iconst 0, 1) := by decide +kernel
theorem d_fillJ_1 : decode prog_11_method_101_code 1 = .ok (.istore_n 3, 1) := by decide +kernel
theorem d_fillJ_2 : decode prog_11_method_101_code 2 = .ok (.aload_n 0, 1) := by decide +kernel
theorem d_fillJ_3 : decode prog_11_method_101_code 3 = .ok (.arraylength, 1) := by decide +kernel
theorem d_fillJ_4 : decode prog_11_method_101_code 4 = .ok (.istore 4, 2) := by decide +kernel
theorem d_fillJ_6 : decode prog_11_method_101_code 6 = .ok (.iload_n 3, 1) := by decide +kernel
theorem d_fillJ_7 : decode prog_11_method_101_code 7 = .ok (.iload 4, 2) := by decide +kernel
theorem d_fillJ_9 : decode prog_11_method_101_code 9 = .ok (.if_icmp .ge 13, 3) := by decide +kernel
theorem d_fillJ_12 : decode prog_11_method_101_code 12 = .ok (.aload_n 0, 1) := by decide +kernel
theorem d_fillJ_13 : decode prog_11_method_101_code 13 = .ok (.iload_n 3, 1) := by decide +kernel
theorem d_fillJ_14 : decode prog_11_method_101_code 14 = .ok (.lload_n 1, 1) := by decide +kernel
theorem d_fillJ_15 : decode prog_11_method_101_code 15 = .ok (.lastore, 1) := by decide +kernel
theorem d_fillJ_16 : decode prog_11_method_101_code 16 = .ok (.iinc 3 1, 3) := by decide +kernel
theorem d_fillJ_19 : decode prog_11_method_101_code 19 = .ok (.goto (-13), 3) := by decide +kernel
theorem d_fillJ_22 : decode prog_11_method_101_code 22 = .ok (.return_, 1) := by decide +kernel
end
section
set_option maxHeartbeats 4000000 in
set_option maxRecDepth 100000 in
theorem lc_fillI (l : Launch) (D : va_G) (cI cZ cJ : ClassId) (b0 n : Nat) (hn : n ≤ 100000) (f : Nat → Int32) (v : Int32) (sz : Nat) : Met l y_fillI (Cond.code y_fillI prog_11_method_103_code 4 none :: bgT) ({ frames := 0, cells := 0, slots := 0, locals := 0 }) (ld_PM D cI cZ cJ [(b0, .inl (cI, n, .inl (f)))] sz [.ref b0, .int v]) (ld_QV D [(b0, .inl (cI, n, .inl (ld_fl n v f)))] (va_A [(b0, .inl (cI, n, .inl (f)))] sz)) 0 0 (va_A [(b0, .inl (cI, n, .inl (f)))] sz) := by
  refine Met.ofW (cc := prog_11_method_103_code) (maxL := 4) (ret := none) (by decide) rfl ?_
  intro p e s m args below meth c s₁ B hml hv
  obtain ⟨rfl, hsz, hP, hK, hD0, hN⟩ := hv
  have hx := B.exec
  have hb := B.bytes
  have hr := B.returns
  have hlocks := B.notSynchronized
  subst hsz
  have hD := hD0.self (sz := s.heap.size)
  generalize hAe : va_A [(b0, .inl (cI, n, .inl (f)))] s.heap.size = A at hD ⊢
  have hA : ∀ q : Nat, s.heap.size ≤ q → A q := fun q h => by rw [← hAe]; exact Or.inr h
  have hS : va_S A s.heap s.heap [] := va_S.rf
  have hl := lv_entry ([.ref b0, .int v]) (n := 4) (Nat.le_of_ble_eq_true rfl)
  rw [lg_entry_eq]
  generalize (lg_sl ([.ref b0, .int v]) ++ List.replicate (4 - (lg_sl ([.ref b0, .int v])).length) Slot.unset).toArray = ls at hl ⊢
  have hl : lv_has ls 4 [(0, .ref b0), (1, .int v)] := hl
  refine lv_iconst (v := 0) hx hb d_fillI_0 (by decide) ?_
  refine lv_istore_n (lv' := [(2, .int 0), (0, .ref b0), (1, .int v)]) hx hb d_fillI_1 rfl hl (by decide) rfl (fun ls hl => ?_)
  refine lv_aload_n hx hb d_fillI_2 rfl (lv_at hl 1 rfl) ?_
  refine va_alen hx hb hK hP 0 0 rfl rfl (v := nI n) rfl d_fillI_3 ?_
  refine lv_istore_n (lv' := [(3, .int (nI n)), (2, .int 0), (0, .ref b0), (1, .int v)]) hx hb d_fillI_4 rfl hl (by decide) rfl (fun ls hl => ?_)
  have key : ∀ (k i : Nat) (H : Heap) (locs : List Loc) (ls : Array Slot), i + k = n → va_P D vwCl [(b0, .inl (cI, n, .inl (ld_fl i v f)))] H → va_D A [(b0, .inl (cI, n, .inl (ld_fl i v f)))] → va_S A s.heap H locs → lv_has ls 4 [(0, .ref b0), (1, .int v), (2, .int (nI i)), (3, .int (nI n))] → W p l e (headSpec (Cond.code y_fillI prog_11_method_103_code 4 none :: bgT) ({ frames := 0, cells := 0, slots := 0, locals := 0 })).room s m ([.ref b0, .int v] : List Value).toArray below meth c H locs 0 0 (MQ below (ld_QV D [(b0, .inl (cI, n, .inl (ld_fl n v f)))] A) ([.ref b0, .int v] : List Value).toArray s 0 0 A) (F0 m 5 ls []) := by
    intro k
    induction k with
    | zero =>
      intro i H locs ls hik hP hD hS hl
      obtain rfl : i = n := by omega
      refine lv_iload_n hx hb d_fillI_5 rfl (lv_at hl 2 rfl) ?_
      refine lv_iload_n hx hb d_fillI_6 rfl (lv_at hl 3 rfl) ?_
      refine lv_icmp_ge (tgt := 20) hx hb d_fillI_7 (by decide) (fun c => ?_) (fun c => absurd (nI_le (Nat.le_refl _) (by omega)) c)
      exact W.vret hx hb hr (fun t ht hW => ⟨⟨(), rfl, trivial, by rw [ht]; exact hP, hD⟩, hS.F ht⟩) hS.2.2 d_fillI_20
    | succ k ih =>
      intro i H locs ls hik hP hD hS hl
      refine lv_iload_n hx hb d_fillI_5 rfl (lv_at hl 2 rfl) ?_
      refine lv_iload_n hx hb d_fillI_6 rfl (lv_at hl 3 rfl) ?_
      refine lv_icmp_ge (tgt := 20) hx hb d_fillI_7 (by decide) (fun c => absurd c (nI_ge (by omega) (by omega))) (fun c => ?_)
      refine lv_aload_n hx hb d_fillI_10 rfl (lv_at hl 0 rfl) ?_
      refine lv_iload_n hx hb d_fillI_11 rfl (lv_at hl 2 rfl) ?_
      refine lv_iload_n hx hb d_fillI_12 rfl (lv_at hl 1 rfl) ?_
      refine va_iast hx hb hK hP hD hS 0 0 rfl rfl (i := nI i) (vp_in_nI (by omega) (by omega)) d_fillI_13 (fun H locs hP hD hS => ?_)
      have e : upd (ld_fl i v f) (nI i).toNatClampNeg v = ld_fl (i + 1) v f := by
        rw [nI_clamp (by omega)]
        funext j
        show (if j = i then v else if j < i then v else f j) = if j < i + 1 then v else f j
        by_cases h1 : j = i
        · rw [if_pos h1, if_pos (by omega)]
        · rw [if_neg h1]
          by_cases h2 : j < i
          · rw [if_pos h2, if_pos (by omega)]
          · rw [if_neg h2, if_neg (by omega)]
      have hP : va_P D vwCl [(b0, .inl (cI, n, .inl (ld_fl (i + 1) v f)))] H := by rw [← e]; exact hP
      have hD : va_D A [(b0, .inl (cI, n, .inl (ld_fl (i + 1) v f)))] := by rw [← e]; exact hD
      refine lv_iinc (v := nI (i + 1)) (lv' := [(2, .int (nI (i + 1))), (0, .ref b0), (1, .int v), (3, .int (nI n))]) hx hb d_fillI_14 hl (k := 2) rfl (nI_1 i) (by decide) rfl (fun ls hl => ?_)
      refine lv_goto (tgt := 5) hx hb d_fillI_17 (by decide) ?_
      exact ih (i + 1) _ _ _ (by omega) hP hD hS (lv_sub hl [1, 2, 0, 3] rfl)
  have e0 : ld_fl 0 v f = f := by
    funext j
    exact if_neg (Nat.not_lt_zero j)
  refine key n 0 _ _ _ (by omega) (by rw [e0]; exact hP) (by rw [e0]; exact hD) hS (lv_sub hl [2, 3, 1, 0] rfl)
set_option maxHeartbeats 4000000 in
set_option maxRecDepth 100000 in
theorem lc_fillJ (l : Launch) (D : va_G) (cI cZ cJ : ClassId) (b0 n : Nat) (hn : n ≤ 100000) (f : Nat → Int64) (v : Int64) (sz : Nat) : Met l y_fillJ (Cond.code y_fillJ prog_11_method_101_code 5 none :: bgT) ({ frames := 0, cells := 0, slots := 0, locals := 0 }) (ld_PM D cI cZ cJ [(b0, .inl (cJ, n, .inr (.inl (f))))] sz [.ref b0, .long v]) (ld_QV D [(b0, .inl (cJ, n, .inr (.inl (ld_flL n v f))))] (va_A [(b0, .inl (cJ, n, .inr (.inl (f))))] sz)) 0 0 (va_A [(b0, .inl (cJ, n, .inr (.inl (f))))] sz) := by
  refine Met.ofW (cc := prog_11_method_101_code) (maxL := 5) (ret := none) (by decide) rfl ?_
  intro p e s m args below meth c s₁ B hml hv
  obtain ⟨rfl, hsz, hP, hK, hD0, hN⟩ := hv
  have hx := B.exec
  have hb := B.bytes
  have hr := B.returns
  have hlocks := B.notSynchronized
  subst hsz
  have hD := hD0.self (sz := s.heap.size)
  generalize hAe : va_A [(b0, .inl (cJ, n, .inr (.inl (f))))] s.heap.size = A at hD ⊢
  have hA : ∀ q : Nat, s.heap.size ≤ q → A q := fun q h => by rw [← hAe]; exact Or.inr h
  have hS : va_S A s.heap s.heap [] := va_S.rf
  have hl := lv_entry ([.ref b0, .long v]) (n := 5) (Nat.le_of_ble_eq_true rfl)
  rw [lg_entry_eq]
  generalize (lg_sl ([.ref b0, .long v]) ++ List.replicate (5 - (lg_sl ([.ref b0, .long v])).length) Slot.unset).toArray = ls at hl ⊢
  have hl : lv_has ls 5 [(0, .ref b0), (1, .long v)] := hl
  refine lv_iconst (v := 0) hx hb d_fillJ_0 (by decide) ?_
  refine lv_istore_n (lv' := [(3, .int 0), (0, .ref b0), (1, .long v)]) hx hb d_fillJ_1 rfl hl (by decide) rfl (fun ls hl => ?_)
  refine lv_aload_n hx hb d_fillJ_2 rfl (lv_at hl 1 rfl) ?_
  refine va_alen hx hb hK hP 0 2 rfl rfl (v := nI n) rfl d_fillJ_3 ?_
  refine lv_istore (lv' := [(4, .int (nI n)), (3, .int 0), (0, .ref b0), (1, .long v)]) hx hb d_fillJ_4 hl (by decide) rfl (fun ls hl => ?_)
  have key : ∀ (k i : Nat) (H : Heap) (locs : List Loc) (ls : Array Slot), i + k = n → va_P D vwCl [(b0, .inl (cJ, n, .inr (.inl (ld_flL i v f))))] H → va_D A [(b0, .inl (cJ, n, .inr (.inl (ld_flL i v f))))] → va_S A s.heap H locs → lv_has ls 5 [(0, .ref b0), (1, .long v), (3, .int (nI i)), (4, .int (nI n))] → W p l e (headSpec (Cond.code y_fillJ prog_11_method_101_code 5 none :: bgT) ({ frames := 0, cells := 0, slots := 0, locals := 0 })).room s m ([.ref b0, .long v] : List Value).toArray below meth c H locs 0 0 (MQ below (ld_QV D [(b0, .inl (cJ, n, .inr (.inl (ld_flL n v f))))] A) ([.ref b0, .long v] : List Value).toArray s 0 0 A) (F0 m 6 ls []) := by
    intro k
    induction k with
    | zero =>
      intro i H locs ls hik hP hD hS hl
      obtain rfl : i = n := by omega
      refine lv_iload_n hx hb d_fillJ_6 rfl (lv_at hl 2 rfl) ?_
      refine lv_iload hx hb d_fillJ_7 (lv_at hl 3 rfl) ?_
      refine lv_icmp_ge (tgt := 22) hx hb d_fillJ_9 (by decide) (fun c => ?_) (fun c => absurd (nI_le (Nat.le_refl _) (by omega)) c)
      exact W.vret hx hb hr (fun t ht hW => ⟨⟨(), rfl, trivial, by rw [ht]; exact hP, hD⟩, hS.F ht⟩) hS.2.2 d_fillJ_22
    | succ k ih =>
      intro i H locs ls hik hP hD hS hl
      refine lv_iload_n hx hb d_fillJ_6 rfl (lv_at hl 2 rfl) ?_
      refine lv_iload hx hb d_fillJ_7 (lv_at hl 3 rfl) ?_
      refine lv_icmp_ge (tgt := 22) hx hb d_fillJ_9 (by decide) (fun c => absurd c (nI_ge (by omega) (by omega))) (fun c => ?_)
      refine lv_aload_n hx hb d_fillJ_12 rfl (lv_at hl 0 rfl) ?_
      refine lv_iload_n hx hb d_fillJ_13 rfl (lv_at hl 2 rfl) ?_
      refine lv_lload_n hx hb d_fillJ_14 rfl (lv_at hl 1 rfl) ?_
      refine va_last hx hb hK hP hD hS 0 2 rfl rfl (i := nI i) (vp_in_nI (by omega) (by omega)) d_fillJ_15 (fun H locs hP hD hS => ?_)
      have e : vp_updL (ld_flL i v f) (nI i).toNatClampNeg v = ld_flL (i + 1) v f := by
        rw [nI_clamp (by omega)]
        funext j
        show (if j = i then v else if j < i then v else f j) = if j < i + 1 then v else f j
        by_cases h1 : j = i
        · rw [if_pos h1, if_pos (by omega)]
        · rw [if_neg h1]
          by_cases h2 : j < i
          · rw [if_pos h2, if_pos (by omega)]
          · rw [if_neg h2, if_neg (by omega)]
      have hP : va_P D vwCl [(b0, .inl (cJ, n, .inr (.inl (ld_flL (i + 1) v f))))] H := by rw [← e]; exact hP
      have hD : va_D A [(b0, .inl (cJ, n, .inr (.inl (ld_flL (i + 1) v f))))] := by rw [← e]; exact hD
      refine lv_iinc (v := nI (i + 1)) (lv' := [(3, .int (nI (i + 1))), (0, .ref b0), (1, .long v), (4, .int (nI n))]) hx hb d_fillJ_16 hl (k := 2) rfl (nI_1 i) (by decide) rfl (fun ls hl => ?_)
      refine lv_goto (tgt := 6) hx hb d_fillJ_19 (by decide) ?_
      exact ih (i + 1) _ _ _ (by omega) hP hD hS (lv_sub hl [1, 2, 0, 3] rfl)
  have e0 : ld_flL 0 v f = f := by
    funext j
    exact if_neg (Nat.not_lt_zero j)
  refine key n 0 _ _ _ (by omega) (by rw [e0]; exact hP) (by rw [e0]; exact hD) hS (lv_sub hl [2, 3, 1, 0] rfl)
end
section
theorem d_isRef_0 : decode prog_1_method_12_code 0 = .ok (.iload_n 0, 1) := by decide +kernel
theorem d_isRef_1 : decode prog_1_method_12_code 1 = .ok (.ifCond .lt 13, 3) := by decide +kernel
theorem d_isRef_4 : decode prog_1_method_12_code 4 = .ok (.iload_n 0, 1) := by decide +kernel
theorem d_isRef_5 : decode prog_1_method_12_code 5 = .ok (.bipush 16, 2) := by decide +kernel
theorem d_isRef_7 : decode prog_1_method_12_code 7 = .ok (.if_icmp .ge 7, 3) := by decide +kernel
theorem d_isRef_10 : decode prog_1_method_12_code 10 = .ok (.iconst 1, 1) := by decide +kernel
theorem d_isRef_11 : decode prog_1_method_12_code 11 = .ok (.goto 4, 3) := by decide +kernel
theorem d_isRef_14 : decode prog_1_method_12_code 14 = .ok (.iconst 0, 1) := by decide +kernel
theorem d_isRef_15 : decode prog_1_method_12_code 15 = .ok (.ireturn, 1) := by decide +kernel
theorem d_isIndex_0 : decode prog_1_method_15_code 0 = .ok (.iload_n 0, 1) := by decide +kernel
theorem d_isIndex_1 : decode prog_1_method_15_code 1 = .ok (.ifCond .lt 13, 3) := by decide +kernel
theorem d_isIndex_4 : decode prog_1_method_15_code 4 = .ok (.iload_n 0, 1) := by decide +kernel
theorem d_isIndex_5 : decode prog_1_method_15_code 5 = .ok (.bipush 120, 2) := by decide +kernel
theorem d_isIndex_7 : decode prog_1_method_15_code 7 = .ok (.if_icmp .ge 7, 3) := by decide +kernel
theorem d_isIndex_10 : decode prog_1_method_15_code 10 = .ok (.iconst 1, 1) := by decide +kernel
theorem d_isIndex_11 : decode prog_1_method_15_code 11 = .ok (.goto 4, 3) := by decide +kernel
theorem d_isIndex_14 : decode prog_1_method_15_code 14 = .ok (.iconst 0, 1) := by decide +kernel
theorem d_isIndex_15 : decode prog_1_method_15_code 15 = .ok (.ireturn, 1) := by decide +kernel
theorem d_isNext_0 : decode prog_1_method_14_code 0 = .ok (.iload_n 0, 1) := by decide +kernel
theorem d_isNext_1 : decode prog_1_method_14_code 1 = .ok (.iconst (-1), 1) := by decide +kernel
theorem d_isNext_2 : decode prog_1_method_14_code 2 = .ok (.if_icmp .eq 10, 3) := by decide +kernel
theorem d_isNext_5 : decode prog_1_method_14_code 5 = .ok (.iload_n 0, 1) := by decide +kernel
theorem d_isNext_6 : decode prog_1_method_14_code 6 = .ok (.invokestatic 131, 3) := by decide +kernel
theorem d_isNext_9 : decode prog_1_method_14_code 9 = .ok (.ifCond .eq 7, 3) := by decide +kernel
theorem d_isNext_12 : decode prog_1_method_14_code 12 = .ok (.iconst 1, 1) := by decide +kernel
theorem d_isNext_13 : decode prog_1_method_14_code 13 = .ok (.goto 4, 3) := by decide +kernel
theorem d_isNext_16 : decode prog_1_method_14_code 16 = .ok (.iconst 0, 1) := by decide +kernel
theorem d_isNext_17 : decode prog_1_method_14_code 17 = .ok (.ireturn, 1) := by decide +kernel
theorem d_isPlace_0 : decode prog_1_method_13_code 0 = .ok (.iload_n 0, 1) := by decide +kernel
theorem d_isPlace_1 : decode prog_1_method_13_code 1 = .ok (.istore_n 1, 1) := by decide +kernel
theorem d_isPlace_2 : decode prog_1_method_13_code 2 = .ok (.iconst 0, 1) := by decide +kernel
theorem d_isPlace_3 : decode prog_1_method_13_code 3 = .ok (.istore_n 2, 1) := by decide +kernel
theorem d_isPlace_4 : decode prog_1_method_13_code 4 = .ok (.iload_n 2, 1) := by decide +kernel
theorem d_isPlace_5 : decode prog_1_method_13_code 5 = .ok (.iconst 4, 1) := by decide +kernel
theorem d_isPlace_6 : decode prog_1_method_13_code 6 = .ok (.if_icmp .ge 27, 3) := by decide +kernel
theorem d_isPlace_9 : decode prog_1_method_13_code 9 = .ok (.iload_n 1, 1) := by decide +kernel
theorem d_isPlace_10 : decode prog_1_method_13_code 10 = .ok (.ifCond .le 23, 3) := by decide +kernel
theorem d_isPlace_13 : decode prog_1_method_13_code 13 = .ok (.iload_n 1, 1) := by decide +kernel
theorem d_isPlace_14 : decode prog_1_method_13_code 14 = .ok (.bipush 10, 2) := by decide +kernel
theorem d_isPlace_16 : decode prog_1_method_13_code 16 = .ok (.irem, 1) := by decide +kernel
theorem d_isPlace_17 : decode prog_1_method_13_code 17 = .ok (.ifCond .ne 5, 3) := by decide +kernel
theorem d_isPlace_20 : decode prog_1_method_13_code 20 = .ok (.iconst 0, 1) := by decide +kernel
theorem d_isPlace_21 : decode prog_1_method_13_code 21 = .ok (.ireturn, 1) := by decide +kernel
theorem d_isPlace_22 : decode prog_1_method_13_code 22 = .ok (.iload_n 1, 1) := by decide +kernel
theorem d_isPlace_23 : decode prog_1_method_13_code 23 = .ok (.bipush 10, 2) := by decide +kernel
theorem d_isPlace_25 : decode prog_1_method_13_code 25 = .ok (.idiv, 1) := by decide +kernel
theorem d_isPlace_26 : decode prog_1_method_13_code 26 = .ok (.istore_n 1, 1) := by decide +kernel
theorem d_isPlace_27 : decode prog_1_method_13_code 27 = .ok (.iinc 2 1, 3) := by decide +kernel
theorem d_isPlace_30 : decode prog_1_method_13_code 30 = .ok (.goto (-26), 3) := by decide +kernel
theorem d_isPlace_33 : decode prog_1_method_13_code 33 = .ok (.iload_n 0, 1) := by decide +kernel
theorem d_isPlace_34 : decode prog_1_method_13_code 34 = .ok (.ifCond .le 11, 3) := by decide +kernel
theorem d_isPlace_37 : decode prog_1_method_13_code 37 = .ok (.iload_n 1, 1) := by decide +kernel
theorem d_isPlace_38 : decode prog_1_method_13_code 38 = .ok (.ifCond .ne 7, 3) := by decide +kernel
theorem d_isPlace_41 : decode prog_1_method_13_code 41 = .ok (.iconst 1, 1) := by decide +kernel
theorem d_isPlace_42 : decode prog_1_method_13_code 42 = .ok (.goto 4, 3) := by decide +kernel
theorem d_isPlace_45 : decode prog_1_method_13_code 45 = .ok (.iconst 0, 1) := by decide +kernel
theorem d_isPlace_46 : decode prog_1_method_13_code 46 = .ok (.ireturn, 1) := by decide +kernel
theorem d_isDoing_0 : decode prog_1_method_11_code 0 = .ok (.iload_n 0, 1) := by decide +kernel
theorem d_isDoing_1 : decode prog_1_method_11_code 1 = .ok (.tableswitch 104 0 6 #[43, 45, 74, 94, 94, 99, 99], 43) := by decide +kernel
theorem d_isDoing_44 : decode prog_1_method_11_code 44 = .ok (.iconst 1, 1) := by decide +kernel
theorem d_isDoing_45 : decode prog_1_method_11_code 45 = .ok (.ireturn, 1) := by decide +kernel
theorem d_isDoing_46 : decode prog_1_method_11_code 46 = .ok (.iload_n 1, 1) := by decide +kernel
theorem d_isDoing_47 : decode prog_1_method_11_code 47 = .ok (.invokestatic 125, 3) := by decide +kernel
theorem d_isDoing_50 : decode prog_1_method_11_code 50 = .ok (.ifCond .eq 23, 3) := by decide +kernel
theorem d_isDoing_53 : decode prog_1_method_11_code 53 = .ok (.iload_n 2, 1) := by decide +kernel
theorem d_isDoing_54 : decode prog_1_method_11_code 54 = .ok (.invokestatic 128, 3) := by decide +kernel
theorem d_isDoing_57 : decode prog_1_method_11_code 57 = .ok (.ifCond .eq 16, 3) := by decide +kernel
theorem d_isDoing_60 : decode prog_1_method_11_code 60 = .ok (.iload_n 3, 1) := by decide +kernel
theorem d_isDoing_61 : decode prog_1_method_11_code 61 = .ok (.ifCond .eq 8, 3) := by decide +kernel
theorem d_isDoing_64 : decode prog_1_method_11_code 64 = .ok (.iload_n 3, 1) := by decide +kernel
theorem d_isDoing_65 : decode prog_1_method_11_code 65 = .ok (.iconst 1, 1) := by decide +kernel
theorem d_isDoing_66 : decode prog_1_method_11_code 66 = .ok (.if_icmp .ne 7, 3) := by decide +kernel
theorem d_isDoing_69 : decode prog_1_method_11_code 69 = .ok (.iconst 1, 1) := by decide +kernel
theorem d_isDoing_70 : decode prog_1_method_11_code 70 = .ok (.goto 4, 3) := by decide +kernel
theorem d_isDoing_73 : decode prog_1_method_11_code 73 = .ok (.iconst 0, 1) := by decide +kernel
theorem d_isDoing_74 : decode prog_1_method_11_code 74 = .ok (.ireturn, 1) := by decide +kernel
theorem d_isDoing_75 : decode prog_1_method_11_code 75 = .ok (.iload_n 1, 1) := by decide +kernel
theorem d_isDoing_76 : decode prog_1_method_11_code 76 = .ok (.invokestatic 125, 3) := by decide +kernel
theorem d_isDoing_79 : decode prog_1_method_11_code 79 = .ok (.ifCond .eq 14, 3) := by decide +kernel
theorem d_isDoing_82 : decode prog_1_method_11_code 82 = .ok (.iload_n 2, 1) := by decide +kernel
theorem d_isDoing_83 : decode prog_1_method_11_code 83 = .ok (.invokestatic 125, 3) := by decide +kernel
theorem d_isDoing_86 : decode prog_1_method_11_code 86 = .ok (.ifCond .eq 7, 3) := by decide +kernel
theorem d_isDoing_89 : decode prog_1_method_11_code 89 = .ok (.iconst 1, 1) := by decide +kernel
theorem d_isDoing_90 : decode prog_1_method_11_code 90 = .ok (.goto 4, 3) := by decide +kernel
theorem d_isDoing_93 : decode prog_1_method_11_code 93 = .ok (.iconst 0, 1) := by decide +kernel
theorem d_isDoing_94 : decode prog_1_method_11_code 94 = .ok (.ireturn, 1) := by decide +kernel
theorem d_isDoing_95 : decode prog_1_method_11_code 95 = .ok (.iload_n 1, 1) := by decide +kernel
theorem d_isDoing_96 : decode prog_1_method_11_code 96 = .ok (.invokestatic 125, 3) := by decide +kernel
theorem d_isDoing_99 : decode prog_1_method_11_code 99 = .ok (.ireturn, 1) := by decide +kernel
theorem d_isDoing_100 : decode prog_1_method_11_code 100 = .ok (.iload_n 2, 1) := by decide +kernel
theorem d_isDoing_101 : decode prog_1_method_11_code 101 = .ok (.invokestatic 128, 3) := by decide +kernel
theorem d_isDoing_104 : decode prog_1_method_11_code 104 = .ok (.ireturn, 1) := by decide +kernel
theorem d_isDoing_105 : decode prog_1_method_11_code 105 = .ok (.iconst 0, 1) := by decide +kernel
theorem d_isDoing_106 : decode prog_1_method_11_code 106 = .ok (.ireturn, 1) := by decide +kernel
end
section
def lf_isRef (p0 : Int32) : Int32 := if p0 < 0 then 0 else if 16 ≤ p0 then 0 else 1
set_option maxHeartbeats 4000000 in
set_option maxRecDepth 100000 in
theorem lc_isRef (l : Launch) (D : va_G) (cI cZ cJ : ClassId)  (p0 : Int32) (R : Int32) (h : lf_isRef p0 = R) : Met l y_isRef (Cond.code y_isRef prog_1_method_12_code 1 (some .boolean) :: bgT) ({ frames := 0, cells := 0, slots := 0, locals := 0 }) (ld_PR D cI cZ cJ ([]) [.int p0]) (vp_Si (fun z => z = R)) 0 0 (fun _ => False) := by
  refine Met.ofW (cc := prog_1_method_12_code) (maxL := 1) (ret := (some .boolean)) (by decide) rfl ?_
  intro p e s m args below meth c s₁ B hml hv
  obtain ⟨rfl, hP, hK, hN⟩ := hv
  have hx := B.exec
  have hb := B.bytes
  have hr := B.returns
  have hg : ∀ w ∈ bgT, w.before _ s = true := fun w h => atoms_spec (ws := (Cond.code y_isRef prog_1_method_12_code 1 (some .boolean) :: bgT)) B.pre w (List.mem_cons_of_mem _ h)
  have hown : s.vm.findClass "LoanDesk" = some m.cls := findClass_of_methodNamed B.named
  have hlocks := B.notSynchronized
  have hl := lv_entry ([.int p0]) (n := 1) (Nat.le_of_ble_eq_true rfl)
  rw [lg_entry_eq]
  generalize (lg_sl ([.int p0]) ++ List.replicate (1 - (lg_sl ([.int p0])).length) Slot.unset).toArray = ls at hl ⊢
  have hl : lv_has ls 1 [(0, .int p0)] := hl
  refine lv_iload_n hx hb d_isRef_0 rfl (lv_at hl 0 rfl) ?_
  refine lv_if_lt (tgt := 14) hx hb d_isRef_1 (by decide) (fun c_1 => ?_) (fun c_1 => ?_)
  · have h := (if_pos c_1).symm.trans h
    refine lv_iconst (v := 0) hx hb d_isRef_14 (by decide) ?_
    exact W.zret (v := 0) hx hb hr rfl (fun t ht hW => ⟨_, rfl, h, ht⟩) (fun _ q => by cases q) d_isRef_15
  · have h := (if_neg c_1).symm.trans h
    refine lv_iload_n hx hb d_isRef_4 rfl (lv_at hl 0 rfl) ?_
    refine lv_bipush (v := 16) hx hb d_isRef_5 (by decide) ?_
    refine lv_icmp_ge (tgt := 14) hx hb d_isRef_7 (by decide) (fun c_2 => ?_) (fun c_2 => ?_)
    · have h := (if_pos c_2).symm.trans h
      refine lv_iconst (v := 0) hx hb d_isRef_14 (by decide) ?_
      exact W.zret (v := 0) hx hb hr rfl (fun t ht hW => ⟨_, rfl, h, ht⟩) (fun _ q => by cases q) d_isRef_15
    · have h := (if_neg c_2).symm.trans h
      refine lv_iconst (v := 1) hx hb d_isRef_10 (by decide) ?_
      refine lv_goto (tgt := 15) hx hb d_isRef_11 (by decide) ?_
      exact W.zret (v := 1) hx hb hr rfl (fun t ht hW => ⟨_, rfl, h, ht⟩) (fun _ q => by cases q) d_isRef_15
theorem lnb_isRef {p r : Int32} (h : lf_isRef p = r) : narrow .boolean (.int r) = .int r := by
  apply ld_nb
  unfold lf_isRef at h
  split at h
  · exact Or.inl h.symm
  · split at h
    · exact Or.inl h.symm
    · exact Or.inr h.symm
def lf_isIndex (p0 : Int32) : Int32 := if p0 < 0 then 0 else if 120 ≤ p0 then 0 else 1
set_option maxHeartbeats 4000000 in
set_option maxRecDepth 100000 in
theorem lc_isIndex (l : Launch) (D : va_G) (cI cZ cJ : ClassId)  (p0 : Int32) (R : Int32) (h : lf_isIndex p0 = R) : Met l y_isIndex (Cond.code y_isIndex prog_1_method_15_code 1 (some .boolean) :: bgT) ({ frames := 0, cells := 0, slots := 0, locals := 0 }) (ld_PR D cI cZ cJ ([]) [.int p0]) (vp_Si (fun z => z = R)) 0 0 (fun _ => False) := by
  refine Met.ofW (cc := prog_1_method_15_code) (maxL := 1) (ret := (some .boolean)) (by decide) rfl ?_
  intro p e s m args below meth c s₁ B hml hv
  obtain ⟨rfl, hP, hK, hN⟩ := hv
  have hx := B.exec
  have hb := B.bytes
  have hr := B.returns
  have hg : ∀ w ∈ bgT, w.before _ s = true := fun w h => atoms_spec (ws := (Cond.code y_isIndex prog_1_method_15_code 1 (some .boolean) :: bgT)) B.pre w (List.mem_cons_of_mem _ h)
  have hown : s.vm.findClass "LoanDesk" = some m.cls := findClass_of_methodNamed B.named
  have hlocks := B.notSynchronized
  have hl := lv_entry ([.int p0]) (n := 1) (Nat.le_of_ble_eq_true rfl)
  rw [lg_entry_eq]
  generalize (lg_sl ([.int p0]) ++ List.replicate (1 - (lg_sl ([.int p0])).length) Slot.unset).toArray = ls at hl ⊢
  have hl : lv_has ls 1 [(0, .int p0)] := hl
  refine lv_iload_n hx hb d_isIndex_0 rfl (lv_at hl 0 rfl) ?_
  refine lv_if_lt (tgt := 14) hx hb d_isIndex_1 (by decide) (fun c_1 => ?_) (fun c_1 => ?_)
  · have h := (if_pos c_1).symm.trans h
    refine lv_iconst (v := 0) hx hb d_isIndex_14 (by decide) ?_
    exact W.zret (v := 0) hx hb hr rfl (fun t ht hW => ⟨_, rfl, h, ht⟩) (fun _ q => by cases q) d_isIndex_15
  · have h := (if_neg c_1).symm.trans h
    refine lv_iload_n hx hb d_isIndex_4 rfl (lv_at hl 0 rfl) ?_
    refine lv_bipush (v := 120) hx hb d_isIndex_5 (by decide) ?_
    refine lv_icmp_ge (tgt := 14) hx hb d_isIndex_7 (by decide) (fun c_2 => ?_) (fun c_2 => ?_)
    · have h := (if_pos c_2).symm.trans h
      refine lv_iconst (v := 0) hx hb d_isIndex_14 (by decide) ?_
      exact W.zret (v := 0) hx hb hr rfl (fun t ht hW => ⟨_, rfl, h, ht⟩) (fun _ q => by cases q) d_isIndex_15
    · have h := (if_neg c_2).symm.trans h
      refine lv_iconst (v := 1) hx hb d_isIndex_10 (by decide) ?_
      refine lv_goto (tgt := 15) hx hb d_isIndex_11 (by decide) ?_
      exact W.zret (v := 1) hx hb hr rfl (fun t ht hW => ⟨_, rfl, h, ht⟩) (fun _ q => by cases q) d_isIndex_15
theorem ld_ix {x r : Int32} (h : lf_isIndex x = r) (c : ¬ r = 0) : vp_in x 120 := by
  unfold lf_isIndex at h
  by_cases h1 : x < 0
  · rw [if_pos h1] at h
    exact absurd h.symm c
  · rw [if_neg h1] at h
    by_cases h2 : 120 ≤ x
    · rw [if_pos h2] at h
      exact absurd h.symm c
    · exact ld_rg h1 h2
theorem ld_ix1 {j : Nat} (h : j < 120) : lf_isIndex (nI j) = 1 := by
  unfold lf_isIndex
  rw [if_neg (nI_pos (by omega)), if_neg (show ¬ (120 : Int32) ≤ nI j from nI_ge (b := 120) h (by omega))]
theorem ld_ix0 {x : Int32} (h : ∀ j, j < 120 → x ≠ nI j) : lf_isIndex x = 0 := by
  unfold lf_isIndex
  rcases pk_ix x (n := 120) (by omega) with q | q | ⟨j, hj, q⟩
  · rw [if_pos q]
  · by_cases h0 : x < 0
    · rw [if_pos h0]
    · rw [if_neg h0, if_pos (show (120 : Int32) ≤ x from q)]
  · exact absurd q (h j hj)
def lf_isNext (p0 : Int32) : Int32 := if p0 = (-1) then 1 else ld_lt (lf_isIndex p0) (fun r_2 => if r_2 = 0 then 0 else 1)
set_option maxHeartbeats 4000000 in
set_option maxRecDepth 100000 in
theorem lc_isNext (l : Launch) (D : va_G) (cI cZ cJ : ClassId)  (p0 : Int32) (R : Int32) (h : lf_isNext p0 = R) : Met l y_isNext (Cond.code y_isNext prog_1_method_14_code 1 (some .boolean) :: bgT) ({ frames := 1, cells := 0, slots := 0, locals := 20 }) (ld_PR D cI cZ cJ ([]) [.int p0]) (vp_Si (fun z => z = R)) 0 0 (fun _ => False) := by
  refine Met.ofW (cc := prog_1_method_14_code) (maxL := 1) (ret := (some .boolean)) (by decide) rfl ?_
  intro p e s m args below meth c s₁ B hml hv
  obtain ⟨rfl, hP, hK, hN⟩ := hv
  have hx := B.exec
  have hb := B.bytes
  have hr := B.returns
  have hg : ∀ w ∈ bgT, w.before _ s = true := fun w h => atoms_spec (ws := (Cond.code y_isNext prog_1_method_14_code 1 (some .boolean) :: bgT)) B.pre w (List.mem_cons_of_mem _ h)
  have hown : s.vm.findClass "LoanDesk" = some m.cls := findClass_of_methodNamed B.named
  have hlocks := B.notSynchronized
  have hl := lv_entry ([.int p0]) (n := 1) (Nat.le_of_ble_eq_true rfl)
  rw [lg_entry_eq]
  generalize (lg_sl ([.int p0]) ++ List.replicate (1 - (lg_sl ([.int p0])).length) Slot.unset).toArray = ls at hl ⊢
  have hl : lv_has ls 1 [(0, .int p0)] := hl
  refine lv_iload_n hx hb d_isNext_0 rfl (lv_at hl 0 rfl) ?_
  refine lv_iconst (v := (-1)) hx hb d_isNext_1 (by decide) ?_
  refine lv_icmp_eq (tgt := 12) hx hb d_isNext_2 (by decide) (fun c_1 => ?_) (fun c_1 => ?_)
  · have h := (if_pos c_1).symm.trans h
    refine lv_iconst (v := 1) hx hb d_isNext_12 (by decide) ?_
    refine lv_goto (tgt := 17) hx hb d_isNext_13 (by decide) ?_
    exact W.zret (v := 1) hx hb hr rfl (fun t ht hW => ⟨_, rfl, h, ht⟩) (fun _ q => by cases q) d_isNext_17
  · have h := (if_neg c_1).symm.trans h
    refine lv_iload_n hx hb d_isNext_5 rfl (lv_at hl 0 rfl) ?_
    obtain ⟨r_2, e_2, h⟩ := ld_nm h
    refine ld_rd (W.runS (As := [.int p0]) (rest := []) ⟨hx, hb, hml, hown, hg⟩ (lc_isIndex l D cI cZ cJ p0 r_2 e_2) ⟨callB_of 1 hg (ld_gd k_161) rfl rfl rfl (hg _ k_23) (hg _ k_159) hd_isIndex ⟨Nat.le_of_ble_eq_true rfl, Nat.le_of_ble_eq_true rfl⟩, hg _ k_160⟩ (ld_preR hP hK hN [] rfl) rfl rfl hl.1 rfl (lv_room (Nat.le_of_ble_eq_true rfl)) d_isNext_6 ⟨Nat.zero_le _, Nat.zero_le _⟩) ?_
    refine lv_if_eq (tgt := 16) hx hb d_isNext_9 (by decide) (fun c_3 => ?_) (fun c_3 => ?_)
    · have h := (if_pos c_3).symm.trans h
      refine lv_iconst (v := 0) hx hb d_isNext_16 (by decide) ?_
      exact W.zret (v := 0) hx hb hr rfl (fun t ht hW => ⟨_, rfl, h, ht⟩) (fun _ q => by cases q) d_isNext_17
    · have h := (if_neg c_3).symm.trans h
      refine lv_iconst (v := 1) hx hb d_isNext_12 (by decide) ?_
      refine lv_goto (tgt := 17) hx hb d_isNext_13 (by decide) ?_
      exact W.zret (v := 1) hx hb hr rfl (fun t ht hW => ⟨_, rfl, h, ht⟩) (fun _ q => by cases q) d_isNext_17
def ls_isPlace_1 (v1 : Int32 × Int32) : Option ((Int32 × Int32) ⊕ ((Int32 × Int32) ⊕ (Int32))) := if 4 ≤ v1.2 then some (.inr (.inl (v1.1, v1.2))) else if v1.1 ≤ 0 then some (.inr (.inl (v1.1, v1.2))) else if (v1.1 - v1.1 / 10 * 10) = 0 then some (.inr (.inr 0)) else some (.inl (v1.1 / 10, v1.2 + 1))
def lm_isPlace (N : Nat) (p0 : Int32) : Option (Int32) := Option.bind (ld_it (ls_isPlace_1) N (p0, 0)) (fun Y1 => ld_ex Y1 (fun y1 => if p0 ≤ 0 then some 0 else if y1.1 = 0 then some 1 else some 0) (fun R9 => some R9))
set_option maxHeartbeats 4000000 in
set_option maxRecDepth 100000 in
theorem lc_isPlace (l : Launch) (D : va_G) (cI cZ cJ : ClassId)  (p0 : Int32) (N : Nat) (R : Int32) (h : lm_isPlace N p0 = some R) : Met l y_isPlace (Cond.code y_isPlace prog_1_method_13_code 3 (some .boolean) :: bgT) ({ frames := 0, cells := 0, slots := 0, locals := 0 }) (ld_PR D cI cZ cJ ([]) [.int p0]) (vp_Si (fun z => z = R)) 0 0 (fun _ => False) := by
  refine Met.ofW (cc := prog_1_method_13_code) (maxL := 3) (ret := (some .boolean)) (by decide) rfl ?_
  intro p e s m args below meth c s₁ B hml hv
  obtain ⟨rfl, hP, hK, hN⟩ := hv
  have hx := B.exec
  have hb := B.bytes
  have hr := B.returns
  have hg : ∀ w ∈ bgT, w.before _ s = true := fun w h => atoms_spec (ws := (Cond.code y_isPlace prog_1_method_13_code 3 (some .boolean) :: bgT)) B.pre w (List.mem_cons_of_mem _ h)
  have hown : s.vm.findClass "LoanDesk" = some m.cls := findClass_of_methodNamed B.named
  have hlocks := B.notSynchronized
  have hl := lv_entry ([.int p0]) (n := 3) (Nat.le_of_ble_eq_true rfl)
  rw [lg_entry_eq]
  generalize (lg_sl ([.int p0]) ++ List.replicate (3 - (lg_sl ([.int p0])).length) Slot.unset).toArray = ls at hl ⊢
  have hl : lv_has ls 3 [(0, .int p0)] := hl
  refine lv_iload_n hx hb d_isPlace_0 rfl (lv_at hl 0 rfl) ?_
  refine lv_istore_n (lv' := [(1, .int p0), (0, .int p0)]) hx hb d_isPlace_1 rfl hl (by decide) rfl (fun ls hl => ?_)
  refine lv_iconst (v := 0) hx hb d_isPlace_2 (by decide) ?_
  refine lv_istore_n (lv' := [(2, .int 0), (1, .int p0), (0, .int p0)]) hx hb d_isPlace_3 rfl hl (by decide) rfl (fun ls hl => ?_)
  obtain ⟨Y1, eY1, h⟩ := ld_ob h
  have kont1 : ∀ (y1 : Int32 × Int32) (ls : Array Slot), Y1 = .inl y1 → lv_has ls 3 [(0, .int p0), (1, .int y1.1)] → W p l e (headSpec (Cond.code y_isPlace prog_1_method_13_code 3 (some .boolean) :: bgT) ({ frames := 0, cells := 0, slots := 0, locals := 0 })).room s m ([.int p0] : List Value).toArray below meth c s.heap [] 0 0 (MQ below (vp_Si (fun z => z = R)) ([.int p0] : List Value).toArray s 0 0 (fun _ => False)) (F0 m 33 ls []) := by
    intro y1 ls eq1 hl
    subst eq1
    refine lv_iload_n hx hb d_isPlace_33 rfl (lv_at hl 0 rfl) ?_
    refine lv_if_le (tgt := 45) hx hb d_isPlace_34 (by decide) (fun c_1 => ?_) (fun c_1 => ?_)
    · have h := (if_pos c_1).symm.trans h
      refine lv_iconst (v := 0) hx hb d_isPlace_45 (by decide) ?_
      have h := Option.some.inj h
      exact W.zret (v := 0) hx hb hr rfl (fun t ht hW => ⟨_, rfl, h, ht⟩) (fun _ q => by cases q) d_isPlace_46
    · have h := (if_neg c_1).symm.trans h
      refine lv_iload_n hx hb d_isPlace_37 rfl (lv_at hl 1 rfl) ?_
      refine lv_if_ne (tgt := 45) hx hb d_isPlace_38 (by decide) (fun c_2 => ?_) (fun c_2 => ?_)
      · have h := (if_neg c_2).symm.trans h
        refine lv_iconst (v := 0) hx hb d_isPlace_45 (by decide) ?_
        have h := Option.some.inj h
        exact W.zret (v := 0) hx hb hr rfl (fun t ht hW => ⟨_, rfl, h, ht⟩) (fun _ q => by cases q) d_isPlace_46
      · have h := (if_pos c_2).symm.trans h
        refine lv_iconst (v := 1) hx hb d_isPlace_41 (by decide) ?_
        refine lv_goto (tgt := 46) hx hb d_isPlace_42 (by decide) ?_
        have h := Option.some.inj h
        exact W.zret (v := 1) hx hb hr rfl (fun t ht hW => ⟨_, rfl, h, ht⟩) (fun _ q => by cases q) d_isPlace_46
  have key1 : ∀ (n : Nat) (v1 : Int32 × Int32) (ls : Array Slot), ld_it (ls_isPlace_1) n v1 = some Y1 → lv_has ls 3 [(0, .int p0), (1, .int v1.1), (2, .int v1.2)] → W p l e (headSpec (Cond.code y_isPlace prog_1_method_13_code 3 (some .boolean) :: bgT) ({ frames := 0, cells := 0, slots := 0, locals := 0 })).room s m ([.int p0] : List Value).toArray below meth c s.heap [] 0 0 (MQ below (vp_Si (fun z => z = R)) ([.int p0] : List Value).toArray s 0 0 (fun _ => False)) (F0 m 4 ls []) := by
    intro n
    induction n with
    | zero => intro v1 ls g1 hl; cases g1
    | succ n ih1 =>
      intro v1 ls g1 hl
      obtain ⟨z1, hy1, g1⟩ := ld_its g1
      refine lv_iload_n hx hb d_isPlace_4 rfl (lv_at hl 2 rfl) ?_
      refine lv_iconst (v := 4) hx hb d_isPlace_5 (by decide) ?_
      refine lv_icmp_ge (tgt := 33) hx hb d_isPlace_6 (by decide) (fun c_3 => ?_) (fun c_3 => ?_)
      · have hy1 := (if_pos c_3).symm.trans hy1
        obtain rfl := Option.some.inj hy1
        exact kont1 (v1.1, v1.2) _ (Option.some.inj g1).symm (lv_sub hl [0, 1] rfl)
      · have hy1 := (if_neg c_3).symm.trans hy1
        refine lv_iload_n hx hb d_isPlace_9 rfl (lv_at hl 1 rfl) ?_
        refine lv_if_le (tgt := 33) hx hb d_isPlace_10 (by decide) (fun c_4 => ?_) (fun c_4 => ?_)
        · have hy1 := (if_pos c_4).symm.trans hy1
          obtain rfl := Option.some.inj hy1
          exact kont1 (v1.1, v1.2) _ (Option.some.inj g1).symm (lv_sub hl [0, 1] rfl)
        · have hy1 := (if_neg c_4).symm.trans hy1
          refine lv_iload_n hx hb d_isPlace_13 rfl (lv_at hl 1 rfl) ?_
          refine lv_bipush (v := 10) hx hb d_isPlace_14 (by decide) ?_
          refine lv_irem hx hb d_isPlace_16 (by decide) ?_
          refine lv_if_ne (tgt := 22) hx hb d_isPlace_17 (by decide) (fun c_5 => ?_) (fun c_5 => ?_)
          · have hy1 := (if_neg c_5).symm.trans hy1
            refine lv_iload_n hx hb d_isPlace_22 rfl (lv_at hl 1 rfl) ?_
            refine lv_bipush (v := 10) hx hb d_isPlace_23 (by decide) ?_
            refine lv_idiv hx hb d_isPlace_25 (by decide) ?_
            refine lv_istore_n (lv' := [(1, .int (v1.1 / 10)), (0, .int p0), (2, .int v1.2)]) hx hb d_isPlace_26 rfl hl (by decide) rfl (fun ls hl => ?_)
            refine lv_iinc (v := v1.2 + 1) (lv' := [(2, .int (v1.2 + 1)), (1, .int (v1.1 / 10)), (0, .int p0)]) hx hb d_isPlace_27 hl (k := 2) rfl rfl (by decide) rfl (fun ls hl => ?_)
            refine lv_goto (tgt := 4) hx hb d_isPlace_30 (by decide) ?_
            obtain rfl := Option.some.inj hy1
            exact ih1 (v1.1 / 10, v1.2 + 1) _ g1 (lv_sub hl [2, 1, 0] rfl)
          · have hy1 := (if_pos c_5).symm.trans hy1
            refine lv_iconst (v := 0) hx hb d_isPlace_20 (by decide) ?_
            obtain rfl := Option.some.inj hy1
            obtain rfl := Option.some.inj g1
            have h := Option.some.inj h
            exact W.zret (v := 0) hx hb hr rfl (fun t ht hW => ⟨_, rfl, h, ht⟩) (fun _ q => by cases q) d_isPlace_21
  exact key1 N (p0, 0) _ eY1 (lv_sub hl [2, 1, 0] rfl)
theorem lnb_isPlace {N : Nat} {p r : Int32} (h : lm_isPlace N p = some r) : narrow .boolean (.int r) = .int r := by
  apply ld_nb
  unfold lm_isPlace at h
  obtain ⟨Y, hY, h⟩ := ld_ob h
  have hJ := ld_inv (f := ls_isPlace_1) (fun _ => True) (fun y => ∀ R, y = .inr R → R = 0) (fun _ _ _ _ => trivial) (fun x y _ hx R hR => by
    subst hR
    unfold ls_isPlace_1 at hx
    split at hx
    · cases hx
    · split at hx
      · cases hx
      · split at hx
        · cases hx; rfl
        · cases hx) N _ _ trivial hY
  cases Y with
  | inl y =>
    have h : (if p ≤ 0 then some 0 else if y.1 = 0 then some 1 else some 0) = some r := h
    split at h
    · exact Or.inl (Option.some.inj h).symm
    · split at h
      · exact Or.inr (Option.some.inj h).symm
      · exact Or.inl (Option.some.inj h).symm
  | inr q =>
    have h : some q = some r := h
    exact Or.inl ((Option.some.inj h).symm.trans (hJ q rfl))
def lm_isDoing (N : Nat) (p0 : Int32) (p1 : Int32) (p2 : Int32) (p3 : Int32) : Option (Int32) := if p0 = 0 then (some 1) else (if p0 = 1 then (ld_lt (lf_isRef p1) (fun r_3 => if r_3 = 0 then some 0 else Option.bind (lm_isPlace N p2) (fun r_5 => if r_5 = 0 then some 0 else if p3 = 0 then some 1 else if p3 = 1 then some 1 else some 0))) else (if p0 = 2 then (ld_lt (lf_isRef p1) (fun r_10 => if r_10 = 0 then some 0 else ld_lt (lf_isRef p2) (fun r_12 => if r_12 = 0 then some 0 else some 1))) else (if p0 = 3 then (ld_lt (lf_isRef p1) (fun r_15 => some r_15)) else (if p0 = 4 then (ld_lt (lf_isRef p1) (fun r_17 => some r_17)) else (if p0 = 5 then (Option.bind (lm_isPlace N p2) (fun r_19 => some r_19)) else (if p0 = 6 then Option.bind (lm_isPlace N p2) (fun r_21 => some r_21) else some 0))))))
set_option maxHeartbeats 4000000 in
set_option maxRecDepth 100000 in
theorem lc_isDoing (l : Launch) (D : va_G) (cI cZ cJ : ClassId)  (p0 : Int32) (p1 : Int32) (p2 : Int32) (p3 : Int32) (N : Nat) (R : Int32) (h : lm_isDoing N p0 p1 p2 p3 = some R) : Met l y_isDoing (Cond.code y_isDoing prog_1_method_11_code 4 (some .boolean) :: bgT) ({ frames := 1, cells := 0, slots := 0, locals := 22 }) (ld_PR D cI cZ cJ ([]) [.int p0, .int p1, .int p2, .int p3]) (vp_Si (fun z => z = R)) 0 0 (fun _ => False) := by
  refine Met.ofW (cc := prog_1_method_11_code) (maxL := 4) (ret := (some .boolean)) (by decide) rfl ?_
  intro p e s m args below meth c s₁ B hml hv
  obtain ⟨rfl, hP, hK, hN⟩ := hv
  have hx := B.exec
  have hb := B.bytes
  have hr := B.returns
  have hg : ∀ w ∈ bgT, w.before _ s = true := fun w h => atoms_spec (ws := (Cond.code y_isDoing prog_1_method_11_code 4 (some .boolean) :: bgT)) B.pre w (List.mem_cons_of_mem _ h)
  have hown : s.vm.findClass "LoanDesk" = some m.cls := findClass_of_methodNamed B.named
  have hlocks := B.notSynchronized
  have hl := lv_entry ([.int p0, .int p1, .int p2, .int p3]) (n := 4) (Nat.le_of_ble_eq_true rfl)
  rw [lg_entry_eq]
  generalize (lg_sl ([.int p0, .int p1, .int p2, .int p3]) ++ List.replicate (4 - (lg_sl ([.int p0, .int p1, .int p2, .int p3])).length) Slot.unset).toArray = ls at hl ⊢
  have hl : lv_has ls 4 [(0, .int p0), (1, .int p1), (2, .int p2), (3, .int p3)] := hl
  refine lv_iload_n hx hb d_isDoing_0 rfl (lv_at hl 0 rfl) ?_
  by_cases c_1 : p0 = 0
  · have h := (if_pos c_1).symm.trans h
    refine lv_tableIn (tgt := 44) hx hb d_isDoing_1 (by rw [c_1]; decide) (by rw [c_1]; decide) (by rw [c_1]; rfl) (by decide) ?_
    refine lv_iconst (v := 1) hx hb d_isDoing_44 (by decide) ?_
    have h := Option.some.inj h
    exact W.zret (v := 1) hx hb hr rfl (fun t ht hW => ⟨_, rfl, h, ht⟩) (fun _ q => by cases q) d_isDoing_45
  have h := (if_neg c_1).symm.trans h
  by_cases c_2 : p0 = 1
  · have h := (if_pos c_2).symm.trans h
    refine lv_tableIn (tgt := 46) hx hb d_isDoing_1 (by rw [c_2]; decide) (by rw [c_2]; decide) (by rw [c_2]; rfl) (by decide) ?_
    refine lv_iload_n hx hb d_isDoing_46 rfl (lv_at hl 1 rfl) ?_
    obtain ⟨r_3, e_3, h⟩ := ld_nm h
    refine ld_rd (W.runS (As := [.int p1]) (rest := []) ⟨hx, hb, hml, hown, hg⟩ (lc_isRef l D cI cZ cJ p1 r_3 e_3) ⟨callB_of 1 hg (ld_gd k_132) rfl rfl rfl (hg _ k_23) (hg _ k_130) hd_isRef ⟨Nat.le_of_ble_eq_true rfl, Nat.le_of_ble_eq_true rfl⟩, hg _ k_131⟩ (ld_preR hP hK hN [] rfl) rfl rfl hl.1 rfl (lv_room (Nat.le_of_ble_eq_true rfl)) d_isDoing_47 ⟨Nat.zero_le _, Nat.zero_le _⟩) ?_
    refine lv_if_eq (tgt := 73) hx hb d_isDoing_50 (by decide) (fun c_4 => ?_) (fun c_4 => ?_)
    · have h := (if_pos c_4).symm.trans h
      refine lv_iconst (v := 0) hx hb d_isDoing_73 (by decide) ?_
      have h := Option.some.inj h
      exact W.zret (v := 0) hx hb hr rfl (fun t ht hW => ⟨_, rfl, h, ht⟩) (fun _ q => by cases q) d_isDoing_74
    · have h := (if_neg c_4).symm.trans h
      refine lv_iload_n hx hb d_isDoing_53 rfl (lv_at hl 2 rfl) ?_
      obtain ⟨r_5, e_5, h⟩ := ld_ob h
      refine ld_rd (W.runS (As := [.int p2]) (rest := []) ⟨hx, hb, hml, hown, hg⟩ (lc_isPlace l D cI cZ cJ p2 N r_5 e_5) ⟨callB_of 1 hg (ld_gd k_135) rfl rfl rfl (hg _ k_23) (hg _ k_133) hd_isPlace ⟨Nat.le_of_ble_eq_true rfl, Nat.le_of_ble_eq_true rfl⟩, hg _ k_134⟩ (ld_preR hP hK hN [] rfl) rfl rfl hl.1 rfl (lv_room (Nat.le_of_ble_eq_true rfl)) d_isDoing_54 ⟨Nat.zero_le _, Nat.zero_le _⟩) ?_
      refine lv_if_eq (tgt := 73) hx hb d_isDoing_57 (by decide) (fun c_6 => ?_) (fun c_6 => ?_)
      · have h := (if_pos c_6).symm.trans h
        refine lv_iconst (v := 0) hx hb d_isDoing_73 (by decide) ?_
        have h := Option.some.inj h
        exact W.zret (v := 0) hx hb hr rfl (fun t ht hW => ⟨_, rfl, h, ht⟩) (fun _ q => by cases q) d_isDoing_74
      · have h := (if_neg c_6).symm.trans h
        refine lv_iload_n hx hb d_isDoing_60 rfl (lv_at hl 3 rfl) ?_
        refine lv_if_eq (tgt := 69) hx hb d_isDoing_61 (by decide) (fun c_7 => ?_) (fun c_7 => ?_)
        · have h := (if_pos c_7).symm.trans h
          refine lv_iconst (v := 1) hx hb d_isDoing_69 (by decide) ?_
          refine lv_goto (tgt := 74) hx hb d_isDoing_70 (by decide) ?_
          have h := Option.some.inj h
          exact W.zret (v := 1) hx hb hr rfl (fun t ht hW => ⟨_, rfl, h, ht⟩) (fun _ q => by cases q) d_isDoing_74
        · have h := (if_neg c_7).symm.trans h
          refine lv_iload_n hx hb d_isDoing_64 rfl (lv_at hl 3 rfl) ?_
          refine lv_iconst (v := 1) hx hb d_isDoing_65 (by decide) ?_
          refine lv_icmp_ne (tgt := 73) hx hb d_isDoing_66 (by decide) (fun c_8 => ?_) (fun c_8 => ?_)
          · have h := (if_neg c_8).symm.trans h
            refine lv_iconst (v := 0) hx hb d_isDoing_73 (by decide) ?_
            have h := Option.some.inj h
            exact W.zret (v := 0) hx hb hr rfl (fun t ht hW => ⟨_, rfl, h, ht⟩) (fun _ q => by cases q) d_isDoing_74
          · have h := (if_pos c_8).symm.trans h
            refine lv_iconst (v := 1) hx hb d_isDoing_69 (by decide) ?_
            refine lv_goto (tgt := 74) hx hb d_isDoing_70 (by decide) ?_
            have h := Option.some.inj h
            exact W.zret (v := 1) hx hb hr rfl (fun t ht hW => ⟨_, rfl, h, ht⟩) (fun _ q => by cases q) d_isDoing_74
  have h := (if_neg c_2).symm.trans h
  by_cases c_9 : p0 = 2
  · have h := (if_pos c_9).symm.trans h
    refine lv_tableIn (tgt := 75) hx hb d_isDoing_1 (by rw [c_9]; decide) (by rw [c_9]; decide) (by rw [c_9]; rfl) (by decide) ?_
    refine lv_iload_n hx hb d_isDoing_75 rfl (lv_at hl 1 rfl) ?_
    obtain ⟨r_10, e_10, h⟩ := ld_nm h
    refine ld_rd (W.runS (As := [.int p1]) (rest := []) ⟨hx, hb, hml, hown, hg⟩ (lc_isRef l D cI cZ cJ p1 r_10 e_10) ⟨callB_of 1 hg (ld_gd k_132) rfl rfl rfl (hg _ k_23) (hg _ k_130) hd_isRef ⟨Nat.le_of_ble_eq_true rfl, Nat.le_of_ble_eq_true rfl⟩, hg _ k_131⟩ (ld_preR hP hK hN [] rfl) rfl rfl hl.1 rfl (lv_room (Nat.le_of_ble_eq_true rfl)) d_isDoing_76 ⟨Nat.zero_le _, Nat.zero_le _⟩) ?_
    refine lv_if_eq (tgt := 93) hx hb d_isDoing_79 (by decide) (fun c_11 => ?_) (fun c_11 => ?_)
    · have h := (if_pos c_11).symm.trans h
      refine lv_iconst (v := 0) hx hb d_isDoing_93 (by decide) ?_
      have h := Option.some.inj h
      exact W.zret (v := 0) hx hb hr rfl (fun t ht hW => ⟨_, rfl, h, ht⟩) (fun _ q => by cases q) d_isDoing_94
    · have h := (if_neg c_11).symm.trans h
      refine lv_iload_n hx hb d_isDoing_82 rfl (lv_at hl 2 rfl) ?_
      obtain ⟨r_12, e_12, h⟩ := ld_nm h
      refine ld_rd (W.runS (As := [.int p2]) (rest := []) ⟨hx, hb, hml, hown, hg⟩ (lc_isRef l D cI cZ cJ p2 r_12 e_12) ⟨callB_of 1 hg (ld_gd k_132) rfl rfl rfl (hg _ k_23) (hg _ k_130) hd_isRef ⟨Nat.le_of_ble_eq_true rfl, Nat.le_of_ble_eq_true rfl⟩, hg _ k_131⟩ (ld_preR hP hK hN [] rfl) rfl rfl hl.1 rfl (lv_room (Nat.le_of_ble_eq_true rfl)) d_isDoing_83 ⟨Nat.zero_le _, Nat.zero_le _⟩) ?_
      refine lv_if_eq (tgt := 93) hx hb d_isDoing_86 (by decide) (fun c_13 => ?_) (fun c_13 => ?_)
      · have h := (if_pos c_13).symm.trans h
        refine lv_iconst (v := 0) hx hb d_isDoing_93 (by decide) ?_
        have h := Option.some.inj h
        exact W.zret (v := 0) hx hb hr rfl (fun t ht hW => ⟨_, rfl, h, ht⟩) (fun _ q => by cases q) d_isDoing_94
      · have h := (if_neg c_13).symm.trans h
        refine lv_iconst (v := 1) hx hb d_isDoing_89 (by decide) ?_
        refine lv_goto (tgt := 94) hx hb d_isDoing_90 (by decide) ?_
        have h := Option.some.inj h
        exact W.zret (v := 1) hx hb hr rfl (fun t ht hW => ⟨_, rfl, h, ht⟩) (fun _ q => by cases q) d_isDoing_94
  have h := (if_neg c_9).symm.trans h
  by_cases c_14 : p0 = 3
  · have h := (if_pos c_14).symm.trans h
    refine lv_tableIn (tgt := 95) hx hb d_isDoing_1 (by rw [c_14]; decide) (by rw [c_14]; decide) (by rw [c_14]; rfl) (by decide) ?_
    refine lv_iload_n hx hb d_isDoing_95 rfl (lv_at hl 1 rfl) ?_
    obtain ⟨r_15, e_15, h⟩ := ld_nm h
    refine ld_rd (W.runS (As := [.int p1]) (rest := []) ⟨hx, hb, hml, hown, hg⟩ (lc_isRef l D cI cZ cJ p1 r_15 e_15) ⟨callB_of 1 hg (ld_gd k_132) rfl rfl rfl (hg _ k_23) (hg _ k_130) hd_isRef ⟨Nat.le_of_ble_eq_true rfl, Nat.le_of_ble_eq_true rfl⟩, hg _ k_131⟩ (ld_preR hP hK hN [] rfl) rfl rfl hl.1 rfl (lv_room (Nat.le_of_ble_eq_true rfl)) d_isDoing_96 ⟨Nat.zero_le _, Nat.zero_le _⟩) ?_
    have h := Option.some.inj h
    exact W.zret (v := r_15) hx hb hr (lnb_isRef e_15) (fun t ht hW => ⟨_, rfl, h, ht⟩) (fun _ q => by cases q) d_isDoing_99
  have h := (if_neg c_14).symm.trans h
  by_cases c_16 : p0 = 4
  · have h := (if_pos c_16).symm.trans h
    refine lv_tableIn (tgt := 95) hx hb d_isDoing_1 (by rw [c_16]; decide) (by rw [c_16]; decide) (by rw [c_16]; rfl) (by decide) ?_
    refine lv_iload_n hx hb d_isDoing_95 rfl (lv_at hl 1 rfl) ?_
    obtain ⟨r_17, e_17, h⟩ := ld_nm h
    refine ld_rd (W.runS (As := [.int p1]) (rest := []) ⟨hx, hb, hml, hown, hg⟩ (lc_isRef l D cI cZ cJ p1 r_17 e_17) ⟨callB_of 1 hg (ld_gd k_132) rfl rfl rfl (hg _ k_23) (hg _ k_130) hd_isRef ⟨Nat.le_of_ble_eq_true rfl, Nat.le_of_ble_eq_true rfl⟩, hg _ k_131⟩ (ld_preR hP hK hN [] rfl) rfl rfl hl.1 rfl (lv_room (Nat.le_of_ble_eq_true rfl)) d_isDoing_96 ⟨Nat.zero_le _, Nat.zero_le _⟩) ?_
    have h := Option.some.inj h
    exact W.zret (v := r_17) hx hb hr (lnb_isRef e_17) (fun t ht hW => ⟨_, rfl, h, ht⟩) (fun _ q => by cases q) d_isDoing_99
  have h := (if_neg c_16).symm.trans h
  by_cases c_18 : p0 = 5
  · have h := (if_pos c_18).symm.trans h
    refine lv_tableIn (tgt := 100) hx hb d_isDoing_1 (by rw [c_18]; decide) (by rw [c_18]; decide) (by rw [c_18]; rfl) (by decide) ?_
    refine lv_iload_n hx hb d_isDoing_100 rfl (lv_at hl 2 rfl) ?_
    obtain ⟨r_19, e_19, h⟩ := ld_ob h
    refine ld_rd (W.runS (As := [.int p2]) (rest := []) ⟨hx, hb, hml, hown, hg⟩ (lc_isPlace l D cI cZ cJ p2 N r_19 e_19) ⟨callB_of 1 hg (ld_gd k_135) rfl rfl rfl (hg _ k_23) (hg _ k_133) hd_isPlace ⟨Nat.le_of_ble_eq_true rfl, Nat.le_of_ble_eq_true rfl⟩, hg _ k_134⟩ (ld_preR hP hK hN [] rfl) rfl rfl hl.1 rfl (lv_room (Nat.le_of_ble_eq_true rfl)) d_isDoing_101 ⟨Nat.zero_le _, Nat.zero_le _⟩) ?_
    have h := Option.some.inj h
    exact W.zret (v := r_19) hx hb hr (lnb_isPlace e_19) (fun t ht hW => ⟨_, rfl, h, ht⟩) (fun _ q => by cases q) d_isDoing_104
  have h := (if_neg c_18).symm.trans h
  by_cases c_20 : p0 = 6
  · have h := (if_pos c_20).symm.trans h
    refine lv_tableIn (tgt := 100) hx hb d_isDoing_1 (by rw [c_20]; decide) (by rw [c_20]; decide) (by rw [c_20]; rfl) (by decide) ?_
    refine lv_iload_n hx hb d_isDoing_100 rfl (lv_at hl 2 rfl) ?_
    obtain ⟨r_21, e_21, h⟩ := ld_ob h
    refine ld_rd (W.runS (As := [.int p2]) (rest := []) ⟨hx, hb, hml, hown, hg⟩ (lc_isPlace l D cI cZ cJ p2 N r_21 e_21) ⟨callB_of 1 hg (ld_gd k_135) rfl rfl rfl (hg _ k_23) (hg _ k_133) hd_isPlace ⟨Nat.le_of_ble_eq_true rfl, Nat.le_of_ble_eq_true rfl⟩, hg _ k_134⟩ (ld_preR hP hK hN [] rfl) rfl rfl hl.1 rfl (lv_room (Nat.le_of_ble_eq_true rfl)) d_isDoing_101 ⟨Nat.zero_le _, Nat.zero_le _⟩) ?_
    have h := Option.some.inj h
    exact W.zret (v := r_21) hx hb hr (lnb_isPlace e_21) (fun t ht hW => ⟨_, rfl, h, ht⟩) (fun _ q => by cases q) d_isDoing_104
  have h := (if_neg c_20).symm.trans h
  refine lv_tableOut (tgt := 105) hx hb d_isDoing_1 (by have e_c_1 := lv_neT c_1 (a := 0) (by decide); have e_c_2 := lv_neT c_2 (a := 1) (by decide); have e_c_9 := lv_neT c_9 (a := 2) (by decide); have e_c_14 := lv_neT c_14 (a := 3) (by decide); have e_c_16 := lv_neT c_16 (a := 4) (by decide); have e_c_18 := lv_neT c_18 (a := 5) (by decide); have e_c_20 := lv_neT c_20 (a := 6) (by decide); omega) (by decide) ?_
  refine lv_iconst (v := 0) hx hb d_isDoing_105 (by decide) ?_
  have h := Option.some.inj h
  exact W.zret (v := 0) hx hb hr rfl (fun t ht hW => ⟨_, rfl, h, ht⟩) (fun _ q => by cases q) d_isDoing_106
end
section
theorem d_gsize_0 : decode prog_2_method_2_code 0 = .ok (.aload_n 0, 1) := by decide +kernel
theorem d_gsize_1 : decode prog_2_method_2_code 1 = .ok (.getfield 30, 3) := by decide +kernel
theorem d_gsize_4 : decode prog_2_method_2_code 4 = .ok (.ireturn, 1) := by decide +kernel
theorem d_hasRoom_0 : decode prog_2_method_3_code 0 = .ok (.aload_n 0, 1) := by decide +kernel
theorem d_hasRoom_1 : decode prog_2_method_3_code 1 = .ok (.getfield 30, 3) := by decide +kernel
theorem d_hasRoom_4 : decode prog_2_method_3_code 4 = .ok (.bipush 120, 2) := by decide +kernel
theorem d_hasRoom_6 : decode prog_2_method_3_code 6 = .ok (.if_icmp .ge 7, 3) := by decide +kernel
theorem d_hasRoom_9 : decode prog_2_method_3_code 9 = .ok (.iconst 1, 1) := by decide +kernel
theorem d_hasRoom_10 : decode prog_2_method_3_code 10 = .ok (.goto 4, 3) := by decide +kernel
theorem d_hasRoom_13 : decode prog_2_method_3_code 13 = .ok (.iconst 0, 1) := by decide +kernel
theorem d_hasRoom_14 : decode prog_2_method_3_code 14 = .ok (.ireturn, 1) := by decide +kernel
theorem d_isPoint_0 : decode prog_2_method_4_code 0 = .ok (.iload_n 1, 1) := by decide +kernel
theorem d_isPoint_1 : decode prog_2_method_4_code 1 = .ok (.ifCond .lt 21, 3) := by decide +kernel
theorem d_isPoint_4 : decode prog_2_method_4_code 4 = .ok (.iload_n 1, 1) := by decide +kernel
theorem d_isPoint_5 : decode prog_2_method_4_code 5 = .ok (.aload_n 0, 1) := by decide +kernel
theorem d_isPoint_6 : decode prog_2_method_4_code 6 = .ok (.getfield 30, 3) := by decide +kernel
theorem d_isPoint_9 : decode prog_2_method_4_code 9 = .ok (.if_icmp .ge 13, 3) := by decide +kernel
theorem d_isPoint_12 : decode prog_2_method_4_code 12 = .ok (.iload_n 1, 1) := by decide +kernel
theorem d_isPoint_13 : decode prog_2_method_4_code 13 = .ok (.bipush 120, 2) := by decide +kernel
theorem d_isPoint_15 : decode prog_2_method_4_code 15 = .ok (.if_icmp .ge 7, 3) := by decide +kernel
theorem d_isPoint_18 : decode prog_2_method_4_code 18 = .ok (.iconst 1, 1) := by decide +kernel
theorem d_isPoint_19 : decode prog_2_method_4_code 19 = .ok (.goto 4, 3) := by decide +kernel
theorem d_isPoint_22 : decode prog_2_method_4_code 22 = .ok (.iconst 0, 1) := by decide +kernel
theorem d_isPoint_23 : decode prog_2_method_4_code 23 = .ok (.ireturn, 1) := by decide +kernel
theorem d_isLoan_0 : decode prog_2_method_5_code 0 = .ok (.aload_n 0, 1) := by decide +kernel
theorem d_isLoan_1 : decode prog_2_method_5_code 1 = .ok (.iload_n 1, 1) := by decide +kernel
theorem d_isLoan_2 : decode prog_2_method_5_code 2 = .ok (.invokevirtual 34, 3) := by decide +kernel
theorem d_isLoan_5 : decode prog_2_method_5_code 5 = .ok (.ifCond .eq 17, 3) := by decide +kernel
theorem d_isLoan_8 : decode prog_2_method_5_code 8 = .ok (.aload_n 0, 1) := by decide +kernel
theorem d_isLoan_9 : decode prog_2_method_5_code 9 = .ok (.getfield 9, 3) := by decide +kernel
theorem d_isLoan_12 : decode prog_2_method_5_code 12 = .ok (.iload_n 1, 1) := by decide +kernel
theorem d_isLoan_13 : decode prog_2_method_5_code 13 = .ok (.iaload, 1) := by decide +kernel
theorem d_isLoan_14 : decode prog_2_method_5_code 14 = .ok (.iconst 1, 1) := by decide +kernel
theorem d_isLoan_15 : decode prog_2_method_5_code 15 = .ok (.if_icmp .ne 7, 3) := by decide +kernel
theorem d_isLoan_18 : decode prog_2_method_5_code 18 = .ok (.iconst 1, 1) := by decide +kernel
theorem d_isLoan_19 : decode prog_2_method_5_code 19 = .ok (.goto 4, 3) := by decide +kernel
theorem d_isLoan_22 : decode prog_2_method_5_code 22 = .ok (.iconst 0, 1) := by decide +kernel
theorem d_isLoan_23 : decode prog_2_method_5_code 23 = .ok (.ireturn, 1) := by decide +kernel
theorem d_firstNext_0 : decode prog_2_method_10_code 0 = .ok (.aload_n 0, 1) := by decide +kernel
theorem d_firstNext_1 : decode prog_2_method_10_code 1 = .ok (.iload_n 1, 1) := by decide +kernel
theorem d_firstNext_2 : decode prog_2_method_10_code 2 = .ok (.invokevirtual 34, 3) := by decide +kernel
theorem d_firstNext_5 : decode prog_2_method_10_code 5 = .ok (.ifCond .eq 12, 3) := by decide +kernel
theorem d_firstNext_8 : decode prog_2_method_10_code 8 = .ok (.aload_n 0, 1) := by decide +kernel
theorem d_firstNext_9 : decode prog_2_method_10_code 9 = .ok (.getfield 24, 3) := by decide +kernel
theorem d_firstNext_12 : decode prog_2_method_10_code 12 = .ok (.iload_n 1, 1) := by decide +kernel
theorem d_firstNext_13 : decode prog_2_method_10_code 13 = .ok (.iaload, 1) := by decide +kernel
theorem d_firstNext_14 : decode prog_2_method_10_code 14 = .ok (.goto 4, 3) := by decide +kernel
theorem d_firstNext_17 : decode prog_2_method_10_code 17 = .ok (.iconst (-1), 1) := by decide +kernel
theorem d_firstNext_18 : decode prog_2_method_10_code 18 = .ok (.ireturn, 1) := by decide +kernel
theorem d_secondNext_0 : decode prog_2_method_11_code 0 = .ok (.aload_n 0, 1) := by decide +kernel
theorem d_secondNext_1 : decode prog_2_method_11_code 1 = .ok (.iload_n 1, 1) := by decide +kernel
theorem d_secondNext_2 : decode prog_2_method_11_code 2 = .ok (.invokevirtual 34, 3) := by decide +kernel
theorem d_secondNext_5 : decode prog_2_method_11_code 5 = .ok (.ifCond .eq 12, 3) := by decide +kernel
theorem d_secondNext_8 : decode prog_2_method_11_code 8 = .ok (.aload_n 0, 1) := by decide +kernel
theorem d_secondNext_9 : decode prog_2_method_11_code 9 = .ok (.getfield 27, 3) := by decide +kernel
theorem d_secondNext_12 : decode prog_2_method_11_code 12 = .ok (.iload_n 1, 1) := by decide +kernel
theorem d_secondNext_13 : decode prog_2_method_11_code 13 = .ok (.iaload, 1) := by decide +kernel
theorem d_secondNext_14 : decode prog_2_method_11_code 14 = .ok (.goto 4, 3) := by decide +kernel
theorem d_secondNext_17 : decode prog_2_method_11_code 17 = .ok (.iconst (-1), 1) := by decide +kernel
theorem d_secondNext_18 : decode prog_2_method_11_code 18 = .ok (.ireturn, 1) := by decide +kernel
theorem d_countLoans_0 : decode prog_2_method_6_code 0 = .ok (.iconst 0, 1) := by decide +kernel
theorem d_countLoans_1 : decode prog_2_method_6_code 1 = .ok (.istore_n 1, 1) := by decide +kernel
theorem d_countLoans_2 : decode prog_2_method_6_code 2 = .ok (.iconst 0, 1) := by decide +kernel
theorem d_countLoans_3 : decode prog_2_method_6_code 3 = .ok (.istore_n 2, 1) := by decide +kernel
theorem d_countLoans_4 : decode prog_2_method_6_code 4 = .ok (.iload_n 2, 1) := by decide +kernel
theorem d_countLoans_5 : decode prog_2_method_6_code 5 = .ok (.aload_n 0, 1) := by decide +kernel
theorem d_countLoans_6 : decode prog_2_method_6_code 6 = .ok (.getfield 30, 3) := by decide +kernel
theorem d_countLoans_9 : decode prog_2_method_6_code 9 = .ok (.if_icmp .ge 20, 3) := by decide +kernel
theorem d_countLoans_12 : decode prog_2_method_6_code 12 = .ok (.aload_n 0, 1) := by decide +kernel
theorem d_countLoans_13 : decode prog_2_method_6_code 13 = .ok (.iload_n 2, 1) := by decide +kernel
theorem d_countLoans_14 : decode prog_2_method_6_code 14 = .ok (.invokevirtual 38, 3) := by decide +kernel
theorem d_countLoans_17 : decode prog_2_method_6_code 17 = .ok (.ifCond .eq 6, 3) := by decide +kernel
theorem d_countLoans_20 : decode prog_2_method_6_code 20 = .ok (.iinc 1 1, 3) := by decide +kernel
theorem d_countLoans_23 : decode prog_2_method_6_code 23 = .ok (.iinc 2 1, 3) := by decide +kernel
theorem d_countLoans_26 : decode prog_2_method_6_code 26 = .ok (.goto (-22), 3) := by decide +kernel
theorem d_countLoans_29 : decode prog_2_method_6_code 29 = .ok (.iload_n 1, 1) := by decide +kernel
theorem d_countLoans_30 : decode prog_2_method_6_code 30 = .ok (.ireturn, 1) := by decide +kernel
theorem d_add_0 : decode prog_2_method_7_code 0 = .ok (.aload_n 0, 1) := by decide +kernel
theorem d_add_1 : decode prog_2_method_7_code 1 = .ok (.invokevirtual 41, 3) := by decide +kernel
theorem d_add_4 : decode prog_2_method_7_code 4 = .ok (.ifCond .ne 5, 3) := by decide +kernel
theorem d_add_7 : decode prog_2_method_7_code 7 = .ok (.iconst (-1), 1) := by decide +kernel
theorem d_add_8 : decode prog_2_method_7_code 8 = .ok (.ireturn, 1) := by decide +kernel
theorem d_add_9 : decode prog_2_method_7_code 9 = .ok (.aload_n 0, 1) := by decide +kernel
theorem d_add_10 : decode prog_2_method_7_code 10 = .ok (.getfield 30, 3) := by decide +kernel
theorem d_add_13 : decode prog_2_method_7_code 13 = .ok (.istore 5, 2) := by decide +kernel
theorem d_add_15 : decode prog_2_method_7_code 15 = .ok (.aload_n 0, 1) := by decide +kernel
theorem d_add_16 : decode prog_2_method_7_code 16 = .ok (.getfield 9, 3) := by decide +kernel
theorem d_add_19 : decode prog_2_method_7_code 19 = .ok (.iload 5, 2) := by decide +kernel
theorem d_add_21 : decode prog_2_method_7_code 21 = .ok (.iload_n 1, 1) := by decide +kernel
theorem d_add_22 : decode prog_2_method_7_code 22 = .ok (.iastore, 1) := by decide +kernel
theorem d_add_23 : decode prog_2_method_7_code 23 = .ok (.aload_n 0, 1) := by decide +kernel
theorem d_add_24 : decode prog_2_method_7_code 24 = .ok (.getfield 15, 3) := by decide +kernel
theorem d_add_27 : decode prog_2_method_7_code 27 = .ok (.iload 5, 2) := by decide +kernel
theorem d_add_29 : decode prog_2_method_7_code 29 = .ok (.iload_n 2, 1) := by decide +kernel
theorem d_add_30 : decode prog_2_method_7_code 30 = .ok (.iastore, 1) := by decide +kernel
theorem d_add_31 : decode prog_2_method_7_code 31 = .ok (.aload_n 0, 1) := by decide +kernel
theorem d_add_32 : decode prog_2_method_7_code 32 = .ok (.getfield 18, 3) := by decide +kernel
theorem d_add_35 : decode prog_2_method_7_code 35 = .ok (.iload 5, 2) := by decide +kernel
theorem d_add_37 : decode prog_2_method_7_code 37 = .ok (.iload_n 3, 1) := by decide +kernel
theorem d_add_38 : decode prog_2_method_7_code 38 = .ok (.iastore, 1) := by decide +kernel
theorem d_add_39 : decode prog_2_method_7_code 39 = .ok (.aload_n 0, 1) := by decide +kernel
theorem d_add_40 : decode prog_2_method_7_code 40 = .ok (.getfield 21, 3) := by decide +kernel
theorem d_add_43 : decode prog_2_method_7_code 43 = .ok (.iload 5, 2) := by decide +kernel
theorem d_add_45 : decode prog_2_method_7_code 45 = .ok (.iload 4, 2) := by decide +kernel
theorem d_add_47 : decode prog_2_method_7_code 47 = .ok (.iastore, 1) := by decide +kernel
theorem d_add_48 : decode prog_2_method_7_code 48 = .ok (.aload_n 0, 1) := by decide +kernel
theorem d_add_49 : decode prog_2_method_7_code 49 = .ok (.getfield 24, 3) := by decide +kernel
theorem d_add_52 : decode prog_2_method_7_code 52 = .ok (.iload 5, 2) := by decide +kernel
theorem d_add_54 : decode prog_2_method_7_code 54 = .ok (.iload 5, 2) := by decide +kernel
theorem d_add_56 : decode prog_2_method_7_code 56 = .ok (.iconst 1, 1) := by decide +kernel
theorem d_add_57 : decode prog_2_method_7_code 57 = .ok (.iadd, 1) := by decide +kernel
theorem d_add_58 : decode prog_2_method_7_code 58 = .ok (.iastore, 1) := by decide +kernel
theorem d_add_59 : decode prog_2_method_7_code 59 = .ok (.aload_n 0, 1) := by decide +kernel
theorem d_add_60 : decode prog_2_method_7_code 60 = .ok (.getfield 27, 3) := by decide +kernel
theorem d_add_63 : decode prog_2_method_7_code 63 = .ok (.iload 5, 2) := by decide +kernel
theorem d_add_65 : decode prog_2_method_7_code 65 = .ok (.iconst (-1), 1) := by decide +kernel
theorem d_add_66 : decode prog_2_method_7_code 66 = .ok (.iastore, 1) := by decide +kernel
theorem d_add_67 : decode prog_2_method_7_code 67 = .ok (.aload_n 0, 1) := by decide +kernel
theorem d_add_68 : decode prog_2_method_7_code 68 = .ok (.iload 5, 2) := by decide +kernel
theorem d_add_70 : decode prog_2_method_7_code 70 = .ok (.iconst 1, 1) := by decide +kernel
theorem d_add_71 : decode prog_2_method_7_code 71 = .ok (.iadd, 1) := by decide +kernel
theorem d_add_72 : decode prog_2_method_7_code 72 = .ok (.putfield 30, 3) := by decide +kernel
theorem d_add_75 : decode prog_2_method_7_code 75 = .ok (.iload 5, 2) := by decide +kernel
theorem d_add_77 : decode prog_2_method_7_code 77 = .ok (.ireturn, 1) := by decide +kernel
theorem d_tellNext_0 : decode prog_2_method_8_code 0 = .ok (.aload_n 0, 1) := by decide +kernel
theorem d_tellNext_1 : decode prog_2_method_8_code 1 = .ok (.iload_n 1, 1) := by decide +kernel
theorem d_tellNext_2 : decode prog_2_method_8_code 2 = .ok (.invokevirtual 34, 3) := by decide +kernel
theorem d_tellNext_5 : decode prog_2_method_8_code 5 = .ok (.ifCond .eq 17, 3) := by decide +kernel
theorem d_tellNext_8 : decode prog_2_method_8_code 8 = .ok (.aload_n 0, 1) := by decide +kernel
theorem d_tellNext_9 : decode prog_2_method_8_code 9 = .ok (.getfield 24, 3) := by decide +kernel
theorem d_tellNext_12 : decode prog_2_method_8_code 12 = .ok (.iload_n 1, 1) := by decide +kernel
theorem d_tellNext_13 : decode prog_2_method_8_code 13 = .ok (.iload_n 2, 1) := by decide +kernel
theorem d_tellNext_14 : decode prog_2_method_8_code 14 = .ok (.iastore, 1) := by decide +kernel
theorem d_tellNext_15 : decode prog_2_method_8_code 15 = .ok (.aload_n 0, 1) := by decide +kernel
theorem d_tellNext_16 : decode prog_2_method_8_code 16 = .ok (.getfield 27, 3) := by decide +kernel
theorem d_tellNext_19 : decode prog_2_method_8_code 19 = .ok (.iload_n 1, 1) := by decide +kernel
theorem d_tellNext_20 : decode prog_2_method_8_code 20 = .ok (.iload_n 3, 1) := by decide +kernel
theorem d_tellNext_21 : decode prog_2_method_8_code 21 = .ok (.iastore, 1) := by decide +kernel
theorem d_tellNext_22 : decode prog_2_method_8_code 22 = .ok (.return_, 1) := by decide +kernel
theorem d_gempty_0 : decode prog_2_method_9_code 0 = .ok (.aload_n 0, 1) := by decide +kernel
theorem d_gempty_1 : decode prog_2_method_9_code 1 = .ok (.iconst 0, 1) := by decide +kernel
theorem d_gempty_2 : decode prog_2_method_9_code 2 = .ok (.putfield 30, 3) := by decide +kernel
theorem d_gempty_5 : decode prog_2_method_9_code 5 = .ok (.return_, 1) := by decide +kernel
end
section
def lf_gsize (G : ld_gT) : Int32 := G.2.2.2.2.2.2
set_option maxHeartbeats 4000000 in
set_option maxRecDepth 100000 in
theorem lc_gsize (l : Launch) (D : va_G) (cI cZ cJ : ClassId) (a : Nat → Nat) (G : ld_gT) (R : Int32) (h : lf_gsize G = R) : Met l y_gsize (Cond.code y_gsize prog_2_method_2_code 1 (some .int) :: bgT) ({ frames := 0, cells := 0, slots := 0, locals := 0 }) (ld_PR D cI cZ cJ (ld_gW a cI G) [.ref (a 1)]) (vp_Si (fun z => z = R)) 0 0 (fun _ => False) := by
  refine Met.ofW (cc := prog_2_method_2_code) (maxL := 1) (ret := (some .int)) (by decide) rfl ?_
  intro p e s m args below meth c s₁ B hml hv
  obtain ⟨rfl, hP, hK, hN⟩ := hv
  have hx := B.exec
  have hb := B.bytes
  have hr := B.returns
  have hg : ∀ w ∈ bgT, w.before _ s = true := fun w h => atoms_spec (ws := (Cond.code y_gsize prog_2_method_2_code 1 (some .int) :: bgT)) B.pre w (List.mem_cons_of_mem _ h)
  have hown : s.vm.findClass "LoanDesk$Graph" = some m.cls := findClass_of_methodNamed B.named
  have hlocks := B.notSynchronized
  have hl := lv_entry ([.ref (a 1)]) (n := 1) (Nat.le_of_ble_eq_true rfl)
  rw [lg_entry_eq]
  generalize (lg_sl ([.ref (a 1)]) ++ List.replicate (1 - (lg_sl ([.ref (a 1)])).length) Slot.unset).toArray = ls at hl ⊢
  have hl : lv_has ls 1 [(0, .ref (a 1))] := hl
  refine lv_aload_n hx hb d_gsize_0 rfl (lv_at hl 0 rfl) ?_
  refine va_get (D := D) (ci := 0) (v := .int G.2.2.2.2.2.2) (C := "LoanDesk$Graph") (T := T_Graph) (N := 7) hx hb hg u_Graph hown hK hP 0 rfl rfl 6 (by decide) (hg _ k_52) (fun _ h9 => h9) rfl d_gsize_1 ?_
  exact W.iret (v := G.2.2.2.2.2.2) hx hb hr (fun t ht hW => ⟨_, rfl, h, ht⟩) (fun _ q => by cases q) d_gsize_4
def lf_hasRoom (G : ld_gT) : Int32 := if 120 ≤ G.2.2.2.2.2.2 then 0 else 1
set_option maxHeartbeats 4000000 in
set_option maxRecDepth 100000 in
theorem lc_hasRoom (l : Launch) (D : va_G) (cI cZ cJ : ClassId) (a : Nat → Nat) (G : ld_gT) (R : Int32) (h : lf_hasRoom G = R) : Met l y_hasRoom (Cond.code y_hasRoom prog_2_method_3_code 1 (some .boolean) :: bgT) ({ frames := 0, cells := 0, slots := 0, locals := 0 }) (ld_PR D cI cZ cJ (ld_gW a cI G) [.ref (a 1)]) (vp_Si (fun z => z = R)) 0 0 (fun _ => False) := by
  refine Met.ofW (cc := prog_2_method_3_code) (maxL := 1) (ret := (some .boolean)) (by decide) rfl ?_
  intro p e s m args below meth c s₁ B hml hv
  obtain ⟨rfl, hP, hK, hN⟩ := hv
  have hx := B.exec
  have hb := B.bytes
  have hr := B.returns
  have hg : ∀ w ∈ bgT, w.before _ s = true := fun w h => atoms_spec (ws := (Cond.code y_hasRoom prog_2_method_3_code 1 (some .boolean) :: bgT)) B.pre w (List.mem_cons_of_mem _ h)
  have hown : s.vm.findClass "LoanDesk$Graph" = some m.cls := findClass_of_methodNamed B.named
  have hlocks := B.notSynchronized
  have hl := lv_entry ([.ref (a 1)]) (n := 1) (Nat.le_of_ble_eq_true rfl)
  rw [lg_entry_eq]
  generalize (lg_sl ([.ref (a 1)]) ++ List.replicate (1 - (lg_sl ([.ref (a 1)])).length) Slot.unset).toArray = ls at hl ⊢
  have hl : lv_has ls 1 [(0, .ref (a 1))] := hl
  refine lv_aload_n hx hb d_hasRoom_0 rfl (lv_at hl 0 rfl) ?_
  refine va_get (D := D) (ci := 0) (v := .int G.2.2.2.2.2.2) (C := "LoanDesk$Graph") (T := T_Graph) (N := 7) hx hb hg u_Graph hown hK hP 0 rfl rfl 6 (by decide) (hg _ k_52) (fun _ h9 => h9) rfl d_hasRoom_1 ?_
  refine lv_bipush (v := 120) hx hb d_hasRoom_4 (by decide) ?_
  refine lv_icmp_ge (tgt := 13) hx hb d_hasRoom_6 (by decide) (fun c_1 => ?_) (fun c_1 => ?_)
  · have h := (if_pos c_1).symm.trans h
    refine lv_iconst (v := 0) hx hb d_hasRoom_13 (by decide) ?_
    exact W.zret (v := 0) hx hb hr rfl (fun t ht hW => ⟨_, rfl, h, ht⟩) (fun _ q => by cases q) d_hasRoom_14
  · have h := (if_neg c_1).symm.trans h
    refine lv_iconst (v := 1) hx hb d_hasRoom_9 (by decide) ?_
    refine lv_goto (tgt := 14) hx hb d_hasRoom_10 (by decide) ?_
    exact W.zret (v := 1) hx hb hr rfl (fun t ht hW => ⟨_, rfl, h, ht⟩) (fun _ q => by cases q) d_hasRoom_14
def lf_isPoint (G : ld_gT) (p0 : Int32) : Int32 := if p0 < 0 then 0 else if G.2.2.2.2.2.2 ≤ p0 then 0 else if 120 ≤ p0 then 0 else 1
set_option maxHeartbeats 4000000 in
set_option maxRecDepth 100000 in
theorem lc_isPoint (l : Launch) (D : va_G) (cI cZ cJ : ClassId) (a : Nat → Nat) (G : ld_gT) (p0 : Int32) (R : Int32) (h : lf_isPoint G p0 = R) : Met l y_isPoint (Cond.code y_isPoint prog_2_method_4_code 2 (some .boolean) :: bgT) ({ frames := 0, cells := 0, slots := 0, locals := 0 }) (ld_PR D cI cZ cJ (ld_gW a cI G) [.ref (a 1), .int p0]) (vp_Si (fun z => z = R)) 0 0 (fun _ => False) := by
  refine Met.ofW (cc := prog_2_method_4_code) (maxL := 2) (ret := (some .boolean)) (by decide) rfl ?_
  intro p e s m args below meth c s₁ B hml hv
  obtain ⟨rfl, hP, hK, hN⟩ := hv
  have hx := B.exec
  have hb := B.bytes
  have hr := B.returns
  have hg : ∀ w ∈ bgT, w.before _ s = true := fun w h => atoms_spec (ws := (Cond.code y_isPoint prog_2_method_4_code 2 (some .boolean) :: bgT)) B.pre w (List.mem_cons_of_mem _ h)
  have hown : s.vm.findClass "LoanDesk$Graph" = some m.cls := findClass_of_methodNamed B.named
  have hlocks := B.notSynchronized
  have hl := lv_entry ([.ref (a 1), .int p0]) (n := 2) (Nat.le_of_ble_eq_true rfl)
  rw [lg_entry_eq]
  generalize (lg_sl ([.ref (a 1), .int p0]) ++ List.replicate (2 - (lg_sl ([.ref (a 1), .int p0])).length) Slot.unset).toArray = ls at hl ⊢
  have hl : lv_has ls 2 [(0, .ref (a 1)), (1, .int p0)] := hl
  refine lv_iload_n hx hb d_isPoint_0 rfl (lv_at hl 1 rfl) ?_
  refine lv_if_lt (tgt := 22) hx hb d_isPoint_1 (by decide) (fun c_1 => ?_) (fun c_1 => ?_)
  · have h := (if_pos c_1).symm.trans h
    refine lv_iconst (v := 0) hx hb d_isPoint_22 (by decide) ?_
    exact W.zret (v := 0) hx hb hr rfl (fun t ht hW => ⟨_, rfl, h, ht⟩) (fun _ q => by cases q) d_isPoint_23
  · have h := (if_neg c_1).symm.trans h
    refine lv_iload_n hx hb d_isPoint_4 rfl (lv_at hl 1 rfl) ?_
    refine lv_aload_n hx hb d_isPoint_5 rfl (lv_at hl 0 rfl) ?_
    refine va_get (D := D) (ci := 0) (v := .int G.2.2.2.2.2.2) (C := "LoanDesk$Graph") (T := T_Graph) (N := 7) hx hb hg u_Graph hown hK hP 0 rfl rfl 6 (by decide) (hg _ k_52) (fun _ h9 => h9) rfl d_isPoint_6 ?_
    refine lv_icmp_ge (tgt := 22) hx hb d_isPoint_9 (by decide) (fun c_2 => ?_) (fun c_2 => ?_)
    · have h := (if_pos c_2).symm.trans h
      refine lv_iconst (v := 0) hx hb d_isPoint_22 (by decide) ?_
      exact W.zret (v := 0) hx hb hr rfl (fun t ht hW => ⟨_, rfl, h, ht⟩) (fun _ q => by cases q) d_isPoint_23
    · have h := (if_neg c_2).symm.trans h
      refine lv_iload_n hx hb d_isPoint_12 rfl (lv_at hl 1 rfl) ?_
      refine lv_bipush (v := 120) hx hb d_isPoint_13 (by decide) ?_
      refine lv_icmp_ge (tgt := 22) hx hb d_isPoint_15 (by decide) (fun c_3 => ?_) (fun c_3 => ?_)
      · have h := (if_pos c_3).symm.trans h
        refine lv_iconst (v := 0) hx hb d_isPoint_22 (by decide) ?_
        exact W.zret (v := 0) hx hb hr rfl (fun t ht hW => ⟨_, rfl, h, ht⟩) (fun _ q => by cases q) d_isPoint_23
      · have h := (if_neg c_3).symm.trans h
        refine lv_iconst (v := 1) hx hb d_isPoint_18 (by decide) ?_
        refine lv_goto (tgt := 23) hx hb d_isPoint_19 (by decide) ?_
        exact W.zret (v := 1) hx hb hr rfl (fun t ht hW => ⟨_, rfl, h, ht⟩) (fun _ q => by cases q) d_isPoint_23
theorem ld_pt {G : ld_gT} {x r : Int32} (h : lf_isPoint G x = r) (c : ¬ r = 0) : vp_in x 120 := by
  unfold lf_isPoint at h
  by_cases h1 : x < 0
  · rw [if_pos h1] at h
    exact absurd h.symm c
  · rw [if_neg h1] at h
    by_cases h2 : G.2.2.2.2.2.2 ≤ x
    · rw [if_pos h2] at h
      exact absurd h.symm c
    · rw [if_neg h2] at h
      by_cases h3 : 120 ≤ x
      · rw [if_pos h3] at h
        exact absurd h.symm c
      · exact ld_rg h1 h3
def lf_isLoan (G : ld_gT) (p0 : Int32) : Int32 := ld_lt (lf_isPoint G p0) (fun r_1 => if r_1 = 0 then 0 else if (G.1 p0.toNatClampNeg) = 1 then 1 else 0)
set_option maxHeartbeats 4000000 in
set_option maxRecDepth 100000 in
theorem lc_isLoan (l : Launch) (D : va_G) (cI cZ cJ : ClassId) (a : Nat → Nat) (G : ld_gT) (p0 : Int32) (R : Int32) (h : lf_isLoan G p0 = R) : Met l y_isLoan (Cond.code y_isLoan prog_2_method_5_code 2 (some .boolean) :: bgT) ({ frames := 1, cells := 0, slots := 0, locals := 21 }) (ld_PR D cI cZ cJ (ld_gW a cI G) [.ref (a 1), .int p0]) (vp_Si (fun z => z = R)) 0 0 (fun _ => False) := by
  refine Met.ofW (cc := prog_2_method_5_code) (maxL := 2) (ret := (some .boolean)) (by decide) rfl ?_
  intro p e s m args below meth c s₁ B hml hv
  obtain ⟨rfl, hP, hK, hN⟩ := hv
  have hx := B.exec
  have hb := B.bytes
  have hr := B.returns
  have hg : ∀ w ∈ bgT, w.before _ s = true := fun w h => atoms_spec (ws := (Cond.code y_isLoan prog_2_method_5_code 2 (some .boolean) :: bgT)) B.pre w (List.mem_cons_of_mem _ h)
  have hown : s.vm.findClass "LoanDesk$Graph" = some m.cls := findClass_of_methodNamed B.named
  have hlocks := B.notSynchronized
  have hl := lv_entry ([.ref (a 1), .int p0]) (n := 2) (Nat.le_of_ble_eq_true rfl)
  rw [lg_entry_eq]
  generalize (lg_sl ([.ref (a 1), .int p0]) ++ List.replicate (2 - (lg_sl ([.ref (a 1), .int p0])).length) Slot.unset).toArray = ls at hl ⊢
  have hl : lv_has ls 2 [(0, .ref (a 1)), (1, .int p0)] := hl
  refine lv_aload_n hx hb d_isLoan_0 rfl (lv_at hl 0 rfl) ?_
  refine lv_iload_n hx hb d_isLoan_1 rfl (lv_at hl 1 rfl) ?_
  obtain ⟨r_1, e_1, h⟩ := ld_nm h
  refine ld_rd (W.runV (As := [.int p0]) (rest := []) ⟨hx, hb, hml, hown, hg⟩ (lc_isPoint l D cI cZ cJ a G p0 r_1 e_1) ⟨callB_of 1 hg (ld_gd k_155) rfl rfl rfl (hg _ k_24) (hg _ k_166) hd_isPoint ⟨Nat.le_of_ble_eq_true rfl, Nat.le_of_ble_eq_true rfl⟩, hg _ k_153, hg _ k_154⟩ (ld_preRV hP hK hN [0, 1, 2, 3, 4, 5, 6] rfl 0 0 rfl rfl) rfl rfl hl.1 rfl (lv_room (Nat.le_of_ble_eq_true rfl)) d_isLoan_2 ⟨Nat.zero_le _, Nat.zero_le _⟩) ?_
  refine lv_if_eq (tgt := 22) hx hb d_isLoan_5 (by decide) (fun c_2 => ?_) (fun c_2 => ?_)
  · have h := (if_pos c_2).symm.trans h
    refine lv_iconst (v := 0) hx hb d_isLoan_22 (by decide) ?_
    exact W.zret (v := 0) hx hb hr rfl (fun t ht hW => ⟨_, rfl, h, ht⟩) (fun _ q => by cases q) d_isLoan_23
  · have h := (if_neg c_2).symm.trans h
    refine lv_aload_n hx hb d_isLoan_8 rfl (lv_at hl 0 rfl) ?_
    refine va_get (D := D) (ci := 0) (v := .ref (a 2)) (C := "LoanDesk$Graph") (T := T_Graph) (N := 7) hx hb hg u_Graph hown hK hP 0 rfl rfl 0 (by decide) (hg _ k_46) (fun _ h9 => h9) rfl d_isLoan_9 ?_
    refine lv_iload_n hx hb d_isLoan_12 rfl (lv_at hl 1 rfl) ?_
    refine va_iald hx hb hK hP 1 0 rfl rfl (i := p0) (ld_pt e_1 c_2) d_isLoan_13 ?_
    refine lv_iconst (v := 1) hx hb d_isLoan_14 (by decide) ?_
    refine lv_icmp_ne (tgt := 22) hx hb d_isLoan_15 (by decide) (fun c_3 => ?_) (fun c_3 => ?_)
    · have h := (if_neg c_3).symm.trans h
      refine lv_iconst (v := 0) hx hb d_isLoan_22 (by decide) ?_
      exact W.zret (v := 0) hx hb hr rfl (fun t ht hW => ⟨_, rfl, h, ht⟩) (fun _ q => by cases q) d_isLoan_23
    · have h := (if_pos c_3).symm.trans h
      refine lv_iconst (v := 1) hx hb d_isLoan_18 (by decide) ?_
      refine lv_goto (tgt := 23) hx hb d_isLoan_19 (by decide) ?_
      exact W.zret (v := 1) hx hb hr rfl (fun t ht hW => ⟨_, rfl, h, ht⟩) (fun _ q => by cases q) d_isLoan_23
theorem ld_ln {G : ld_gT} {x r : Int32} (h : lf_isLoan G x = r) (c : ¬ r = 0) : vp_in x 120 := by
  obtain ⟨z, e, h⟩ := ld_nm h
  by_cases h1 : z = 0
  · have h := (if_pos h1).symm.trans h
    exact absurd h.symm c
  · exact ld_pt e h1
def lf_firstNext (G : ld_gT) (p0 : Int32) : Int32 := ld_lt (lf_isPoint G p0) (fun r_1 => if r_1 = 0 then (-1) else G.2.2.2.2.1 p0.toNatClampNeg)
set_option maxHeartbeats 4000000 in
set_option maxRecDepth 100000 in
theorem lc_firstNext (l : Launch) (D : va_G) (cI cZ cJ : ClassId) (a : Nat → Nat) (G : ld_gT) (p0 : Int32) (R : Int32) (h : lf_firstNext G p0 = R) : Met l y_firstNext (Cond.code y_firstNext prog_2_method_10_code 2 (some .int) :: bgT) ({ frames := 1, cells := 0, slots := 0, locals := 21 }) (ld_PR D cI cZ cJ (ld_gW a cI G) [.ref (a 1), .int p0]) (vp_Si (fun z => z = R)) 0 0 (fun _ => False) := by
  refine Met.ofW (cc := prog_2_method_10_code) (maxL := 2) (ret := (some .int)) (by decide) rfl ?_
  intro p e s m args below meth c s₁ B hml hv
  obtain ⟨rfl, hP, hK, hN⟩ := hv
  have hx := B.exec
  have hb := B.bytes
  have hr := B.returns
  have hg : ∀ w ∈ bgT, w.before _ s = true := fun w h => atoms_spec (ws := (Cond.code y_firstNext prog_2_method_10_code 2 (some .int) :: bgT)) B.pre w (List.mem_cons_of_mem _ h)
  have hown : s.vm.findClass "LoanDesk$Graph" = some m.cls := findClass_of_methodNamed B.named
  have hlocks := B.notSynchronized
  have hl := lv_entry ([.ref (a 1), .int p0]) (n := 2) (Nat.le_of_ble_eq_true rfl)
  rw [lg_entry_eq]
  generalize (lg_sl ([.ref (a 1), .int p0]) ++ List.replicate (2 - (lg_sl ([.ref (a 1), .int p0])).length) Slot.unset).toArray = ls at hl ⊢
  have hl : lv_has ls 2 [(0, .ref (a 1)), (1, .int p0)] := hl
  refine lv_aload_n hx hb d_firstNext_0 rfl (lv_at hl 0 rfl) ?_
  refine lv_iload_n hx hb d_firstNext_1 rfl (lv_at hl 1 rfl) ?_
  obtain ⟨r_1, e_1, h⟩ := ld_nm h
  refine ld_rd (W.runV (As := [.int p0]) (rest := []) ⟨hx, hb, hml, hown, hg⟩ (lc_isPoint l D cI cZ cJ a G p0 r_1 e_1) ⟨callB_of 1 hg (ld_gd k_155) rfl rfl rfl (hg _ k_24) (hg _ k_166) hd_isPoint ⟨Nat.le_of_ble_eq_true rfl, Nat.le_of_ble_eq_true rfl⟩, hg _ k_153, hg _ k_154⟩ (ld_preRV hP hK hN [0, 1, 2, 3, 4, 5, 6] rfl 0 0 rfl rfl) rfl rfl hl.1 rfl (lv_room (Nat.le_of_ble_eq_true rfl)) d_firstNext_2 ⟨Nat.zero_le _, Nat.zero_le _⟩) ?_
  refine lv_if_eq (tgt := 17) hx hb d_firstNext_5 (by decide) (fun c_2 => ?_) (fun c_2 => ?_)
  · have h := (if_pos c_2).symm.trans h
    refine lv_iconst (v := (-1)) hx hb d_firstNext_17 (by decide) ?_
    exact W.iret (v := (-1)) hx hb hr (fun t ht hW => ⟨_, rfl, h, ht⟩) (fun _ q => by cases q) d_firstNext_18
  · have h := (if_neg c_2).symm.trans h
    refine lv_aload_n hx hb d_firstNext_8 rfl (lv_at hl 0 rfl) ?_
    refine va_get (D := D) (ci := 0) (v := .ref (a 6)) (C := "LoanDesk$Graph") (T := T_Graph) (N := 7) hx hb hg u_Graph hown hK hP 0 rfl rfl 4 (by decide) (hg _ k_50) (fun _ h9 => h9) rfl d_firstNext_9 ?_
    refine lv_iload_n hx hb d_firstNext_12 rfl (lv_at hl 1 rfl) ?_
    refine va_iald hx hb hK hP 5 0 rfl rfl (i := p0) (ld_pt e_1 c_2) d_firstNext_13 ?_
    refine lv_goto (tgt := 18) hx hb d_firstNext_14 (by decide) ?_
    exact W.iret (v := G.2.2.2.2.1 p0.toNatClampNeg) hx hb hr (fun t ht hW => ⟨_, rfl, h, ht⟩) (fun _ q => by cases q) d_firstNext_18
def lf_secondNext (G : ld_gT) (p0 : Int32) : Int32 := ld_lt (lf_isPoint G p0) (fun r_1 => if r_1 = 0 then (-1) else G.2.2.2.2.2.1 p0.toNatClampNeg)
set_option maxHeartbeats 4000000 in
set_option maxRecDepth 100000 in
theorem lc_secondNext (l : Launch) (D : va_G) (cI cZ cJ : ClassId) (a : Nat → Nat) (G : ld_gT) (p0 : Int32) (R : Int32) (h : lf_secondNext G p0 = R) : Met l y_secondNext (Cond.code y_secondNext prog_2_method_11_code 2 (some .int) :: bgT) ({ frames := 1, cells := 0, slots := 0, locals := 21 }) (ld_PR D cI cZ cJ (ld_gW a cI G) [.ref (a 1), .int p0]) (vp_Si (fun z => z = R)) 0 0 (fun _ => False) := by
  refine Met.ofW (cc := prog_2_method_11_code) (maxL := 2) (ret := (some .int)) (by decide) rfl ?_
  intro p e s m args below meth c s₁ B hml hv
  obtain ⟨rfl, hP, hK, hN⟩ := hv
  have hx := B.exec
  have hb := B.bytes
  have hr := B.returns
  have hg : ∀ w ∈ bgT, w.before _ s = true := fun w h => atoms_spec (ws := (Cond.code y_secondNext prog_2_method_11_code 2 (some .int) :: bgT)) B.pre w (List.mem_cons_of_mem _ h)
  have hown : s.vm.findClass "LoanDesk$Graph" = some m.cls := findClass_of_methodNamed B.named
  have hlocks := B.notSynchronized
  have hl := lv_entry ([.ref (a 1), .int p0]) (n := 2) (Nat.le_of_ble_eq_true rfl)
  rw [lg_entry_eq]
  generalize (lg_sl ([.ref (a 1), .int p0]) ++ List.replicate (2 - (lg_sl ([.ref (a 1), .int p0])).length) Slot.unset).toArray = ls at hl ⊢
  have hl : lv_has ls 2 [(0, .ref (a 1)), (1, .int p0)] := hl
  refine lv_aload_n hx hb d_secondNext_0 rfl (lv_at hl 0 rfl) ?_
  refine lv_iload_n hx hb d_secondNext_1 rfl (lv_at hl 1 rfl) ?_
  obtain ⟨r_1, e_1, h⟩ := ld_nm h
  refine ld_rd (W.runV (As := [.int p0]) (rest := []) ⟨hx, hb, hml, hown, hg⟩ (lc_isPoint l D cI cZ cJ a G p0 r_1 e_1) ⟨callB_of 1 hg (ld_gd k_155) rfl rfl rfl (hg _ k_24) (hg _ k_166) hd_isPoint ⟨Nat.le_of_ble_eq_true rfl, Nat.le_of_ble_eq_true rfl⟩, hg _ k_153, hg _ k_154⟩ (ld_preRV hP hK hN [0, 1, 2, 3, 4, 5, 6] rfl 0 0 rfl rfl) rfl rfl hl.1 rfl (lv_room (Nat.le_of_ble_eq_true rfl)) d_secondNext_2 ⟨Nat.zero_le _, Nat.zero_le _⟩) ?_
  refine lv_if_eq (tgt := 17) hx hb d_secondNext_5 (by decide) (fun c_2 => ?_) (fun c_2 => ?_)
  · have h := (if_pos c_2).symm.trans h
    refine lv_iconst (v := (-1)) hx hb d_secondNext_17 (by decide) ?_
    exact W.iret (v := (-1)) hx hb hr (fun t ht hW => ⟨_, rfl, h, ht⟩) (fun _ q => by cases q) d_secondNext_18
  · have h := (if_neg c_2).symm.trans h
    refine lv_aload_n hx hb d_secondNext_8 rfl (lv_at hl 0 rfl) ?_
    refine va_get (D := D) (ci := 0) (v := .ref (a 7)) (C := "LoanDesk$Graph") (T := T_Graph) (N := 7) hx hb hg u_Graph hown hK hP 0 rfl rfl 5 (by decide) (hg _ k_51) (fun _ h9 => h9) rfl d_secondNext_9 ?_
    refine lv_iload_n hx hb d_secondNext_12 rfl (lv_at hl 1 rfl) ?_
    refine va_iald hx hb hK hP 6 0 rfl rfl (i := p0) (ld_pt e_1 c_2) d_secondNext_13 ?_
    refine lv_goto (tgt := 18) hx hb d_secondNext_14 (by decide) ?_
    exact W.iret (v := G.2.2.2.2.2.1 p0.toNatClampNeg) hx hb hr (fun t ht hW => ⟨_, rfl, h, ht⟩) (fun _ q => by cases q) d_secondNext_18
def ls_countLoans_1 (G : ld_gT) (v1 : Int32 × Int32) : Option ((Int32 × Int32) ⊕ (Int32 × Int32)) := if G.2.2.2.2.2.2 ≤ v1.2 then some (.inr (v1.1, v1.2)) else ld_lt (lf_isLoan G v1.2) (fun r_2 => if r_2 = 0 then some (.inl (v1.1, v1.2 + 1)) else some (.inl (v1.1 + 1, v1.2 + 1)))
def lm_countLoans (N : Nat) (G : ld_gT) : Option (Int32) := Option.bind (ld_it (ls_countLoans_1 G) N (0, 0)) (fun Y1 => some Y1.1)
set_option maxHeartbeats 4000000 in
set_option maxRecDepth 100000 in
theorem lc_countLoans (l : Launch) (D : va_G) (cI cZ cJ : ClassId) (a : Nat → Nat) (G : ld_gT) (N : Nat) (R : Int32) (h : lm_countLoans N G = some R) : Met l y_countLoans (Cond.code y_countLoans prog_2_method_6_code 3 (some .int) :: bgT) ({ frames := 2, cells := 0, slots := 0, locals := 42 }) (ld_PR D cI cZ cJ (ld_gW a cI G) [.ref (a 1)]) (vp_Si (fun z => z = R)) 0 0 (fun _ => False) := by
  refine Met.ofW (cc := prog_2_method_6_code) (maxL := 3) (ret := (some .int)) (by decide) rfl ?_
  intro p e s m args below meth c s₁ B hml hv
  obtain ⟨rfl, hP, hK, hN⟩ := hv
  have hx := B.exec
  have hb := B.bytes
  have hr := B.returns
  have hg : ∀ w ∈ bgT, w.before _ s = true := fun w h => atoms_spec (ws := (Cond.code y_countLoans prog_2_method_6_code 3 (some .int) :: bgT)) B.pre w (List.mem_cons_of_mem _ h)
  have hown : s.vm.findClass "LoanDesk$Graph" = some m.cls := findClass_of_methodNamed B.named
  have hlocks := B.notSynchronized
  have hl := lv_entry ([.ref (a 1)]) (n := 3) (Nat.le_of_ble_eq_true rfl)
  rw [lg_entry_eq]
  generalize (lg_sl ([.ref (a 1)]) ++ List.replicate (3 - (lg_sl ([.ref (a 1)])).length) Slot.unset).toArray = ls at hl ⊢
  have hl : lv_has ls 3 [(0, .ref (a 1))] := hl
  refine lv_iconst (v := 0) hx hb d_countLoans_0 (by decide) ?_
  refine lv_istore_n (lv' := [(1, .int 0), (0, .ref (a 1))]) hx hb d_countLoans_1 rfl hl (by decide) rfl (fun ls hl => ?_)
  refine lv_iconst (v := 0) hx hb d_countLoans_2 (by decide) ?_
  refine lv_istore_n (lv' := [(2, .int 0), (1, .int 0), (0, .ref (a 1))]) hx hb d_countLoans_3 rfl hl (by decide) rfl (fun ls hl => ?_)
  obtain ⟨Y1, eY1, h⟩ := ld_ob h
  have kont1 : ∀ (ls : Array Slot), lv_has ls 3 [(1, .int Y1.1)] → W p l e (headSpec (Cond.code y_countLoans prog_2_method_6_code 3 (some .int) :: bgT) ({ frames := 2, cells := 0, slots := 0, locals := 42 })).room s m ([.ref (a 1)] : List Value).toArray below meth c s.heap [] 0 0 (MQ below (vp_Si (fun z => z = R)) ([.ref (a 1)] : List Value).toArray s 0 0 (fun _ => False)) (F0 m 29 ls []) := by
    intro ls hl
    refine lv_iload_n hx hb d_countLoans_29 rfl (lv_at hl 0 rfl) ?_
    have h := Option.some.inj h
    exact W.iret (v := Y1.1) hx hb hr (fun t ht hW => ⟨_, rfl, h, ht⟩) (fun _ q => by cases q) d_countLoans_30
  have key1 : ∀ (n : Nat) (v1 : Int32 × Int32) (ls : Array Slot), ld_it (ls_countLoans_1 G) n v1 = some Y1 → lv_has ls 3 [(0, .ref (a 1)), (1, .int v1.1), (2, .int v1.2)] → W p l e (headSpec (Cond.code y_countLoans prog_2_method_6_code 3 (some .int) :: bgT) ({ frames := 2, cells := 0, slots := 0, locals := 42 })).room s m ([.ref (a 1)] : List Value).toArray below meth c s.heap [] 0 0 (MQ below (vp_Si (fun z => z = R)) ([.ref (a 1)] : List Value).toArray s 0 0 (fun _ => False)) (F0 m 4 ls []) := by
    intro n
    induction n with
    | zero => intro v1 ls g1 hl; cases g1
    | succ n ih1 =>
      intro v1 ls g1 hl
      obtain ⟨z1, hy1, g1⟩ := ld_its g1
      refine lv_iload_n hx hb d_countLoans_4 rfl (lv_at hl 2 rfl) ?_
      refine lv_aload_n hx hb d_countLoans_5 rfl (lv_at hl 0 rfl) ?_
      refine va_get (D := D) (ci := 0) (v := .int G.2.2.2.2.2.2) (C := "LoanDesk$Graph") (T := T_Graph) (N := 7) hx hb hg u_Graph hown hK hP 0 rfl rfl 6 (by decide) (hg _ k_52) (fun _ h9 => h9) rfl d_countLoans_6 ?_
      refine lv_icmp_ge (tgt := 29) hx hb d_countLoans_9 (by decide) (fun c_1 => ?_) (fun c_1 => ?_)
      · have hy1 := (if_pos c_1).symm.trans hy1
        obtain rfl := Option.some.inj hy1
        obtain rfl := Option.some.inj g1
        exact kont1 _ (lv_sub hl [1] rfl)
      · have hy1 := (if_neg c_1).symm.trans hy1
        refine lv_aload_n hx hb d_countLoans_12 rfl (lv_at hl 0 rfl) ?_
        refine lv_iload_n hx hb d_countLoans_13 rfl (lv_at hl 2 rfl) ?_
        obtain ⟨r_2, e_2, hy1⟩ := ld_nm hy1
        refine ld_rd (W.runV (As := [.int v1.2]) (rest := []) ⟨hx, hb, hml, hown, hg⟩ (lc_isLoan l D cI cZ cJ a G v1.2 r_2 e_2) ⟨callB_of 1 hg (ld_gd k_242) rfl rfl rfl (hg _ k_24) (hg _ k_304) hd_isLoan ⟨Nat.le_of_ble_eq_true rfl, Nat.le_of_ble_eq_true rfl⟩, hg _ k_240, hg _ k_241⟩ (ld_preRV hP hK hN [0, 1, 2, 3, 4, 5, 6] rfl 0 0 rfl rfl) rfl rfl hl.1 rfl (lv_room (Nat.le_of_ble_eq_true rfl)) d_countLoans_14 ⟨Nat.zero_le _, Nat.zero_le _⟩) ?_
        refine lv_if_eq (tgt := 23) hx hb d_countLoans_17 (by decide) (fun c_3 => ?_) (fun c_3 => ?_)
        · have hy1 := (if_pos c_3).symm.trans hy1
          refine lv_iinc (v := v1.2 + 1) (lv' := [(2, .int (v1.2 + 1)), (0, .ref (a 1)), (1, .int v1.1)]) hx hb d_countLoans_23 hl (k := 2) rfl rfl (by decide) rfl (fun ls hl => ?_)
          refine lv_goto (tgt := 4) hx hb d_countLoans_26 (by decide) ?_
          obtain rfl := Option.some.inj hy1
          exact ih1 (v1.1, v1.2 + 1) _ g1 (lv_sub hl [1, 2, 0] rfl)
        · have hy1 := (if_neg c_3).symm.trans hy1
          refine lv_iinc (v := v1.1 + 1) (lv' := [(1, .int (v1.1 + 1)), (0, .ref (a 1)), (2, .int v1.2)]) hx hb d_countLoans_20 hl (k := 1) rfl rfl (by decide) rfl (fun ls hl => ?_)
          refine lv_iinc (v := v1.2 + 1) (lv' := [(2, .int (v1.2 + 1)), (1, .int (v1.1 + 1)), (0, .ref (a 1))]) hx hb d_countLoans_23 hl (k := 2) rfl rfl (by decide) rfl (fun ls hl => ?_)
          refine lv_goto (tgt := 4) hx hb d_countLoans_26 (by decide) ?_
          obtain rfl := Option.some.inj hy1
          exact ih1 (v1.1 + 1, v1.2 + 1) _ g1 (lv_sub hl [2, 1, 0] rfl)
  exact key1 N (0, 0) _ eY1 (lv_sub hl [2, 1, 0] rfl)
def lm_add (N : Nat) (G : ld_gT) (p0 : Int32) (p1 : Int32) (p2 : Int32) (p3 : Int32) : Option (Int32 × ld_gT) := ld_lt (lf_hasRoom G) (fun r_1 => if r_1 = 0 then some ((-1), G) else if ld_in G.2.2.2.2.2.2 120 = true then (some (G.2.2.2.2.2.2, (upd G.1 G.2.2.2.2.2.2.toNatClampNeg p0, upd G.2.1 G.2.2.2.2.2.2.toNatClampNeg p1, upd G.2.2.1 G.2.2.2.2.2.2.toNatClampNeg p2, upd G.2.2.2.1 G.2.2.2.2.2.2.toNatClampNeg p3, upd G.2.2.2.2.1 G.2.2.2.2.2.2.toNatClampNeg (G.2.2.2.2.2.2 + 1), upd G.2.2.2.2.2.1 G.2.2.2.2.2.2.toNatClampNeg (-1), G.2.2.2.2.2.2 + 1))) else none)
set_option maxHeartbeats 4000000 in
set_option maxRecDepth 100000 in
theorem lc_add (l : Launch) (D : va_G) (cI cZ cJ : ClassId) (a : Nat → Nat) (G : ld_gT) (p0 : Int32) (p1 : Int32) (p2 : Int32) (p3 : Int32) (sz : Nat) (N : Nat) (R : Int32 × ld_gT) (h : lm_add N G p0 p1 p2 p3 = some R) : Met l y_add (Cond.code y_add prog_2_method_7_code 6 (some .int) :: bgT) ({ frames := 1, cells := 0, slots := 0, locals := 20 }) (ld_PM D cI cZ cJ (ld_gW a cI G) sz [.ref (a 1), .int p0, .int p1, .int p2, .int p3]) (ld_QI D (ld_gW a cI R.2) (va_A (ld_gW a cI G) sz) R.1) 0 0 ((va_A (ld_gW a cI G) sz)) := by
  refine Met.ofW (cc := prog_2_method_7_code) (maxL := 6) (ret := (some .int)) (by decide) rfl ?_
  intro p e s m args below meth c s₁ B hml hv
  obtain ⟨rfl, hsz, hP, hK, hD0, hN⟩ := hv
  have hx := B.exec
  have hb := B.bytes
  have hr := B.returns
  have hg : ∀ w ∈ bgT, w.before _ s = true := fun w h => atoms_spec (ws := (Cond.code y_add prog_2_method_7_code 6 (some .int) :: bgT)) B.pre w (List.mem_cons_of_mem _ h)
  have hown : s.vm.findClass "LoanDesk$Graph" = some m.cls := findClass_of_methodNamed B.named
  have hlocks := B.notSynchronized
  subst hsz
  have hD := hD0.self (sz := s.heap.size)
  generalize hAe : va_A (ld_gW a cI G) s.heap.size = A at hD ⊢
  have hA : ∀ q : Nat, s.heap.size ≤ q → A q := fun q h => by rw [← hAe]; exact Or.inr h
  have hS : va_S A s.heap s.heap [] := va_S.rf
  have hl := lv_entry ([.ref (a 1), .int p0, .int p1, .int p2, .int p3]) (n := 6) (Nat.le_of_ble_eq_true rfl)
  rw [lg_entry_eq]
  generalize (lg_sl ([.ref (a 1), .int p0, .int p1, .int p2, .int p3]) ++ List.replicate (6 - (lg_sl ([.ref (a 1), .int p0, .int p1, .int p2, .int p3])).length) Slot.unset).toArray = ls at hl ⊢
  have hl : lv_has ls 6 [(0, .ref (a 1)), (1, .int p0), (2, .int p1), (3, .int p2), (4, .int p3)] := hl
  refine lv_aload_n hx hb d_add_0 rfl (lv_at hl 0 rfl) ?_
  obtain ⟨r_1, e_1, h⟩ := ld_nm h
  refine ld_rd (W.runV (As := []) (rest := []) ⟨hx, hb, hml, hown, hg⟩ (lc_hasRoom l D cI cZ cJ a G r_1 e_1) ⟨callB_of 0 hg (ld_gd k_139) rfl rfl rfl (hg _ k_24) (hg _ k_147) hd_hasRoom ⟨Nat.le_of_ble_eq_true rfl, Nat.le_of_ble_eq_true rfl⟩, hg _ k_137, hg _ k_138⟩ (ld_preRV hP hK hN [0, 1, 2, 3, 4, 5, 6] rfl 0 0 rfl rfl) rfl rfl hl.1 rfl (lv_room (Nat.le_of_ble_eq_true rfl)) d_add_1 ⟨Nat.zero_le _, Nat.zero_le _⟩) ?_
  refine lv_if_ne (tgt := 9) hx hb d_add_4 (by decide) (fun c_2 => ?_) (fun c_2 => ?_)
  · have h := (if_neg c_2).symm.trans h
    refine lv_aload_n hx hb d_add_9 rfl (lv_at hl 0 rfl) ?_
    refine va_get (D := D) (ci := 0) (v := .int G.2.2.2.2.2.2) (C := "LoanDesk$Graph") (T := T_Graph) (N := 7) hx hb hg u_Graph hown hK hP 0 rfl rfl 6 (by decide) (hg _ k_52) (fun _ h9 => h9) rfl d_add_10 ?_
    refine lv_istore (lv' := [(5, .int G.2.2.2.2.2.2), (0, .ref (a 1)), (1, .int p0), (2, .int p1), (3, .int p2), (4, .int p3)]) hx hb d_add_13 hl (by decide) rfl (fun ls hl => ?_)
    refine lv_aload_n hx hb d_add_15 rfl (lv_at hl 1 rfl) ?_
    refine va_get (D := D) (ci := 0) (v := .ref (a 2)) (C := "LoanDesk$Graph") (T := T_Graph) (N := 7) hx hb hg u_Graph hown hK hP 0 rfl rfl 0 (by decide) (hg _ k_46) (fun _ h9 => h9) rfl d_add_16 ?_
    refine lv_iload hx hb d_add_19 (lv_at hl 0 rfl) ?_
    refine lv_iload_n hx hb d_add_21 rfl (lv_at hl 2 rfl) ?_
    obtain ⟨i_3, h⟩ := ld_grd h
    refine va_iast hx hb hK hP hD hS 1 0 rfl rfl (i := G.2.2.2.2.2.2) i_3 d_add_22 (fun H locs hP hD hS => ?_)
    have hP : va_P D vwCl (ld_gW a cI (upd G.1 G.2.2.2.2.2.2.toNatClampNeg p0, G.2.1, G.2.2.1, G.2.2.2.1, G.2.2.2.2.1, G.2.2.2.2.2.1, G.2.2.2.2.2.2)) H := hP
    have hD : va_D A (ld_gW a cI (upd G.1 G.2.2.2.2.2.2.toNatClampNeg p0, G.2.1, G.2.2.1, G.2.2.2.1, G.2.2.2.2.1, G.2.2.2.2.2.1, G.2.2.2.2.2.2)) := hD
    refine lv_aload_n hx hb d_add_23 rfl (lv_at hl 1 rfl) ?_
    refine va_get (D := D) (ci := 0) (v := .ref (a 3)) (C := "LoanDesk$Graph") (T := T_Graph) (N := 7) hx hb hg u_Graph hown hK hP 0 rfl rfl 1 (by decide) (hg _ k_47) (fun _ h9 => h9) rfl d_add_24 ?_
    refine lv_iload hx hb d_add_27 (lv_at hl 0 rfl) ?_
    refine lv_iload_n hx hb d_add_29 rfl (lv_at hl 3 rfl) ?_
    refine va_iast hx hb hK hP hD hS 2 0 rfl rfl (i := G.2.2.2.2.2.2) i_3 d_add_30 (fun H locs hP hD hS => ?_)
    have hP : va_P D vwCl (ld_gW a cI (upd G.1 G.2.2.2.2.2.2.toNatClampNeg p0, upd G.2.1 G.2.2.2.2.2.2.toNatClampNeg p1, G.2.2.1, G.2.2.2.1, G.2.2.2.2.1, G.2.2.2.2.2.1, G.2.2.2.2.2.2)) H := hP
    have hD : va_D A (ld_gW a cI (upd G.1 G.2.2.2.2.2.2.toNatClampNeg p0, upd G.2.1 G.2.2.2.2.2.2.toNatClampNeg p1, G.2.2.1, G.2.2.2.1, G.2.2.2.2.1, G.2.2.2.2.2.1, G.2.2.2.2.2.2)) := hD
    refine lv_aload_n hx hb d_add_31 rfl (lv_at hl 1 rfl) ?_
    refine va_get (D := D) (ci := 0) (v := .ref (a 4)) (C := "LoanDesk$Graph") (T := T_Graph) (N := 7) hx hb hg u_Graph hown hK hP 0 rfl rfl 2 (by decide) (hg _ k_48) (fun _ h9 => h9) rfl d_add_32 ?_
    refine lv_iload hx hb d_add_35 (lv_at hl 0 rfl) ?_
    refine lv_iload_n hx hb d_add_37 rfl (lv_at hl 4 rfl) ?_
    refine va_iast hx hb hK hP hD hS 3 0 rfl rfl (i := G.2.2.2.2.2.2) i_3 d_add_38 (fun H locs hP hD hS => ?_)
    have hP : va_P D vwCl (ld_gW a cI (upd G.1 G.2.2.2.2.2.2.toNatClampNeg p0, upd G.2.1 G.2.2.2.2.2.2.toNatClampNeg p1, upd G.2.2.1 G.2.2.2.2.2.2.toNatClampNeg p2, G.2.2.2.1, G.2.2.2.2.1, G.2.2.2.2.2.1, G.2.2.2.2.2.2)) H := hP
    have hD : va_D A (ld_gW a cI (upd G.1 G.2.2.2.2.2.2.toNatClampNeg p0, upd G.2.1 G.2.2.2.2.2.2.toNatClampNeg p1, upd G.2.2.1 G.2.2.2.2.2.2.toNatClampNeg p2, G.2.2.2.1, G.2.2.2.2.1, G.2.2.2.2.2.1, G.2.2.2.2.2.2)) := hD
    refine lv_aload_n hx hb d_add_39 rfl (lv_at hl 1 rfl) ?_
    refine va_get (D := D) (ci := 0) (v := .ref (a 5)) (C := "LoanDesk$Graph") (T := T_Graph) (N := 7) hx hb hg u_Graph hown hK hP 0 rfl rfl 3 (by decide) (hg _ k_49) (fun _ h9 => h9) rfl d_add_40 ?_
    refine lv_iload hx hb d_add_43 (lv_at hl 0 rfl) ?_
    refine lv_iload hx hb d_add_45 (lv_at hl 5 rfl) ?_
    refine va_iast hx hb hK hP hD hS 4 0 rfl rfl (i := G.2.2.2.2.2.2) i_3 d_add_47 (fun H locs hP hD hS => ?_)
    have hP : va_P D vwCl (ld_gW a cI (upd G.1 G.2.2.2.2.2.2.toNatClampNeg p0, upd G.2.1 G.2.2.2.2.2.2.toNatClampNeg p1, upd G.2.2.1 G.2.2.2.2.2.2.toNatClampNeg p2, upd G.2.2.2.1 G.2.2.2.2.2.2.toNatClampNeg p3, G.2.2.2.2.1, G.2.2.2.2.2.1, G.2.2.2.2.2.2)) H := hP
    have hD : va_D A (ld_gW a cI (upd G.1 G.2.2.2.2.2.2.toNatClampNeg p0, upd G.2.1 G.2.2.2.2.2.2.toNatClampNeg p1, upd G.2.2.1 G.2.2.2.2.2.2.toNatClampNeg p2, upd G.2.2.2.1 G.2.2.2.2.2.2.toNatClampNeg p3, G.2.2.2.2.1, G.2.2.2.2.2.1, G.2.2.2.2.2.2)) := hD
    refine lv_aload_n hx hb d_add_48 rfl (lv_at hl 1 rfl) ?_
    refine va_get (D := D) (ci := 0) (v := .ref (a 6)) (C := "LoanDesk$Graph") (T := T_Graph) (N := 7) hx hb hg u_Graph hown hK hP 0 rfl rfl 4 (by decide) (hg _ k_50) (fun _ h9 => h9) rfl d_add_49 ?_
    refine lv_iload hx hb d_add_52 (lv_at hl 0 rfl) ?_
    refine lv_iload hx hb d_add_54 (lv_at hl 0 rfl) ?_
    refine lv_iconst (v := 1) hx hb d_add_56 (by decide) ?_
    refine lv_iadd hx hb d_add_57 ?_
    refine va_iast hx hb hK hP hD hS 5 0 rfl rfl (i := G.2.2.2.2.2.2) i_3 d_add_58 (fun H locs hP hD hS => ?_)
    have hP : va_P D vwCl (ld_gW a cI (upd G.1 G.2.2.2.2.2.2.toNatClampNeg p0, upd G.2.1 G.2.2.2.2.2.2.toNatClampNeg p1, upd G.2.2.1 G.2.2.2.2.2.2.toNatClampNeg p2, upd G.2.2.2.1 G.2.2.2.2.2.2.toNatClampNeg p3, upd G.2.2.2.2.1 G.2.2.2.2.2.2.toNatClampNeg (G.2.2.2.2.2.2 + 1), G.2.2.2.2.2.1, G.2.2.2.2.2.2)) H := hP
    have hD : va_D A (ld_gW a cI (upd G.1 G.2.2.2.2.2.2.toNatClampNeg p0, upd G.2.1 G.2.2.2.2.2.2.toNatClampNeg p1, upd G.2.2.1 G.2.2.2.2.2.2.toNatClampNeg p2, upd G.2.2.2.1 G.2.2.2.2.2.2.toNatClampNeg p3, upd G.2.2.2.2.1 G.2.2.2.2.2.2.toNatClampNeg (G.2.2.2.2.2.2 + 1), G.2.2.2.2.2.1, G.2.2.2.2.2.2)) := hD
    refine lv_aload_n hx hb d_add_59 rfl (lv_at hl 1 rfl) ?_
    refine va_get (D := D) (ci := 0) (v := .ref (a 7)) (C := "LoanDesk$Graph") (T := T_Graph) (N := 7) hx hb hg u_Graph hown hK hP 0 rfl rfl 5 (by decide) (hg _ k_51) (fun _ h9 => h9) rfl d_add_60 ?_
    refine lv_iload hx hb d_add_63 (lv_at hl 0 rfl) ?_
    refine lv_iconst (v := (-1)) hx hb d_add_65 (by decide) ?_
    refine va_iast hx hb hK hP hD hS 6 0 rfl rfl (i := G.2.2.2.2.2.2) i_3 d_add_66 (fun H locs hP hD hS => ?_)
    have hP : va_P D vwCl (ld_gW a cI (upd G.1 G.2.2.2.2.2.2.toNatClampNeg p0, upd G.2.1 G.2.2.2.2.2.2.toNatClampNeg p1, upd G.2.2.1 G.2.2.2.2.2.2.toNatClampNeg p2, upd G.2.2.2.1 G.2.2.2.2.2.2.toNatClampNeg p3, upd G.2.2.2.2.1 G.2.2.2.2.2.2.toNatClampNeg (G.2.2.2.2.2.2 + 1), upd G.2.2.2.2.2.1 G.2.2.2.2.2.2.toNatClampNeg (-1), G.2.2.2.2.2.2)) H := hP
    have hD : va_D A (ld_gW a cI (upd G.1 G.2.2.2.2.2.2.toNatClampNeg p0, upd G.2.1 G.2.2.2.2.2.2.toNatClampNeg p1, upd G.2.2.1 G.2.2.2.2.2.2.toNatClampNeg p2, upd G.2.2.2.1 G.2.2.2.2.2.2.toNatClampNeg p3, upd G.2.2.2.2.1 G.2.2.2.2.2.2.toNatClampNeg (G.2.2.2.2.2.2 + 1), upd G.2.2.2.2.2.1 G.2.2.2.2.2.2.toNatClampNeg (-1), G.2.2.2.2.2.2)) := hD
    refine lv_aload_n hx hb d_add_67 rfl (lv_at hl 1 rfl) ?_
    refine lv_iload hx hb d_add_68 (lv_at hl 0 rfl) ?_
    refine lv_iconst (v := 1) hx hb d_add_70 (by decide) ?_
    refine lv_iadd hx hb d_add_71 ?_
    refine va_put (D := D) (ci := 0) (v := .int (G.2.2.2.2.2.2 + 1)) (ty := .int) (C := "LoanDesk$Graph") (T := T_Graph) (N := 7) hx hb hg u_Graph t_Graph tk_Graph n_Graph hown hK hP hD hS 0 rfl rfl 6 (by decide) (hg _ k_52) (fun _ h9 => h9) rfl (by decide +kernel) rfl rfl (Nat.le_of_ble_eq_true rfl) d_add_72 (fun H locs hP hD hS => ?_)
    have hP : va_P D vwCl (ld_gW a cI (upd G.1 G.2.2.2.2.2.2.toNatClampNeg p0, upd G.2.1 G.2.2.2.2.2.2.toNatClampNeg p1, upd G.2.2.1 G.2.2.2.2.2.2.toNatClampNeg p2, upd G.2.2.2.1 G.2.2.2.2.2.2.toNatClampNeg p3, upd G.2.2.2.2.1 G.2.2.2.2.2.2.toNatClampNeg (G.2.2.2.2.2.2 + 1), upd G.2.2.2.2.2.1 G.2.2.2.2.2.2.toNatClampNeg (-1), G.2.2.2.2.2.2 + 1)) H := hP
    have hD : va_D A (ld_gW a cI (upd G.1 G.2.2.2.2.2.2.toNatClampNeg p0, upd G.2.1 G.2.2.2.2.2.2.toNatClampNeg p1, upd G.2.2.1 G.2.2.2.2.2.2.toNatClampNeg p2, upd G.2.2.2.1 G.2.2.2.2.2.2.toNatClampNeg p3, upd G.2.2.2.2.1 G.2.2.2.2.2.2.toNatClampNeg (G.2.2.2.2.2.2 + 1), upd G.2.2.2.2.2.1 G.2.2.2.2.2.2.toNatClampNeg (-1), G.2.2.2.2.2.2 + 1)) := hD
    refine lv_iload hx hb d_add_75 (lv_at hl 0 rfl) ?_
    have h := Option.some.inj h
    subst h
    exact W.iret (v := G.2.2.2.2.2.2) hx hb hr (fun t ht hW => ⟨⟨_, (), rfl, rfl, by rw [ht]; exact hP, hD⟩, hS.F ht⟩) hS.2.2 d_add_77
  · have h := (if_pos c_2).symm.trans h
    refine lv_iconst (v := (-1)) hx hb d_add_7 (by decide) ?_
    have h := Option.some.inj h
    subst h
    exact W.iret (v := (-1)) hx hb hr (fun t ht hW => ⟨⟨_, (), rfl, rfl, by rw [ht]; exact hP, hD⟩, hS.F ht⟩) hS.2.2 d_add_8
def lf_tellNext (G : ld_gT) (p0 : Int32) (p1 : Int32) (p2 : Int32) : ld_gT := ld_lt (lf_isPoint G p0) (fun r_1 => if r_1 = 0 then G else (G.1, G.2.1, G.2.2.1, G.2.2.2.1, upd G.2.2.2.2.1 p0.toNatClampNeg p1, upd G.2.2.2.2.2.1 p0.toNatClampNeg p2, G.2.2.2.2.2.2))
set_option maxHeartbeats 4000000 in
set_option maxRecDepth 100000 in
theorem lc_tellNext (l : Launch) (D : va_G) (cI cZ cJ : ClassId) (a : Nat → Nat) (G : ld_gT) (p0 : Int32) (p1 : Int32) (p2 : Int32) (sz : Nat) (R : ld_gT) (h : lf_tellNext G p0 p1 p2 = R) : Met l y_tellNext (Cond.code y_tellNext prog_2_method_8_code 4 none :: bgT) ({ frames := 1, cells := 0, slots := 0, locals := 21 }) (ld_PM D cI cZ cJ (ld_gW a cI G) sz [.ref (a 1), .int p0, .int p1, .int p2]) (ld_QV D (ld_gW a cI R) (va_A (ld_gW a cI G) sz)) 0 0 ((va_A (ld_gW a cI G) sz)) := by
  refine Met.ofW (cc := prog_2_method_8_code) (maxL := 4) (ret := none) (by decide) rfl ?_
  intro p e s m args below meth c s₁ B hml hv
  obtain ⟨rfl, hsz, hP, hK, hD0, hN⟩ := hv
  have hx := B.exec
  have hb := B.bytes
  have hr := B.returns
  have hg : ∀ w ∈ bgT, w.before _ s = true := fun w h => atoms_spec (ws := (Cond.code y_tellNext prog_2_method_8_code 4 none :: bgT)) B.pre w (List.mem_cons_of_mem _ h)
  have hown : s.vm.findClass "LoanDesk$Graph" = some m.cls := findClass_of_methodNamed B.named
  have hlocks := B.notSynchronized
  subst hsz
  have hD := hD0.self (sz := s.heap.size)
  generalize hAe : va_A (ld_gW a cI G) s.heap.size = A at hD ⊢
  have hA : ∀ q : Nat, s.heap.size ≤ q → A q := fun q h => by rw [← hAe]; exact Or.inr h
  have hS : va_S A s.heap s.heap [] := va_S.rf
  have hl := lv_entry ([.ref (a 1), .int p0, .int p1, .int p2]) (n := 4) (Nat.le_of_ble_eq_true rfl)
  rw [lg_entry_eq]
  generalize (lg_sl ([.ref (a 1), .int p0, .int p1, .int p2]) ++ List.replicate (4 - (lg_sl ([.ref (a 1), .int p0, .int p1, .int p2])).length) Slot.unset).toArray = ls at hl ⊢
  have hl : lv_has ls 4 [(0, .ref (a 1)), (1, .int p0), (2, .int p1), (3, .int p2)] := hl
  refine lv_aload_n hx hb d_tellNext_0 rfl (lv_at hl 0 rfl) ?_
  refine lv_iload_n hx hb d_tellNext_1 rfl (lv_at hl 1 rfl) ?_
  obtain ⟨r_1, e_1, h⟩ := ld_nm h
  refine ld_rd (W.runV (As := [.int p0]) (rest := []) ⟨hx, hb, hml, hown, hg⟩ (lc_isPoint l D cI cZ cJ a G p0 r_1 e_1) ⟨callB_of 1 hg (ld_gd k_155) rfl rfl rfl (hg _ k_24) (hg _ k_166) hd_isPoint ⟨Nat.le_of_ble_eq_true rfl, Nat.le_of_ble_eq_true rfl⟩, hg _ k_153, hg _ k_154⟩ (ld_preRV hP hK hN [0, 1, 2, 3, 4, 5, 6] rfl 0 0 rfl rfl) rfl rfl hl.1 rfl (lv_room (Nat.le_of_ble_eq_true rfl)) d_tellNext_2 ⟨Nat.zero_le _, Nat.zero_le _⟩) ?_
  refine lv_if_eq (tgt := 22) hx hb d_tellNext_5 (by decide) (fun c_2 => ?_) (fun c_2 => ?_)
  · have h := (if_pos c_2).symm.trans h
    subst h
    exact W.vret hx hb hr (fun t ht hW => ⟨⟨(), rfl, trivial, by rw [ht]; exact hP, hD⟩, hS.F ht⟩) hS.2.2 d_tellNext_22
  · have h := (if_neg c_2).symm.trans h
    refine lv_aload_n hx hb d_tellNext_8 rfl (lv_at hl 0 rfl) ?_
    refine va_get (D := D) (ci := 0) (v := .ref (a 6)) (C := "LoanDesk$Graph") (T := T_Graph) (N := 7) hx hb hg u_Graph hown hK hP 0 rfl rfl 4 (by decide) (hg _ k_50) (fun _ h9 => h9) rfl d_tellNext_9 ?_
    refine lv_iload_n hx hb d_tellNext_12 rfl (lv_at hl 1 rfl) ?_
    refine lv_iload_n hx hb d_tellNext_13 rfl (lv_at hl 2 rfl) ?_
    refine va_iast hx hb hK hP hD hS 5 0 rfl rfl (i := p0) (ld_pt e_1 c_2) d_tellNext_14 (fun H locs hP hD hS => ?_)
    have hP : va_P D vwCl (ld_gW a cI (G.1, G.2.1, G.2.2.1, G.2.2.2.1, upd G.2.2.2.2.1 p0.toNatClampNeg p1, G.2.2.2.2.2.1, G.2.2.2.2.2.2)) H := hP
    have hD : va_D A (ld_gW a cI (G.1, G.2.1, G.2.2.1, G.2.2.2.1, upd G.2.2.2.2.1 p0.toNatClampNeg p1, G.2.2.2.2.2.1, G.2.2.2.2.2.2)) := hD
    refine lv_aload_n hx hb d_tellNext_15 rfl (lv_at hl 0 rfl) ?_
    refine va_get (D := D) (ci := 0) (v := .ref (a 7)) (C := "LoanDesk$Graph") (T := T_Graph) (N := 7) hx hb hg u_Graph hown hK hP 0 rfl rfl 5 (by decide) (hg _ k_51) (fun _ h9 => h9) rfl d_tellNext_16 ?_
    refine lv_iload_n hx hb d_tellNext_19 rfl (lv_at hl 1 rfl) ?_
    refine lv_iload_n hx hb d_tellNext_20 rfl (lv_at hl 3 rfl) ?_
    refine va_iast hx hb hK hP hD hS 6 0 rfl rfl (i := p0) (ld_pt e_1 c_2) d_tellNext_21 (fun H locs hP hD hS => ?_)
    have hP : va_P D vwCl (ld_gW a cI (G.1, G.2.1, G.2.2.1, G.2.2.2.1, upd G.2.2.2.2.1 p0.toNatClampNeg p1, upd G.2.2.2.2.2.1 p0.toNatClampNeg p2, G.2.2.2.2.2.2)) H := hP
    have hD : va_D A (ld_gW a cI (G.1, G.2.1, G.2.2.1, G.2.2.2.1, upd G.2.2.2.2.1 p0.toNatClampNeg p1, upd G.2.2.2.2.2.1 p0.toNatClampNeg p2, G.2.2.2.2.2.2)) := hD
    subst h
    exact W.vret hx hb hr (fun t ht hW => ⟨⟨(), rfl, trivial, by rw [ht]; exact hP, hD⟩, hS.F ht⟩) hS.2.2 d_tellNext_22
def lf_gempty (G : ld_gT) : ld_gT := (G.1, G.2.1, G.2.2.1, G.2.2.2.1, G.2.2.2.2.1, G.2.2.2.2.2.1, 0)
set_option maxHeartbeats 4000000 in
set_option maxRecDepth 100000 in
theorem lc_gempty (l : Launch) (D : va_G) (cI cZ cJ : ClassId) (a : Nat → Nat) (G : ld_gT) (sz : Nat) (R : ld_gT) (h : lf_gempty G = R) : Met l y_gempty (Cond.code y_gempty prog_2_method_9_code 1 none :: bgT) ({ frames := 0, cells := 0, slots := 0, locals := 0 }) (ld_PM D cI cZ cJ (ld_gW a cI G) sz [.ref (a 1)]) (ld_QV D (ld_gW a cI R) (va_A (ld_gW a cI G) sz)) 0 0 ((va_A (ld_gW a cI G) sz)) := by
  refine Met.ofW (cc := prog_2_method_9_code) (maxL := 1) (ret := none) (by decide) rfl ?_
  intro p e s m args below meth c s₁ B hml hv
  obtain ⟨rfl, hsz, hP, hK, hD0, hN⟩ := hv
  have hx := B.exec
  have hb := B.bytes
  have hr := B.returns
  have hg : ∀ w ∈ bgT, w.before _ s = true := fun w h => atoms_spec (ws := (Cond.code y_gempty prog_2_method_9_code 1 none :: bgT)) B.pre w (List.mem_cons_of_mem _ h)
  have hown : s.vm.findClass "LoanDesk$Graph" = some m.cls := findClass_of_methodNamed B.named
  have hlocks := B.notSynchronized
  subst hsz
  have hD := hD0.self (sz := s.heap.size)
  generalize hAe : va_A (ld_gW a cI G) s.heap.size = A at hD ⊢
  have hA : ∀ q : Nat, s.heap.size ≤ q → A q := fun q h => by rw [← hAe]; exact Or.inr h
  have hS : va_S A s.heap s.heap [] := va_S.rf
  have hl := lv_entry ([.ref (a 1)]) (n := 1) (Nat.le_of_ble_eq_true rfl)
  rw [lg_entry_eq]
  generalize (lg_sl ([.ref (a 1)]) ++ List.replicate (1 - (lg_sl ([.ref (a 1)])).length) Slot.unset).toArray = ls at hl ⊢
  have hl : lv_has ls 1 [(0, .ref (a 1))] := hl
  refine lv_aload_n hx hb d_gempty_0 rfl (lv_at hl 0 rfl) ?_
  refine lv_iconst (v := 0) hx hb d_gempty_1 (by decide) ?_
  refine va_put (D := D) (ci := 0) (v := .int 0) (ty := .int) (C := "LoanDesk$Graph") (T := T_Graph) (N := 7) hx hb hg u_Graph t_Graph tk_Graph n_Graph hown hK hP hD hS 0 rfl rfl 6 (by decide) (hg _ k_52) (fun _ h9 => h9) rfl (by decide +kernel) rfl rfl (Nat.le_of_ble_eq_true rfl) d_gempty_2 (fun H locs hP hD hS => ?_)
  have hP : va_P D vwCl (ld_gW a cI (G.1, G.2.1, G.2.2.1, G.2.2.2.1, G.2.2.2.2.1, G.2.2.2.2.2.1, 0)) H := hP
  have hD : va_D A (ld_gW a cI (G.1, G.2.1, G.2.2.1, G.2.2.2.1, G.2.2.2.2.1, G.2.2.2.2.2.1, 0)) := hD
  subst h
  exact W.vret hx hb hr (fun t ht hW => ⟨⟨(), rfl, trivial, by rw [ht]; exact hP, hD⟩, hS.F ht⟩) hS.2.2 d_gempty_5
end
section
theorem d_withHolder_0 : decode prog_2_method_13_code 0 = .ok (.iconst 1, 1) := by decide +kernel
theorem d_withHolder_1 : decode prog_2_method_13_code 1 = .ok (.iload_n 1, 1) := by decide +kernel
theorem d_withHolder_2 : decode prog_2_method_13_code 2 = .ok (.ishl, 1) := by decide +kernel
theorem d_withHolder_3 : decode prog_2_method_13_code 3 = .ok (.istore_n 3, 1) := by decide +kernel
theorem d_withHolder_4 : decode prog_2_method_13_code 4 = .ok (.iload_n 2, 1) := by decide +kernel
theorem d_withHolder_5 : decode prog_2_method_13_code 5 = .ok (.ifCond .eq 9, 3) := by decide +kernel
theorem d_withHolder_8 : decode prog_2_method_13_code 8 = .ok (.iload_n 0, 1) := by decide +kernel
theorem d_withHolder_9 : decode prog_2_method_13_code 9 = .ok (.iload_n 3, 1) := by decide +kernel
theorem d_withHolder_10 : decode prog_2_method_13_code 10 = .ok (.ior, 1) := by decide +kernel
theorem d_withHolder_11 : decode prog_2_method_13_code 11 = .ok (.goto 8, 3) := by decide +kernel
theorem d_withHolder_14 : decode prog_2_method_13_code 14 = .ok (.iload_n 0, 1) := by decide +kernel
theorem d_withHolder_15 : decode prog_2_method_13_code 15 = .ok (.iload_n 3, 1) := by decide +kernel
theorem d_withHolder_16 : decode prog_2_method_13_code 16 = .ok (.iconst (-1), 1) := by decide +kernel
theorem d_withHolder_17 : decode prog_2_method_13_code 17 = .ok (.ixor, 1) := by decide +kernel
theorem d_withHolder_18 : decode prog_2_method_13_code 18 = .ok (.iand, 1) := by decide +kernel
theorem d_withHolder_19 : decode prog_2_method_13_code 19 = .ok (.ireturn, 1) := by decide +kernel
theorem d_heldBehind_0 : decode prog_2_method_12_code 0 = .ok (.aload_n 0, 1) := by decide +kernel
theorem d_heldBehind_1 : decode prog_2_method_12_code 1 = .ok (.iload_n 1, 1) := by decide +kernel
theorem d_heldBehind_2 : decode prog_2_method_12_code 2 = .ok (.invokevirtual 34, 3) := by decide +kernel
theorem d_heldBehind_5 : decode prog_2_method_12_code 5 = .ok (.ifCond .ne 5, 3) := by decide +kernel
theorem d_heldBehind_8 : decode prog_2_method_12_code 8 = .ok (.iconst 0, 1) := by decide +kernel
theorem d_heldBehind_9 : decode prog_2_method_12_code 9 = .ok (.ireturn, 1) := by decide +kernel
theorem d_heldBehind_10 : decode prog_2_method_12_code 10 = .ok (.aload_n 0, 1) := by decide +kernel
theorem d_heldBehind_11 : decode prog_2_method_12_code 11 = .ok (.getfield 9, 3) := by decide +kernel
theorem d_heldBehind_14 : decode prog_2_method_12_code 14 = .ok (.iload_n 1, 1) := by decide +kernel
theorem d_heldBehind_15 : decode prog_2_method_12_code 15 = .ok (.iaload, 1) := by decide +kernel
theorem d_heldBehind_16 : decode prog_2_method_12_code 16 = .ok (.tableswitch 90 1 3 #[28, 49, 78], 28) := by decide +kernel
theorem d_heldBehind_44 : decode prog_2_method_12_code 44 = .ok (.iload_n 3, 1) := by decide +kernel
theorem d_heldBehind_45 : decode prog_2_method_12_code 45 = .ok (.aload_n 0, 1) := by decide +kernel
theorem d_heldBehind_46 : decode prog_2_method_12_code 46 = .ok (.getfield 15, 3) := by decide +kernel
theorem d_heldBehind_49 : decode prog_2_method_12_code 49 = .ok (.iload_n 1, 1) := by decide +kernel
theorem d_heldBehind_50 : decode prog_2_method_12_code 50 = .ok (.iaload, 1) := by decide +kernel
theorem d_heldBehind_51 : decode prog_2_method_12_code 51 = .ok (.iload_n 1, 1) := by decide +kernel
theorem d_heldBehind_52 : decode prog_2_method_12_code 52 = .ok (.iload_n 2, 1) := by decide +kernel
theorem d_heldBehind_53 : decode prog_2_method_12_code 53 = .ok (.if_icmp .ne 7, 3) := by decide +kernel
theorem d_heldBehind_56 : decode prog_2_method_12_code 56 = .ok (.iconst 1, 1) := by decide +kernel
theorem d_heldBehind_57 : decode prog_2_method_12_code 57 = .ok (.goto 4, 3) := by decide +kernel
theorem d_heldBehind_60 : decode prog_2_method_12_code 60 = .ok (.iconst 0, 1) := by decide +kernel
theorem d_heldBehind_61 : decode prog_2_method_12_code 61 = .ok (.invokestatic 45, 3) := by decide +kernel
theorem d_heldBehind_64 : decode prog_2_method_12_code 64 = .ok (.ireturn, 1) := by decide +kernel
theorem d_heldBehind_65 : decode prog_2_method_12_code 65 = .ok (.iload_n 3, 1) := by decide +kernel
theorem d_heldBehind_66 : decode prog_2_method_12_code 66 = .ok (.aload_n 0, 1) := by decide +kernel
theorem d_heldBehind_67 : decode prog_2_method_12_code 67 = .ok (.getfield 15, 3) := by decide +kernel
theorem d_heldBehind_70 : decode prog_2_method_12_code 70 = .ok (.iload_n 1, 1) := by decide +kernel
theorem d_heldBehind_71 : decode prog_2_method_12_code 71 = .ok (.iaload, 1) := by decide +kernel
theorem d_heldBehind_72 : decode prog_2_method_12_code 72 = .ok (.iload_n 3, 1) := by decide +kernel
theorem d_heldBehind_73 : decode prog_2_method_12_code 73 = .ok (.iconst 1, 1) := by decide +kernel
theorem d_heldBehind_74 : decode prog_2_method_12_code 74 = .ok (.aload_n 0, 1) := by decide +kernel
theorem d_heldBehind_75 : decode prog_2_method_12_code 75 = .ok (.getfield 18, 3) := by decide +kernel
theorem d_heldBehind_78 : decode prog_2_method_12_code 78 = .ok (.iload_n 1, 1) := by decide +kernel
theorem d_heldBehind_79 : decode prog_2_method_12_code 79 = .ok (.iaload, 1) := by decide +kernel
theorem d_heldBehind_80 : decode prog_2_method_12_code 80 = .ok (.ishl, 1) := by decide +kernel
theorem d_heldBehind_81 : decode prog_2_method_12_code 81 = .ok (.iand, 1) := by decide +kernel
theorem d_heldBehind_82 : decode prog_2_method_12_code 82 = .ok (.ifCond .eq 7, 3) := by decide +kernel
theorem d_heldBehind_85 : decode prog_2_method_12_code 85 = .ok (.iconst 1, 1) := by decide +kernel
theorem d_heldBehind_86 : decode prog_2_method_12_code 86 = .ok (.goto 4, 3) := by decide +kernel
theorem d_heldBehind_89 : decode prog_2_method_12_code 89 = .ok (.iconst 0, 1) := by decide +kernel
theorem d_heldBehind_90 : decode prog_2_method_12_code 90 = .ok (.invokestatic 45, 3) := by decide +kernel
theorem d_heldBehind_93 : decode prog_2_method_12_code 93 = .ok (.ireturn, 1) := by decide +kernel
theorem d_heldBehind_94 : decode prog_2_method_12_code 94 = .ok (.iload_n 3, 1) := by decide +kernel
theorem d_heldBehind_95 : decode prog_2_method_12_code 95 = .ok (.aload_n 0, 1) := by decide +kernel
theorem d_heldBehind_96 : decode prog_2_method_12_code 96 = .ok (.getfield 15, 3) := by decide +kernel
theorem d_heldBehind_99 : decode prog_2_method_12_code 99 = .ok (.iload_n 1, 1) := by decide +kernel
theorem d_heldBehind_100 : decode prog_2_method_12_code 100 = .ok (.iaload, 1) := by decide +kernel
theorem d_heldBehind_101 : decode prog_2_method_12_code 101 = .ok (.iconst 0, 1) := by decide +kernel
theorem d_heldBehind_102 : decode prog_2_method_12_code 102 = .ok (.invokestatic 45, 3) := by decide +kernel
theorem d_heldBehind_105 : decode prog_2_method_12_code 105 = .ok (.ireturn, 1) := by decide +kernel
theorem d_heldBehind_106 : decode prog_2_method_12_code 106 = .ok (.iload_n 3, 1) := by decide +kernel
theorem d_heldBehind_107 : decode prog_2_method_12_code 107 = .ok (.ireturn, 1) := by decide +kernel
theorem d_usedFrom_0 : decode prog_2_method_14_code 0 = .ok (.aload_n 0, 1) := by decide +kernel
theorem d_usedFrom_1 : decode prog_2_method_14_code 1 = .ok (.iload_n 1, 1) := by decide +kernel
theorem d_usedFrom_2 : decode prog_2_method_14_code 2 = .ok (.invokevirtual 34, 3) := by decide +kernel
theorem d_usedFrom_5 : decode prog_2_method_14_code 5 = .ok (.ifCond .ne 5, 3) := by decide +kernel
theorem d_usedFrom_8 : decode prog_2_method_14_code 8 = .ok (.iconst 0, 1) := by decide +kernel
theorem d_usedFrom_9 : decode prog_2_method_14_code 9 = .ok (.ireturn, 1) := by decide +kernel
theorem d_usedFrom_10 : decode prog_2_method_14_code 10 = .ok (.aload_n 0, 1) := by decide +kernel
theorem d_usedFrom_11 : decode prog_2_method_14_code 11 = .ok (.getfield 9, 3) := by decide +kernel
theorem d_usedFrom_14 : decode prog_2_method_14_code 14 = .ok (.iload_n 1, 1) := by decide +kernel
theorem d_usedFrom_15 : decode prog_2_method_14_code 15 = .ok (.iaload, 1) := by decide +kernel
theorem d_usedFrom_16 : decode prog_2_method_14_code 16 = .ok (.tableswitch 78 1 4 #[32, 45, 32, 67], 32) := by decide +kernel
theorem d_usedFrom_48 : decode prog_2_method_14_code 48 = .ok (.iload_n 2, 1) := by decide +kernel
theorem d_usedFrom_49 : decode prog_2_method_14_code 49 = .ok (.iconst 1, 1) := by decide +kernel
theorem d_usedFrom_50 : decode prog_2_method_14_code 50 = .ok (.aload_n 0, 1) := by decide +kernel
theorem d_usedFrom_51 : decode prog_2_method_14_code 51 = .ok (.getfield 15, 3) := by decide +kernel
theorem d_usedFrom_54 : decode prog_2_method_14_code 54 = .ok (.iload_n 1, 1) := by decide +kernel
theorem d_usedFrom_55 : decode prog_2_method_14_code 55 = .ok (.iaload, 1) := by decide +kernel
theorem d_usedFrom_56 : decode prog_2_method_14_code 56 = .ok (.ishl, 1) := by decide +kernel
theorem d_usedFrom_57 : decode prog_2_method_14_code 57 = .ok (.iconst (-1), 1) := by decide +kernel
theorem d_usedFrom_58 : decode prog_2_method_14_code 58 = .ok (.ixor, 1) := by decide +kernel
theorem d_usedFrom_59 : decode prog_2_method_14_code 59 = .ok (.iand, 1) := by decide +kernel
theorem d_usedFrom_60 : decode prog_2_method_14_code 60 = .ok (.ireturn, 1) := by decide +kernel
theorem d_usedFrom_61 : decode prog_2_method_14_code 61 = .ok (.iload_n 2, 1) := by decide +kernel
theorem d_usedFrom_62 : decode prog_2_method_14_code 62 = .ok (.iconst 1, 1) := by decide +kernel
theorem d_usedFrom_63 : decode prog_2_method_14_code 63 = .ok (.aload_n 0, 1) := by decide +kernel
theorem d_usedFrom_64 : decode prog_2_method_14_code 64 = .ok (.getfield 15, 3) := by decide +kernel
theorem d_usedFrom_67 : decode prog_2_method_14_code 67 = .ok (.iload_n 1, 1) := by decide +kernel
theorem d_usedFrom_68 : decode prog_2_method_14_code 68 = .ok (.iaload, 1) := by decide +kernel
theorem d_usedFrom_69 : decode prog_2_method_14_code 69 = .ok (.ishl, 1) := by decide +kernel
theorem d_usedFrom_70 : decode prog_2_method_14_code 70 = .ok (.iconst (-1), 1) := by decide +kernel
theorem d_usedFrom_71 : decode prog_2_method_14_code 71 = .ok (.ixor, 1) := by decide +kernel
theorem d_usedFrom_72 : decode prog_2_method_14_code 72 = .ok (.iand, 1) := by decide +kernel
theorem d_usedFrom_73 : decode prog_2_method_14_code 73 = .ok (.iconst 1, 1) := by decide +kernel
theorem d_usedFrom_74 : decode prog_2_method_14_code 74 = .ok (.aload_n 0, 1) := by decide +kernel
theorem d_usedFrom_75 : decode prog_2_method_14_code 75 = .ok (.getfield 18, 3) := by decide +kernel
theorem d_usedFrom_78 : decode prog_2_method_14_code 78 = .ok (.iload_n 1, 1) := by decide +kernel
theorem d_usedFrom_79 : decode prog_2_method_14_code 79 = .ok (.iaload, 1) := by decide +kernel
theorem d_usedFrom_80 : decode prog_2_method_14_code 80 = .ok (.ishl, 1) := by decide +kernel
theorem d_usedFrom_81 : decode prog_2_method_14_code 81 = .ok (.ior, 1) := by decide +kernel
theorem d_usedFrom_82 : decode prog_2_method_14_code 82 = .ok (.ireturn, 1) := by decide +kernel
theorem d_usedFrom_83 : decode prog_2_method_14_code 83 = .ok (.iload_n 2, 1) := by decide +kernel
theorem d_usedFrom_84 : decode prog_2_method_14_code 84 = .ok (.iconst 1, 1) := by decide +kernel
theorem d_usedFrom_85 : decode prog_2_method_14_code 85 = .ok (.aload_n 0, 1) := by decide +kernel
theorem d_usedFrom_86 : decode prog_2_method_14_code 86 = .ok (.getfield 15, 3) := by decide +kernel
theorem d_usedFrom_89 : decode prog_2_method_14_code 89 = .ok (.iload_n 1, 1) := by decide +kernel
theorem d_usedFrom_90 : decode prog_2_method_14_code 90 = .ok (.iaload, 1) := by decide +kernel
theorem d_usedFrom_91 : decode prog_2_method_14_code 91 = .ok (.ishl, 1) := by decide +kernel
theorem d_usedFrom_92 : decode prog_2_method_14_code 92 = .ok (.ior, 1) := by decide +kernel
theorem d_usedFrom_93 : decode prog_2_method_14_code 93 = .ok (.ireturn, 1) := by decide +kernel
theorem d_usedFrom_94 : decode prog_2_method_14_code 94 = .ok (.iload_n 2, 1) := by decide +kernel
theorem d_usedFrom_95 : decode prog_2_method_14_code 95 = .ok (.ireturn, 1) := by decide +kernel
theorem d_borrowing_0 : decode prog_2_method_15_code 0 = .ok (.aload_n 0, 1) := by decide +kernel
theorem d_borrowing_1 : decode prog_2_method_15_code 1 = .ok (.iload_n 1, 1) := by decide +kernel
theorem d_borrowing_2 : decode prog_2_method_15_code 2 = .ok (.invokevirtual 38, 3) := by decide +kernel
theorem d_borrowing_5 : decode prog_2_method_15_code 5 = .ok (.ifCond .eq 14, 3) := by decide +kernel
theorem d_borrowing_8 : decode prog_2_method_15_code 8 = .ok (.iconst 1, 1) := by decide +kernel
theorem d_borrowing_9 : decode prog_2_method_15_code 9 = .ok (.aload_n 0, 1) := by decide +kernel
theorem d_borrowing_10 : decode prog_2_method_15_code 10 = .ok (.getfield 15, 3) := by decide +kernel
theorem d_borrowing_13 : decode prog_2_method_15_code 13 = .ok (.iload_n 1, 1) := by decide +kernel
theorem d_borrowing_14 : decode prog_2_method_15_code 14 = .ok (.iaload, 1) := by decide +kernel
theorem d_borrowing_15 : decode prog_2_method_15_code 15 = .ok (.ishl, 1) := by decide +kernel
theorem d_borrowing_16 : decode prog_2_method_15_code 16 = .ok (.goto 4, 3) := by decide +kernel
theorem d_borrowing_19 : decode prog_2_method_15_code 19 = .ok (.iconst 0, 1) := by decide +kernel
theorem d_borrowing_20 : decode prog_2_method_15_code 20 = .ok (.ireturn, 1) := by decide +kernel
theorem d_isChange_0 : decode prog_2_method_17_code 0 = .ok (.aload_n 0, 1) := by decide +kernel
theorem d_isChange_1 : decode prog_2_method_17_code 1 = .ok (.iload_n 1, 1) := by decide +kernel
theorem d_isChange_2 : decode prog_2_method_17_code 2 = .ok (.invokevirtual 34, 3) := by decide +kernel
theorem d_isChange_5 : decode prog_2_method_17_code 5 = .ok (.ifCond .eq 38, 3) := by decide +kernel
theorem d_isChange_8 : decode prog_2_method_17_code 8 = .ok (.aload_n 0, 1) := by decide +kernel
theorem d_isChange_9 : decode prog_2_method_17_code 9 = .ok (.getfield 9, 3) := by decide +kernel
theorem d_isChange_12 : decode prog_2_method_17_code 12 = .ok (.iload_n 1, 1) := by decide +kernel
theorem d_isChange_13 : decode prog_2_method_17_code 13 = .ok (.iaload, 1) := by decide +kernel
theorem d_isChange_14 : decode prog_2_method_17_code 14 = .ok (.bipush 6, 2) := by decide +kernel
theorem d_isChange_16 : decode prog_2_method_17_code 16 = .ok (.if_icmp .eq 23, 3) := by decide +kernel
theorem d_isChange_19 : decode prog_2_method_17_code 19 = .ok (.aload_n 0, 1) := by decide +kernel
theorem d_isChange_20 : decode prog_2_method_17_code 20 = .ok (.getfield 9, 3) := by decide +kernel
theorem d_isChange_23 : decode prog_2_method_17_code 23 = .ok (.iload_n 1, 1) := by decide +kernel
theorem d_isChange_24 : decode prog_2_method_17_code 24 = .ok (.iaload, 1) := by decide +kernel
theorem d_isChange_25 : decode prog_2_method_17_code 25 = .ok (.iconst 1, 1) := by decide +kernel
theorem d_isChange_26 : decode prog_2_method_17_code 26 = .ok (.if_icmp .ne 17, 3) := by decide +kernel
theorem d_isChange_29 : decode prog_2_method_17_code 29 = .ok (.aload_n 0, 1) := by decide +kernel
theorem d_isChange_30 : decode prog_2_method_17_code 30 = .ok (.getfield 21, 3) := by decide +kernel
theorem d_isChange_33 : decode prog_2_method_17_code 33 = .ok (.iload_n 1, 1) := by decide +kernel
theorem d_isChange_34 : decode prog_2_method_17_code 34 = .ok (.iaload, 1) := by decide +kernel
theorem d_isChange_35 : decode prog_2_method_17_code 35 = .ok (.iconst 1, 1) := by decide +kernel
theorem d_isChange_36 : decode prog_2_method_17_code 36 = .ok (.if_icmp .ne 7, 3) := by decide +kernel
theorem d_isChange_39 : decode prog_2_method_17_code 39 = .ok (.iconst 1, 1) := by decide +kernel
theorem d_isChange_40 : decode prog_2_method_17_code 40 = .ok (.goto 4, 3) := by decide +kernel
theorem d_isChange_43 : decode prog_2_method_17_code 43 = .ok (.iconst 0, 1) := by decide +kernel
theorem d_isChange_44 : decode prog_2_method_17_code 44 = .ok (.ireturn, 1) := by decide +kernel
theorem d_isLook_0 : decode prog_2_method_18_code 0 = .ok (.aload_n 0, 1) := by decide +kernel
theorem d_isLook_1 : decode prog_2_method_18_code 1 = .ok (.iload_n 1, 1) := by decide +kernel
theorem d_isLook_2 : decode prog_2_method_18_code 2 = .ok (.invokevirtual 34, 3) := by decide +kernel
theorem d_isLook_5 : decode prog_2_method_18_code 5 = .ok (.ifCond .eq 36, 3) := by decide +kernel
theorem d_isLook_8 : decode prog_2_method_18_code 8 = .ok (.aload_n 0, 1) := by decide +kernel
theorem d_isLook_9 : decode prog_2_method_18_code 9 = .ok (.getfield 9, 3) := by decide +kernel
theorem d_isLook_12 : decode prog_2_method_18_code 12 = .ok (.iload_n 1, 1) := by decide +kernel
theorem d_isLook_13 : decode prog_2_method_18_code 13 = .ok (.iaload, 1) := by decide +kernel
theorem d_isLook_14 : decode prog_2_method_18_code 14 = .ok (.iconst 5, 1) := by decide +kernel
theorem d_isLook_15 : decode prog_2_method_18_code 15 = .ok (.if_icmp .eq 22, 3) := by decide +kernel
theorem d_isLook_18 : decode prog_2_method_18_code 18 = .ok (.aload_n 0, 1) := by decide +kernel
theorem d_isLook_19 : decode prog_2_method_18_code 19 = .ok (.getfield 9, 3) := by decide +kernel
theorem d_isLook_22 : decode prog_2_method_18_code 22 = .ok (.iload_n 1, 1) := by decide +kernel
theorem d_isLook_23 : decode prog_2_method_18_code 23 = .ok (.iaload, 1) := by decide +kernel
theorem d_isLook_24 : decode prog_2_method_18_code 24 = .ok (.iconst 1, 1) := by decide +kernel
theorem d_isLook_25 : decode prog_2_method_18_code 25 = .ok (.if_icmp .ne 16, 3) := by decide +kernel
theorem d_isLook_28 : decode prog_2_method_18_code 28 = .ok (.aload_n 0, 1) := by decide +kernel
theorem d_isLook_29 : decode prog_2_method_18_code 29 = .ok (.getfield 21, 3) := by decide +kernel
theorem d_isLook_32 : decode prog_2_method_18_code 32 = .ok (.iload_n 1, 1) := by decide +kernel
theorem d_isLook_33 : decode prog_2_method_18_code 33 = .ok (.iaload, 1) := by decide +kernel
theorem d_isLook_34 : decode prog_2_method_18_code 34 = .ok (.ifCond .ne 7, 3) := by decide +kernel
theorem d_isLook_37 : decode prog_2_method_18_code 37 = .ok (.iconst 1, 1) := by decide +kernel
theorem d_isLook_38 : decode prog_2_method_18_code 38 = .ok (.goto 4, 3) := by decide +kernel
theorem d_isLook_41 : decode prog_2_method_18_code 41 = .ok (.iconst 0, 1) := by decide +kernel
theorem d_isLook_42 : decode prog_2_method_18_code 42 = .ok (.ireturn, 1) := by decide +kernel
theorem d_overlap_0 : decode prog_2_method_19_code 0 = .ok (.iload_n 0, 1) := by decide +kernel
theorem d_overlap_1 : decode prog_2_method_19_code 1 = .ok (.iload_n 1, 1) := by decide +kernel
theorem d_overlap_2 : decode prog_2_method_19_code 2 = .ok (.invokestatic 59, 3) := by decide +kernel
theorem d_overlap_5 : decode prog_2_method_19_code 5 = .ok (.istore_n 2, 1) := by decide +kernel
theorem d_overlap_6 : decode prog_2_method_19_code 6 = .ok (.iload_n 0, 1) := by decide +kernel
theorem d_overlap_7 : decode prog_2_method_19_code 7 = .ok (.iload_n 1, 1) := by decide +kernel
theorem d_overlap_8 : decode prog_2_method_19_code 8 = .ok (.invokestatic 65, 3) := by decide +kernel
theorem d_overlap_11 : decode prog_2_method_19_code 11 = .ok (.istore_n 3, 1) := by decide +kernel
theorem d_overlap_12 : decode prog_2_method_19_code 12 = .ok (.iconst 0, 1) := by decide +kernel
theorem d_overlap_13 : decode prog_2_method_19_code 13 = .ok (.istore 4, 2) := by decide +kernel
theorem d_overlap_15 : decode prog_2_method_19_code 15 = .ok (.iload 4, 2) := by decide +kernel
theorem d_overlap_17 : decode prog_2_method_19_code 17 = .ok (.iconst 4, 1) := by decide +kernel
theorem d_overlap_18 : decode prog_2_method_19_code 18 = .ok (.if_icmp .ge 19, 3) := by decide +kernel
theorem d_overlap_21 : decode prog_2_method_19_code 21 = .ok (.iload_n 3, 1) := by decide +kernel
theorem d_overlap_22 : decode prog_2_method_19_code 22 = .ok (.iload_n 2, 1) := by decide +kernel
theorem d_overlap_23 : decode prog_2_method_19_code 23 = .ok (.if_icmp .le 14, 3) := by decide +kernel
theorem d_overlap_26 : decode prog_2_method_19_code 26 = .ok (.iload_n 3, 1) := by decide +kernel
theorem d_overlap_27 : decode prog_2_method_19_code 27 = .ok (.bipush 10, 2) := by decide +kernel
theorem d_overlap_29 : decode prog_2_method_19_code 29 = .ok (.idiv, 1) := by decide +kernel
theorem d_overlap_30 : decode prog_2_method_19_code 30 = .ok (.istore_n 3, 1) := by decide +kernel
theorem d_overlap_31 : decode prog_2_method_19_code 31 = .ok (.iinc 4 1, 3) := by decide +kernel
theorem d_overlap_34 : decode prog_2_method_19_code 34 = .ok (.goto (-19), 3) := by decide +kernel
theorem d_overlap_37 : decode prog_2_method_19_code 37 = .ok (.iload_n 3, 1) := by decide +kernel
theorem d_overlap_38 : decode prog_2_method_19_code 38 = .ok (.iload_n 2, 1) := by decide +kernel
theorem d_overlap_39 : decode prog_2_method_19_code 39 = .ok (.if_icmp .ne 7, 3) := by decide +kernel
theorem d_overlap_42 : decode prog_2_method_19_code 42 = .ok (.iconst 1, 1) := by decide +kernel
theorem d_overlap_43 : decode prog_2_method_19_code 43 = .ok (.goto 4, 3) := by decide +kernel
theorem d_overlap_46 : decode prog_2_method_19_code 46 = .ok (.iconst 0, 1) := by decide +kernel
theorem d_overlap_47 : decode prog_2_method_19_code 47 = .ok (.ireturn, 1) := by decide +kernel
theorem d_touches_0 : decode prog_2_method_16_code 0 = .ok (.aload_n 0, 1) := by decide +kernel
theorem d_touches_1 : decode prog_2_method_16_code 1 = .ok (.iload_n 1, 1) := by decide +kernel
theorem d_touches_2 : decode prog_2_method_16_code 2 = .ok (.invokevirtual 34, 3) := by decide +kernel
theorem d_touches_5 : decode prog_2_method_16_code 5 = .ok (.ifCond .eq 11, 3) := by decide +kernel
theorem d_touches_8 : decode prog_2_method_16_code 8 = .ok (.aload_n 0, 1) := by decide +kernel
theorem d_touches_9 : decode prog_2_method_16_code 9 = .ok (.iload_n 2, 1) := by decide +kernel
theorem d_touches_10 : decode prog_2_method_16_code 10 = .ok (.invokevirtual 38, 3) := by decide +kernel
theorem d_touches_13 : decode prog_2_method_16_code 13 = .ok (.ifCond .ne 5, 3) := by decide +kernel
theorem d_touches_16 : decode prog_2_method_16_code 16 = .ok (.iconst 0, 1) := by decide +kernel
theorem d_touches_17 : decode prog_2_method_16_code 17 = .ok (.ireturn, 1) := by decide +kernel
theorem d_touches_18 : decode prog_2_method_16_code 18 = .ok (.aload_n 0, 1) := by decide +kernel
theorem d_touches_19 : decode prog_2_method_16_code 19 = .ok (.iload_n 1, 1) := by decide +kernel
theorem d_touches_20 : decode prog_2_method_16_code 20 = .ok (.invokevirtual 49, 3) := by decide +kernel
theorem d_touches_23 : decode prog_2_method_16_code 23 = .ok (.ifCond .ne 21, 3) := by decide +kernel
theorem d_touches_26 : decode prog_2_method_16_code 26 = .ok (.aload_n 0, 1) := by decide +kernel
theorem d_touches_27 : decode prog_2_method_16_code 27 = .ok (.iload_n 1, 1) := by decide +kernel
theorem d_touches_28 : decode prog_2_method_16_code 28 = .ok (.invokevirtual 52, 3) := by decide +kernel
theorem d_touches_31 : decode prog_2_method_16_code 31 = .ok (.ifCond .eq 17, 3) := by decide +kernel
theorem d_touches_34 : decode prog_2_method_16_code 34 = .ok (.aload_n 0, 1) := by decide +kernel
theorem d_touches_35 : decode prog_2_method_16_code 35 = .ok (.getfield 21, 3) := by decide +kernel
theorem d_touches_38 : decode prog_2_method_16_code 38 = .ok (.iload_n 2, 1) := by decide +kernel
theorem d_touches_39 : decode prog_2_method_16_code 39 = .ok (.iaload, 1) := by decide +kernel
theorem d_touches_40 : decode prog_2_method_16_code 40 = .ok (.iconst 1, 1) := by decide +kernel
theorem d_touches_41 : decode prog_2_method_16_code 41 = .ok (.if_icmp .ne 7, 3) := by decide +kernel
theorem d_touches_44 : decode prog_2_method_16_code 44 = .ok (.iconst 1, 1) := by decide +kernel
theorem d_touches_45 : decode prog_2_method_16_code 45 = .ok (.goto 4, 3) := by decide +kernel
theorem d_touches_48 : decode prog_2_method_16_code 48 = .ok (.iconst 0, 1) := by decide +kernel
theorem d_touches_49 : decode prog_2_method_16_code 49 = .ok (.istore_n 3, 1) := by decide +kernel
theorem d_touches_50 : decode prog_2_method_16_code 50 = .ok (.iload_n 3, 1) := by decide +kernel
theorem d_touches_51 : decode prog_2_method_16_code 51 = .ok (.ifCond .eq 25, 3) := by decide +kernel
theorem d_touches_54 : decode prog_2_method_16_code 54 = .ok (.aload_n 0, 1) := by decide +kernel
theorem d_touches_55 : decode prog_2_method_16_code 55 = .ok (.getfield 18, 3) := by decide +kernel
theorem d_touches_58 : decode prog_2_method_16_code 58 = .ok (.iload_n 1, 1) := by decide +kernel
theorem d_touches_59 : decode prog_2_method_16_code 59 = .ok (.iaload, 1) := by decide +kernel
theorem d_touches_60 : decode prog_2_method_16_code 60 = .ok (.aload_n 0, 1) := by decide +kernel
theorem d_touches_61 : decode prog_2_method_16_code 61 = .ok (.getfield 18, 3) := by decide +kernel
theorem d_touches_64 : decode prog_2_method_16_code 64 = .ok (.iload_n 2, 1) := by decide +kernel
theorem d_touches_65 : decode prog_2_method_16_code 65 = .ok (.iaload, 1) := by decide +kernel
theorem d_touches_66 : decode prog_2_method_16_code 66 = .ok (.invokestatic 55, 3) := by decide +kernel
theorem d_touches_69 : decode prog_2_method_16_code 69 = .ok (.ifCond .eq 7, 3) := by decide +kernel
theorem d_touches_72 : decode prog_2_method_16_code 72 = .ok (.iconst 1, 1) := by decide +kernel
theorem d_touches_73 : decode prog_2_method_16_code 73 = .ok (.goto 4, 3) := by decide +kernel
theorem d_touches_76 : decode prog_2_method_16_code 76 = .ok (.iconst 0, 1) := by decide +kernel
theorem d_touches_77 : decode prog_2_method_16_code 77 = .ok (.ireturn, 1) := by decide +kernel
end
section
def lf_withHolder (p0 : Int32) (p1 : Int32) (p2 : Int32) : Int32 := if p2 = 0 then p0 &&& (((1 : Int32) <<< (p1 &&& 31)) ^^^ (-1)) else p0 ||| ((1 : Int32) <<< (p1 &&& 31))
set_option maxHeartbeats 4000000 in
set_option maxRecDepth 100000 in
theorem lc_withHolder (l : Launch) (D : va_G) (cI cZ cJ : ClassId)  (p0 : Int32) (p1 : Int32) (p2 : Int32) (R : Int32) (h : lf_withHolder p0 p1 p2 = R) : Met l y_withHolder (Cond.code y_withHolder prog_2_method_13_code 4 (some .int) :: bgT) ({ frames := 0, cells := 0, slots := 0, locals := 0 }) (ld_PR D cI cZ cJ ([]) [.int p0, .int p1, .int p2]) (vp_Si (fun z => z = R)) 0 0 (fun _ => False) := by
  refine Met.ofW (cc := prog_2_method_13_code) (maxL := 4) (ret := (some .int)) (by decide) rfl ?_
  intro p e s m args below meth c s₁ B hml hv
  obtain ⟨rfl, hP, hK, hN⟩ := hv
  have hx := B.exec
  have hb := B.bytes
  have hr := B.returns
  have hg : ∀ w ∈ bgT, w.before _ s = true := fun w h => atoms_spec (ws := (Cond.code y_withHolder prog_2_method_13_code 4 (some .int) :: bgT)) B.pre w (List.mem_cons_of_mem _ h)
  have hown : s.vm.findClass "LoanDesk$Graph" = some m.cls := findClass_of_methodNamed B.named
  have hlocks := B.notSynchronized
  have hl := lv_entry ([.int p0, .int p1, .int p2]) (n := 4) (Nat.le_of_ble_eq_true rfl)
  rw [lg_entry_eq]
  generalize (lg_sl ([.int p0, .int p1, .int p2]) ++ List.replicate (4 - (lg_sl ([.int p0, .int p1, .int p2])).length) Slot.unset).toArray = ls at hl ⊢
  have hl : lv_has ls 4 [(0, .int p0), (1, .int p1), (2, .int p2)] := hl
  refine lv_iconst (v := 1) hx hb d_withHolder_0 (by decide) ?_
  refine lv_iload_n hx hb d_withHolder_1 rfl (lv_at hl 1 rfl) ?_
  refine lv_ishl hx hb d_withHolder_2 ?_
  refine lv_istore_n (lv' := [(3, .int ((1 : Int32) <<< (p1 &&& 31))), (0, .int p0), (1, .int p1), (2, .int p2)]) hx hb d_withHolder_3 rfl hl (by decide) rfl (fun ls hl => ?_)
  refine lv_iload_n hx hb d_withHolder_4 rfl (lv_at hl 3 rfl) ?_
  refine lv_if_eq (tgt := 14) hx hb d_withHolder_5 (by decide) (fun c_1 => ?_) (fun c_1 => ?_)
  · have h := (if_pos c_1).symm.trans h
    refine lv_iload_n hx hb d_withHolder_14 rfl (lv_at hl 1 rfl) ?_
    refine lv_iload_n hx hb d_withHolder_15 rfl (lv_at hl 0 rfl) ?_
    refine lv_iconst (v := (-1)) hx hb d_withHolder_16 (by decide) ?_
    refine lv_ixor hx hb d_withHolder_17 ?_
    refine lv_iand hx hb d_withHolder_18 ?_
    exact W.iret (v := p0 &&& (((1 : Int32) <<< (p1 &&& 31)) ^^^ (-1))) hx hb hr (fun t ht hW => ⟨_, rfl, h, ht⟩) (fun _ q => by cases q) d_withHolder_19
  · have h := (if_neg c_1).symm.trans h
    refine lv_iload_n hx hb d_withHolder_8 rfl (lv_at hl 1 rfl) ?_
    refine lv_iload_n hx hb d_withHolder_9 rfl (lv_at hl 0 rfl) ?_
    refine lv_ior hx hb d_withHolder_10 ?_
    refine lv_goto (tgt := 19) hx hb d_withHolder_11 (by decide) ?_
    exact W.iret (v := p0 ||| ((1 : Int32) <<< (p1 &&& 31))) hx hb hr (fun t ht hW => ⟨_, rfl, h, ht⟩) (fun _ q => by cases q) d_withHolder_19
def lf_heldBehind (G : ld_gT) (p0 : Int32) (p1 : Int32) (p2 : Int32) : Int32 := ld_lt (lf_isPoint G p0) (fun r_1 => if r_1 = 0 then 0 else if (G.1 p0.toNatClampNeg) = 1 then (if p0 = p1 then ld_lt (lf_withHolder p2 (G.2.1 p0.toNatClampNeg) 1) (fun r_6 => r_6) else ld_lt (lf_withHolder p2 (G.2.1 p0.toNatClampNeg) 0) (fun r_5 => r_5)) else (if (G.1 p0.toNatClampNeg) = 2 then (if (p2 &&& ((1 : Int32) <<< ((G.2.2.1 p0.toNatClampNeg) &&& 31))) = 0 then ld_lt (lf_withHolder p2 (G.2.1 p0.toNatClampNeg) 0) (fun r_9 => r_9) else ld_lt (lf_withHolder p2 (G.2.1 p0.toNatClampNeg) 1) (fun r_10 => r_10)) else (if (G.1 p0.toNatClampNeg) = 3 then ld_lt (lf_withHolder p2 (G.2.1 p0.toNatClampNeg) 0) (fun r_12 => r_12) else p2)))
set_option maxHeartbeats 4000000 in
set_option maxRecDepth 100000 in
theorem lc_heldBehind (l : Launch) (D : va_G) (cI cZ cJ : ClassId) (a : Nat → Nat) (G : ld_gT) (p0 : Int32) (p1 : Int32) (p2 : Int32) (R : Int32) (h : lf_heldBehind G p0 p1 p2 = R) : Met l y_heldBehind (Cond.code y_heldBehind prog_2_method_12_code 4 (some .int) :: bgT) ({ frames := 1, cells := 0, slots := 0, locals := 23 }) (ld_PR D cI cZ cJ (ld_gW a cI G) [.ref (a 1), .int p0, .int p1, .int p2]) (vp_Si (fun z => z = R)) 0 0 (fun _ => False) := by
  refine Met.ofW (cc := prog_2_method_12_code) (maxL := 4) (ret := (some .int)) (by decide) rfl ?_
  intro p e s m args below meth c s₁ B hml hv
  obtain ⟨rfl, hP, hK, hN⟩ := hv
  have hx := B.exec
  have hb := B.bytes
  have hr := B.returns
  have hg : ∀ w ∈ bgT, w.before _ s = true := fun w h => atoms_spec (ws := (Cond.code y_heldBehind prog_2_method_12_code 4 (some .int) :: bgT)) B.pre w (List.mem_cons_of_mem _ h)
  have hown : s.vm.findClass "LoanDesk$Graph" = some m.cls := findClass_of_methodNamed B.named
  have hlocks := B.notSynchronized
  have hl := lv_entry ([.ref (a 1), .int p0, .int p1, .int p2]) (n := 4) (Nat.le_of_ble_eq_true rfl)
  rw [lg_entry_eq]
  generalize (lg_sl ([.ref (a 1), .int p0, .int p1, .int p2]) ++ List.replicate (4 - (lg_sl ([.ref (a 1), .int p0, .int p1, .int p2])).length) Slot.unset).toArray = ls at hl ⊢
  have hl : lv_has ls 4 [(0, .ref (a 1)), (1, .int p0), (2, .int p1), (3, .int p2)] := hl
  refine lv_aload_n hx hb d_heldBehind_0 rfl (lv_at hl 0 rfl) ?_
  refine lv_iload_n hx hb d_heldBehind_1 rfl (lv_at hl 1 rfl) ?_
  obtain ⟨r_1, e_1, h⟩ := ld_nm h
  refine ld_rd (W.runV (As := [.int p0]) (rest := []) ⟨hx, hb, hml, hown, hg⟩ (lc_isPoint l D cI cZ cJ a G p0 r_1 e_1) ⟨callB_of 1 hg (ld_gd k_155) rfl rfl rfl (hg _ k_24) (hg _ k_166) hd_isPoint ⟨Nat.le_of_ble_eq_true rfl, Nat.le_of_ble_eq_true rfl⟩, hg _ k_153, hg _ k_154⟩ (ld_preRV hP hK hN [0, 1, 2, 3, 4, 5, 6] rfl 0 0 rfl rfl) rfl rfl hl.1 rfl (lv_room (Nat.le_of_ble_eq_true rfl)) d_heldBehind_2 ⟨Nat.zero_le _, Nat.zero_le _⟩) ?_
  refine lv_if_ne (tgt := 10) hx hb d_heldBehind_5 (by decide) (fun c_2 => ?_) (fun c_2 => ?_)
  · have h := (if_neg c_2).symm.trans h
    refine lv_aload_n hx hb d_heldBehind_10 rfl (lv_at hl 0 rfl) ?_
    refine va_get (D := D) (ci := 0) (v := .ref (a 2)) (C := "LoanDesk$Graph") (T := T_Graph) (N := 7) hx hb hg u_Graph hown hK hP 0 rfl rfl 0 (by decide) (hg _ k_46) (fun _ h9 => h9) rfl d_heldBehind_11 ?_
    refine lv_iload_n hx hb d_heldBehind_14 rfl (lv_at hl 1 rfl) ?_
    refine va_iald hx hb hK hP 1 0 rfl rfl (i := p0) (ld_pt e_1 c_2) d_heldBehind_15 ?_
    by_cases c_3 : (G.1 p0.toNatClampNeg) = 1
    · have h := (if_pos c_3).symm.trans h
      refine lv_tableIn (tgt := 44) hx hb d_heldBehind_16 (by rw [c_3]; decide) (by rw [c_3]; decide) (by rw [c_3]; rfl) (by decide) ?_
      refine lv_iload_n hx hb d_heldBehind_44 rfl (lv_at hl 3 rfl) ?_
      refine lv_aload_n hx hb d_heldBehind_45 rfl (lv_at hl 0 rfl) ?_
      refine va_get (D := D) (ci := 0) (v := .ref (a 3)) (C := "LoanDesk$Graph") (T := T_Graph) (N := 7) hx hb hg u_Graph hown hK hP 0 rfl rfl 1 (by decide) (hg _ k_47) (fun _ h9 => h9) rfl d_heldBehind_46 ?_
      refine lv_iload_n hx hb d_heldBehind_49 rfl (lv_at hl 1 rfl) ?_
      refine va_iald hx hb hK hP 2 0 rfl rfl (i := p0) (ld_pt e_1 c_2) d_heldBehind_50 ?_
      refine lv_iload_n hx hb d_heldBehind_51 rfl (lv_at hl 1 rfl) ?_
      refine lv_iload_n hx hb d_heldBehind_52 rfl (lv_at hl 2 rfl) ?_
      refine lv_icmp_ne (tgt := 60) hx hb d_heldBehind_53 (by decide) (fun c_4 => ?_) (fun c_4 => ?_)
      · have h := (if_neg c_4).symm.trans h
        refine lv_iconst (v := 0) hx hb d_heldBehind_60 (by decide) ?_
        obtain ⟨r_5, e_5, h⟩ := ld_nm h
        refine ld_rd (W.runS (As := [.int p2, .int (G.2.1 p0.toNatClampNeg), .int 0]) (rest := []) ⟨hx, hb, hml, hown, hg⟩ (lc_withHolder l D cI cZ cJ p2 (G.2.1 p0.toNatClampNeg) 0 r_5 e_5) ⟨callB_of 3 hg (ld_gd k_260) rfl rfl rfl (hg _ k_24) (hg _ k_258) hd_withHolder ⟨Nat.le_of_ble_eq_true rfl, Nat.le_of_ble_eq_true rfl⟩, hg _ k_259⟩ (ld_preR hP hK hN [] rfl) rfl rfl hl.1 rfl (lv_room (Nat.le_of_ble_eq_true rfl)) d_heldBehind_61 ⟨Nat.zero_le _, Nat.zero_le _⟩) ?_
        exact W.iret (v := r_5) hx hb hr (fun t ht hW => ⟨_, rfl, h, ht⟩) (fun _ q => by cases q) d_heldBehind_64
      · have h := (if_pos c_4).symm.trans h
        refine lv_iconst (v := 1) hx hb d_heldBehind_56 (by decide) ?_
        refine lv_goto (tgt := 61) hx hb d_heldBehind_57 (by decide) ?_
        obtain ⟨r_6, e_6, h⟩ := ld_nm h
        refine ld_rd (W.runS (As := [.int p2, .int (G.2.1 p0.toNatClampNeg), .int 1]) (rest := []) ⟨hx, hb, hml, hown, hg⟩ (lc_withHolder l D cI cZ cJ p2 (G.2.1 p0.toNatClampNeg) 1 r_6 e_6) ⟨callB_of 3 hg (ld_gd k_260) rfl rfl rfl (hg _ k_24) (hg _ k_258) hd_withHolder ⟨Nat.le_of_ble_eq_true rfl, Nat.le_of_ble_eq_true rfl⟩, hg _ k_259⟩ (ld_preR hP hK hN [] rfl) rfl rfl hl.1 rfl (lv_room (Nat.le_of_ble_eq_true rfl)) d_heldBehind_61 ⟨Nat.zero_le _, Nat.zero_le _⟩) ?_
        exact W.iret (v := r_6) hx hb hr (fun t ht hW => ⟨_, rfl, h, ht⟩) (fun _ q => by cases q) d_heldBehind_64
    have h := (if_neg c_3).symm.trans h
    by_cases c_7 : (G.1 p0.toNatClampNeg) = 2
    · have h := (if_pos c_7).symm.trans h
      refine lv_tableIn (tgt := 65) hx hb d_heldBehind_16 (by rw [c_7]; decide) (by rw [c_7]; decide) (by rw [c_7]; rfl) (by decide) ?_
      refine lv_iload_n hx hb d_heldBehind_65 rfl (lv_at hl 3 rfl) ?_
      refine lv_aload_n hx hb d_heldBehind_66 rfl (lv_at hl 0 rfl) ?_
      refine va_get (D := D) (ci := 0) (v := .ref (a 3)) (C := "LoanDesk$Graph") (T := T_Graph) (N := 7) hx hb hg u_Graph hown hK hP 0 rfl rfl 1 (by decide) (hg _ k_47) (fun _ h9 => h9) rfl d_heldBehind_67 ?_
      refine lv_iload_n hx hb d_heldBehind_70 rfl (lv_at hl 1 rfl) ?_
      refine va_iald hx hb hK hP 2 0 rfl rfl (i := p0) (ld_pt e_1 c_2) d_heldBehind_71 ?_
      refine lv_iload_n hx hb d_heldBehind_72 rfl (lv_at hl 3 rfl) ?_
      refine lv_iconst (v := 1) hx hb d_heldBehind_73 (by decide) ?_
      refine lv_aload_n hx hb d_heldBehind_74 rfl (lv_at hl 0 rfl) ?_
      refine va_get (D := D) (ci := 0) (v := .ref (a 4)) (C := "LoanDesk$Graph") (T := T_Graph) (N := 7) hx hb hg u_Graph hown hK hP 0 rfl rfl 2 (by decide) (hg _ k_48) (fun _ h9 => h9) rfl d_heldBehind_75 ?_
      refine lv_iload_n hx hb d_heldBehind_78 rfl (lv_at hl 1 rfl) ?_
      refine va_iald hx hb hK hP 3 0 rfl rfl (i := p0) (ld_pt e_1 c_2) d_heldBehind_79 ?_
      refine lv_ishl hx hb d_heldBehind_80 ?_
      refine lv_iand hx hb d_heldBehind_81 ?_
      refine lv_if_eq (tgt := 89) hx hb d_heldBehind_82 (by decide) (fun c_8 => ?_) (fun c_8 => ?_)
      · have h := (if_pos c_8).symm.trans h
        refine lv_iconst (v := 0) hx hb d_heldBehind_89 (by decide) ?_
        obtain ⟨r_9, e_9, h⟩ := ld_nm h
        refine ld_rd (W.runS (As := [.int p2, .int (G.2.1 p0.toNatClampNeg), .int 0]) (rest := []) ⟨hx, hb, hml, hown, hg⟩ (lc_withHolder l D cI cZ cJ p2 (G.2.1 p0.toNatClampNeg) 0 r_9 e_9) ⟨callB_of 3 hg (ld_gd k_260) rfl rfl rfl (hg _ k_24) (hg _ k_258) hd_withHolder ⟨Nat.le_of_ble_eq_true rfl, Nat.le_of_ble_eq_true rfl⟩, hg _ k_259⟩ (ld_preR hP hK hN [] rfl) rfl rfl hl.1 rfl (lv_room (Nat.le_of_ble_eq_true rfl)) d_heldBehind_90 ⟨Nat.zero_le _, Nat.zero_le _⟩) ?_
        exact W.iret (v := r_9) hx hb hr (fun t ht hW => ⟨_, rfl, h, ht⟩) (fun _ q => by cases q) d_heldBehind_93
      · have h := (if_neg c_8).symm.trans h
        refine lv_iconst (v := 1) hx hb d_heldBehind_85 (by decide) ?_
        refine lv_goto (tgt := 90) hx hb d_heldBehind_86 (by decide) ?_
        obtain ⟨r_10, e_10, h⟩ := ld_nm h
        refine ld_rd (W.runS (As := [.int p2, .int (G.2.1 p0.toNatClampNeg), .int 1]) (rest := []) ⟨hx, hb, hml, hown, hg⟩ (lc_withHolder l D cI cZ cJ p2 (G.2.1 p0.toNatClampNeg) 1 r_10 e_10) ⟨callB_of 3 hg (ld_gd k_260) rfl rfl rfl (hg _ k_24) (hg _ k_258) hd_withHolder ⟨Nat.le_of_ble_eq_true rfl, Nat.le_of_ble_eq_true rfl⟩, hg _ k_259⟩ (ld_preR hP hK hN [] rfl) rfl rfl hl.1 rfl (lv_room (Nat.le_of_ble_eq_true rfl)) d_heldBehind_90 ⟨Nat.zero_le _, Nat.zero_le _⟩) ?_
        exact W.iret (v := r_10) hx hb hr (fun t ht hW => ⟨_, rfl, h, ht⟩) (fun _ q => by cases q) d_heldBehind_93
    have h := (if_neg c_7).symm.trans h
    by_cases c_11 : (G.1 p0.toNatClampNeg) = 3
    · have h := (if_pos c_11).symm.trans h
      refine lv_tableIn (tgt := 94) hx hb d_heldBehind_16 (by rw [c_11]; decide) (by rw [c_11]; decide) (by rw [c_11]; rfl) (by decide) ?_
      refine lv_iload_n hx hb d_heldBehind_94 rfl (lv_at hl 3 rfl) ?_
      refine lv_aload_n hx hb d_heldBehind_95 rfl (lv_at hl 0 rfl) ?_
      refine va_get (D := D) (ci := 0) (v := .ref (a 3)) (C := "LoanDesk$Graph") (T := T_Graph) (N := 7) hx hb hg u_Graph hown hK hP 0 rfl rfl 1 (by decide) (hg _ k_47) (fun _ h9 => h9) rfl d_heldBehind_96 ?_
      refine lv_iload_n hx hb d_heldBehind_99 rfl (lv_at hl 1 rfl) ?_
      refine va_iald hx hb hK hP 2 0 rfl rfl (i := p0) (ld_pt e_1 c_2) d_heldBehind_100 ?_
      refine lv_iconst (v := 0) hx hb d_heldBehind_101 (by decide) ?_
      obtain ⟨r_12, e_12, h⟩ := ld_nm h
      refine ld_rd (W.runS (As := [.int p2, .int (G.2.1 p0.toNatClampNeg), .int 0]) (rest := []) ⟨hx, hb, hml, hown, hg⟩ (lc_withHolder l D cI cZ cJ p2 (G.2.1 p0.toNatClampNeg) 0 r_12 e_12) ⟨callB_of 3 hg (ld_gd k_260) rfl rfl rfl (hg _ k_24) (hg _ k_258) hd_withHolder ⟨Nat.le_of_ble_eq_true rfl, Nat.le_of_ble_eq_true rfl⟩, hg _ k_259⟩ (ld_preR hP hK hN [] rfl) rfl rfl hl.1 rfl (lv_room (Nat.le_of_ble_eq_true rfl)) d_heldBehind_102 ⟨Nat.zero_le _, Nat.zero_le _⟩) ?_
      exact W.iret (v := r_12) hx hb hr (fun t ht hW => ⟨_, rfl, h, ht⟩) (fun _ q => by cases q) d_heldBehind_105
    have h := (if_neg c_11).symm.trans h
    refine lv_tableOut (tgt := 106) hx hb d_heldBehind_16 (by have e_c_3 := lv_neT c_3 (a := 1) (by decide); have e_c_7 := lv_neT c_7 (a := 2) (by decide); have e_c_11 := lv_neT c_11 (a := 3) (by decide); omega) (by decide) ?_
    refine lv_iload_n hx hb d_heldBehind_106 rfl (lv_at hl 3 rfl) ?_
    exact W.iret (v := p2) hx hb hr (fun t ht hW => ⟨_, rfl, h, ht⟩) (fun _ q => by cases q) d_heldBehind_107
  · have h := (if_pos c_2).symm.trans h
    refine lv_iconst (v := 0) hx hb d_heldBehind_8 (by decide) ?_
    exact W.iret (v := 0) hx hb hr (fun t ht hW => ⟨_, rfl, h, ht⟩) (fun _ q => by cases q) d_heldBehind_9
def lf_usedFrom (G : ld_gT) (p0 : Int32) (p1 : Int32) : Int32 := ld_lt (lf_isPoint G p0) (fun r_1 => if r_1 = 0 then 0 else if (G.1 p0.toNatClampNeg) = 1 then (p1 &&& (((1 : Int32) <<< ((G.2.1 p0.toNatClampNeg) &&& 31)) ^^^ (-1))) else (if (G.1 p0.toNatClampNeg) = 2 then ((p1 &&& (((1 : Int32) <<< ((G.2.1 p0.toNatClampNeg) &&& 31)) ^^^ (-1))) ||| ((1 : Int32) <<< ((G.2.2.1 p0.toNatClampNeg) &&& 31))) else (if (G.1 p0.toNatClampNeg) = 3 then (p1 &&& (((1 : Int32) <<< ((G.2.1 p0.toNatClampNeg) &&& 31)) ^^^ (-1))) else (if (G.1 p0.toNatClampNeg) = 4 then p1 ||| ((1 : Int32) <<< ((G.2.1 p0.toNatClampNeg) &&& 31)) else p1))))
set_option maxHeartbeats 4000000 in
set_option maxRecDepth 100000 in
theorem lc_usedFrom (l : Launch) (D : va_G) (cI cZ cJ : ClassId) (a : Nat → Nat) (G : ld_gT) (p0 : Int32) (p1 : Int32) (R : Int32) (h : lf_usedFrom G p0 p1 = R) : Met l y_usedFrom (Cond.code y_usedFrom prog_2_method_14_code 3 (some .int) :: bgT) ({ frames := 1, cells := 0, slots := 0, locals := 21 }) (ld_PR D cI cZ cJ (ld_gW a cI G) [.ref (a 1), .int p0, .int p1]) (vp_Si (fun z => z = R)) 0 0 (fun _ => False) := by
  refine Met.ofW (cc := prog_2_method_14_code) (maxL := 3) (ret := (some .int)) (by decide) rfl ?_
  intro p e s m args below meth c s₁ B hml hv
  obtain ⟨rfl, hP, hK, hN⟩ := hv
  have hx := B.exec
  have hb := B.bytes
  have hr := B.returns
  have hg : ∀ w ∈ bgT, w.before _ s = true := fun w h => atoms_spec (ws := (Cond.code y_usedFrom prog_2_method_14_code 3 (some .int) :: bgT)) B.pre w (List.mem_cons_of_mem _ h)
  have hown : s.vm.findClass "LoanDesk$Graph" = some m.cls := findClass_of_methodNamed B.named
  have hlocks := B.notSynchronized
  have hl := lv_entry ([.ref (a 1), .int p0, .int p1]) (n := 3) (Nat.le_of_ble_eq_true rfl)
  rw [lg_entry_eq]
  generalize (lg_sl ([.ref (a 1), .int p0, .int p1]) ++ List.replicate (3 - (lg_sl ([.ref (a 1), .int p0, .int p1])).length) Slot.unset).toArray = ls at hl ⊢
  have hl : lv_has ls 3 [(0, .ref (a 1)), (1, .int p0), (2, .int p1)] := hl
  refine lv_aload_n hx hb d_usedFrom_0 rfl (lv_at hl 0 rfl) ?_
  refine lv_iload_n hx hb d_usedFrom_1 rfl (lv_at hl 1 rfl) ?_
  obtain ⟨r_1, e_1, h⟩ := ld_nm h
  refine ld_rd (W.runV (As := [.int p0]) (rest := []) ⟨hx, hb, hml, hown, hg⟩ (lc_isPoint l D cI cZ cJ a G p0 r_1 e_1) ⟨callB_of 1 hg (ld_gd k_155) rfl rfl rfl (hg _ k_24) (hg _ k_166) hd_isPoint ⟨Nat.le_of_ble_eq_true rfl, Nat.le_of_ble_eq_true rfl⟩, hg _ k_153, hg _ k_154⟩ (ld_preRV hP hK hN [0, 1, 2, 3, 4, 5, 6] rfl 0 0 rfl rfl) rfl rfl hl.1 rfl (lv_room (Nat.le_of_ble_eq_true rfl)) d_usedFrom_2 ⟨Nat.zero_le _, Nat.zero_le _⟩) ?_
  refine lv_if_ne (tgt := 10) hx hb d_usedFrom_5 (by decide) (fun c_2 => ?_) (fun c_2 => ?_)
  · have h := (if_neg c_2).symm.trans h
    refine lv_aload_n hx hb d_usedFrom_10 rfl (lv_at hl 0 rfl) ?_
    refine va_get (D := D) (ci := 0) (v := .ref (a 2)) (C := "LoanDesk$Graph") (T := T_Graph) (N := 7) hx hb hg u_Graph hown hK hP 0 rfl rfl 0 (by decide) (hg _ k_46) (fun _ h9 => h9) rfl d_usedFrom_11 ?_
    refine lv_iload_n hx hb d_usedFrom_14 rfl (lv_at hl 1 rfl) ?_
    refine va_iald hx hb hK hP 1 0 rfl rfl (i := p0) (ld_pt e_1 c_2) d_usedFrom_15 ?_
    by_cases c_3 : (G.1 p0.toNatClampNeg) = 1
    · have h := (if_pos c_3).symm.trans h
      refine lv_tableIn (tgt := 48) hx hb d_usedFrom_16 (by rw [c_3]; decide) (by rw [c_3]; decide) (by rw [c_3]; rfl) (by decide) ?_
      refine lv_iload_n hx hb d_usedFrom_48 rfl (lv_at hl 2 rfl) ?_
      refine lv_iconst (v := 1) hx hb d_usedFrom_49 (by decide) ?_
      refine lv_aload_n hx hb d_usedFrom_50 rfl (lv_at hl 0 rfl) ?_
      refine va_get (D := D) (ci := 0) (v := .ref (a 3)) (C := "LoanDesk$Graph") (T := T_Graph) (N := 7) hx hb hg u_Graph hown hK hP 0 rfl rfl 1 (by decide) (hg _ k_47) (fun _ h9 => h9) rfl d_usedFrom_51 ?_
      refine lv_iload_n hx hb d_usedFrom_54 rfl (lv_at hl 1 rfl) ?_
      refine va_iald hx hb hK hP 2 0 rfl rfl (i := p0) (ld_pt e_1 c_2) d_usedFrom_55 ?_
      refine lv_ishl hx hb d_usedFrom_56 ?_
      refine lv_iconst (v := (-1)) hx hb d_usedFrom_57 (by decide) ?_
      refine lv_ixor hx hb d_usedFrom_58 ?_
      refine lv_iand hx hb d_usedFrom_59 ?_
      exact W.iret (v := p1 &&& (((1 : Int32) <<< ((G.2.1 p0.toNatClampNeg) &&& 31)) ^^^ (-1))) hx hb hr (fun t ht hW => ⟨_, rfl, h, ht⟩) (fun _ q => by cases q) d_usedFrom_60
    have h := (if_neg c_3).symm.trans h
    by_cases c_4 : (G.1 p0.toNatClampNeg) = 2
    · have h := (if_pos c_4).symm.trans h
      refine lv_tableIn (tgt := 61) hx hb d_usedFrom_16 (by rw [c_4]; decide) (by rw [c_4]; decide) (by rw [c_4]; rfl) (by decide) ?_
      refine lv_iload_n hx hb d_usedFrom_61 rfl (lv_at hl 2 rfl) ?_
      refine lv_iconst (v := 1) hx hb d_usedFrom_62 (by decide) ?_
      refine lv_aload_n hx hb d_usedFrom_63 rfl (lv_at hl 0 rfl) ?_
      refine va_get (D := D) (ci := 0) (v := .ref (a 3)) (C := "LoanDesk$Graph") (T := T_Graph) (N := 7) hx hb hg u_Graph hown hK hP 0 rfl rfl 1 (by decide) (hg _ k_47) (fun _ h9 => h9) rfl d_usedFrom_64 ?_
      refine lv_iload_n hx hb d_usedFrom_67 rfl (lv_at hl 1 rfl) ?_
      refine va_iald hx hb hK hP 2 0 rfl rfl (i := p0) (ld_pt e_1 c_2) d_usedFrom_68 ?_
      refine lv_ishl hx hb d_usedFrom_69 ?_
      refine lv_iconst (v := (-1)) hx hb d_usedFrom_70 (by decide) ?_
      refine lv_ixor hx hb d_usedFrom_71 ?_
      refine lv_iand hx hb d_usedFrom_72 ?_
      refine lv_iconst (v := 1) hx hb d_usedFrom_73 (by decide) ?_
      refine lv_aload_n hx hb d_usedFrom_74 rfl (lv_at hl 0 rfl) ?_
      refine va_get (D := D) (ci := 0) (v := .ref (a 4)) (C := "LoanDesk$Graph") (T := T_Graph) (N := 7) hx hb hg u_Graph hown hK hP 0 rfl rfl 2 (by decide) (hg _ k_48) (fun _ h9 => h9) rfl d_usedFrom_75 ?_
      refine lv_iload_n hx hb d_usedFrom_78 rfl (lv_at hl 1 rfl) ?_
      refine va_iald hx hb hK hP 3 0 rfl rfl (i := p0) (ld_pt e_1 c_2) d_usedFrom_79 ?_
      refine lv_ishl hx hb d_usedFrom_80 ?_
      refine lv_ior hx hb d_usedFrom_81 ?_
      exact W.iret (v := (p1 &&& (((1 : Int32) <<< ((G.2.1 p0.toNatClampNeg) &&& 31)) ^^^ (-1))) ||| ((1 : Int32) <<< ((G.2.2.1 p0.toNatClampNeg) &&& 31))) hx hb hr (fun t ht hW => ⟨_, rfl, h, ht⟩) (fun _ q => by cases q) d_usedFrom_82
    have h := (if_neg c_4).symm.trans h
    by_cases c_5 : (G.1 p0.toNatClampNeg) = 3
    · have h := (if_pos c_5).symm.trans h
      refine lv_tableIn (tgt := 48) hx hb d_usedFrom_16 (by rw [c_5]; decide) (by rw [c_5]; decide) (by rw [c_5]; rfl) (by decide) ?_
      refine lv_iload_n hx hb d_usedFrom_48 rfl (lv_at hl 2 rfl) ?_
      refine lv_iconst (v := 1) hx hb d_usedFrom_49 (by decide) ?_
      refine lv_aload_n hx hb d_usedFrom_50 rfl (lv_at hl 0 rfl) ?_
      refine va_get (D := D) (ci := 0) (v := .ref (a 3)) (C := "LoanDesk$Graph") (T := T_Graph) (N := 7) hx hb hg u_Graph hown hK hP 0 rfl rfl 1 (by decide) (hg _ k_47) (fun _ h9 => h9) rfl d_usedFrom_51 ?_
      refine lv_iload_n hx hb d_usedFrom_54 rfl (lv_at hl 1 rfl) ?_
      refine va_iald hx hb hK hP 2 0 rfl rfl (i := p0) (ld_pt e_1 c_2) d_usedFrom_55 ?_
      refine lv_ishl hx hb d_usedFrom_56 ?_
      refine lv_iconst (v := (-1)) hx hb d_usedFrom_57 (by decide) ?_
      refine lv_ixor hx hb d_usedFrom_58 ?_
      refine lv_iand hx hb d_usedFrom_59 ?_
      exact W.iret (v := p1 &&& (((1 : Int32) <<< ((G.2.1 p0.toNatClampNeg) &&& 31)) ^^^ (-1))) hx hb hr (fun t ht hW => ⟨_, rfl, h, ht⟩) (fun _ q => by cases q) d_usedFrom_60
    have h := (if_neg c_5).symm.trans h
    by_cases c_6 : (G.1 p0.toNatClampNeg) = 4
    · have h := (if_pos c_6).symm.trans h
      refine lv_tableIn (tgt := 83) hx hb d_usedFrom_16 (by rw [c_6]; decide) (by rw [c_6]; decide) (by rw [c_6]; rfl) (by decide) ?_
      refine lv_iload_n hx hb d_usedFrom_83 rfl (lv_at hl 2 rfl) ?_
      refine lv_iconst (v := 1) hx hb d_usedFrom_84 (by decide) ?_
      refine lv_aload_n hx hb d_usedFrom_85 rfl (lv_at hl 0 rfl) ?_
      refine va_get (D := D) (ci := 0) (v := .ref (a 3)) (C := "LoanDesk$Graph") (T := T_Graph) (N := 7) hx hb hg u_Graph hown hK hP 0 rfl rfl 1 (by decide) (hg _ k_47) (fun _ h9 => h9) rfl d_usedFrom_86 ?_
      refine lv_iload_n hx hb d_usedFrom_89 rfl (lv_at hl 1 rfl) ?_
      refine va_iald hx hb hK hP 2 0 rfl rfl (i := p0) (ld_pt e_1 c_2) d_usedFrom_90 ?_
      refine lv_ishl hx hb d_usedFrom_91 ?_
      refine lv_ior hx hb d_usedFrom_92 ?_
      exact W.iret (v := p1 ||| ((1 : Int32) <<< ((G.2.1 p0.toNatClampNeg) &&& 31))) hx hb hr (fun t ht hW => ⟨_, rfl, h, ht⟩) (fun _ q => by cases q) d_usedFrom_93
    have h := (if_neg c_6).symm.trans h
    refine lv_tableOut (tgt := 94) hx hb d_usedFrom_16 (by have e_c_3 := lv_neT c_3 (a := 1) (by decide); have e_c_4 := lv_neT c_4 (a := 2) (by decide); have e_c_5 := lv_neT c_5 (a := 3) (by decide); have e_c_6 := lv_neT c_6 (a := 4) (by decide); omega) (by decide) ?_
    refine lv_iload_n hx hb d_usedFrom_94 rfl (lv_at hl 2 rfl) ?_
    exact W.iret (v := p1) hx hb hr (fun t ht hW => ⟨_, rfl, h, ht⟩) (fun _ q => by cases q) d_usedFrom_95
  · have h := (if_pos c_2).symm.trans h
    refine lv_iconst (v := 0) hx hb d_usedFrom_8 (by decide) ?_
    exact W.iret (v := 0) hx hb hr (fun t ht hW => ⟨_, rfl, h, ht⟩) (fun _ q => by cases q) d_usedFrom_9
def lf_borrowing (G : ld_gT) (p0 : Int32) : Int32 := ld_lt (lf_isLoan G p0) (fun r_1 => if r_1 = 0 then 0 else (1 : Int32) <<< ((G.2.1 p0.toNatClampNeg) &&& 31))
set_option maxHeartbeats 4000000 in
set_option maxRecDepth 100000 in
theorem lc_borrowing (l : Launch) (D : va_G) (cI cZ cJ : ClassId) (a : Nat → Nat) (G : ld_gT) (p0 : Int32) (R : Int32) (h : lf_borrowing G p0 = R) : Met l y_borrowing (Cond.code y_borrowing prog_2_method_15_code 2 (some .int) :: bgT) ({ frames := 2, cells := 0, slots := 0, locals := 42 }) (ld_PR D cI cZ cJ (ld_gW a cI G) [.ref (a 1), .int p0]) (vp_Si (fun z => z = R)) 0 0 (fun _ => False) := by
  refine Met.ofW (cc := prog_2_method_15_code) (maxL := 2) (ret := (some .int)) (by decide) rfl ?_
  intro p e s m args below meth c s₁ B hml hv
  obtain ⟨rfl, hP, hK, hN⟩ := hv
  have hx := B.exec
  have hb := B.bytes
  have hr := B.returns
  have hg : ∀ w ∈ bgT, w.before _ s = true := fun w h => atoms_spec (ws := (Cond.code y_borrowing prog_2_method_15_code 2 (some .int) :: bgT)) B.pre w (List.mem_cons_of_mem _ h)
  have hown : s.vm.findClass "LoanDesk$Graph" = some m.cls := findClass_of_methodNamed B.named
  have hlocks := B.notSynchronized
  have hl := lv_entry ([.ref (a 1), .int p0]) (n := 2) (Nat.le_of_ble_eq_true rfl)
  rw [lg_entry_eq]
  generalize (lg_sl ([.ref (a 1), .int p0]) ++ List.replicate (2 - (lg_sl ([.ref (a 1), .int p0])).length) Slot.unset).toArray = ls at hl ⊢
  have hl : lv_has ls 2 [(0, .ref (a 1)), (1, .int p0)] := hl
  refine lv_aload_n hx hb d_borrowing_0 rfl (lv_at hl 0 rfl) ?_
  refine lv_iload_n hx hb d_borrowing_1 rfl (lv_at hl 1 rfl) ?_
  obtain ⟨r_1, e_1, h⟩ := ld_nm h
  refine ld_rd (W.runV (As := [.int p0]) (rest := []) ⟨hx, hb, hml, hown, hg⟩ (lc_isLoan l D cI cZ cJ a G p0 r_1 e_1) ⟨callB_of 1 hg (ld_gd k_242) rfl rfl rfl (hg _ k_24) (hg _ k_304) hd_isLoan ⟨Nat.le_of_ble_eq_true rfl, Nat.le_of_ble_eq_true rfl⟩, hg _ k_240, hg _ k_241⟩ (ld_preRV hP hK hN [0, 1, 2, 3, 4, 5, 6] rfl 0 0 rfl rfl) rfl rfl hl.1 rfl (lv_room (Nat.le_of_ble_eq_true rfl)) d_borrowing_2 ⟨Nat.zero_le _, Nat.zero_le _⟩) ?_
  refine lv_if_eq (tgt := 19) hx hb d_borrowing_5 (by decide) (fun c_2 => ?_) (fun c_2 => ?_)
  · have h := (if_pos c_2).symm.trans h
    refine lv_iconst (v := 0) hx hb d_borrowing_19 (by decide) ?_
    exact W.iret (v := 0) hx hb hr (fun t ht hW => ⟨_, rfl, h, ht⟩) (fun _ q => by cases q) d_borrowing_20
  · have h := (if_neg c_2).symm.trans h
    refine lv_iconst (v := 1) hx hb d_borrowing_8 (by decide) ?_
    refine lv_aload_n hx hb d_borrowing_9 rfl (lv_at hl 0 rfl) ?_
    refine va_get (D := D) (ci := 0) (v := .ref (a 3)) (C := "LoanDesk$Graph") (T := T_Graph) (N := 7) hx hb hg u_Graph hown hK hP 0 rfl rfl 1 (by decide) (hg _ k_47) (fun _ h9 => h9) rfl d_borrowing_10 ?_
    refine lv_iload_n hx hb d_borrowing_13 rfl (lv_at hl 1 rfl) ?_
    refine va_iald hx hb hK hP 2 0 rfl rfl (i := p0) (ld_ln e_1 c_2) d_borrowing_14 ?_
    refine lv_ishl hx hb d_borrowing_15 ?_
    refine lv_goto (tgt := 20) hx hb d_borrowing_16 (by decide) ?_
    exact W.iret (v := (1 : Int32) <<< ((G.2.1 p0.toNatClampNeg) &&& 31)) hx hb hr (fun t ht hW => ⟨_, rfl, h, ht⟩) (fun _ q => by cases q) d_borrowing_20
def lf_isChange (G : ld_gT) (p0 : Int32) : Int32 := ld_lt (lf_isPoint G p0) (fun r_1 => if r_1 = 0 then 0 else if (G.1 p0.toNatClampNeg) = 6 then 1 else if (G.1 p0.toNatClampNeg) = 1 then if (G.2.2.2.1 p0.toNatClampNeg) = 1 then 1 else 0 else 0)
set_option maxHeartbeats 4000000 in
set_option maxRecDepth 100000 in
theorem lc_isChange (l : Launch) (D : va_G) (cI cZ cJ : ClassId) (a : Nat → Nat) (G : ld_gT) (p0 : Int32) (R : Int32) (h : lf_isChange G p0 = R) : Met l y_isChange (Cond.code y_isChange prog_2_method_17_code 2 (some .boolean) :: bgT) ({ frames := 1, cells := 0, slots := 0, locals := 21 }) (ld_PR D cI cZ cJ (ld_gW a cI G) [.ref (a 1), .int p0]) (vp_Si (fun z => z = R)) 0 0 (fun _ => False) := by
  refine Met.ofW (cc := prog_2_method_17_code) (maxL := 2) (ret := (some .boolean)) (by decide) rfl ?_
  intro p e s m args below meth c s₁ B hml hv
  obtain ⟨rfl, hP, hK, hN⟩ := hv
  have hx := B.exec
  have hb := B.bytes
  have hr := B.returns
  have hg : ∀ w ∈ bgT, w.before _ s = true := fun w h => atoms_spec (ws := (Cond.code y_isChange prog_2_method_17_code 2 (some .boolean) :: bgT)) B.pre w (List.mem_cons_of_mem _ h)
  have hown : s.vm.findClass "LoanDesk$Graph" = some m.cls := findClass_of_methodNamed B.named
  have hlocks := B.notSynchronized
  have hl := lv_entry ([.ref (a 1), .int p0]) (n := 2) (Nat.le_of_ble_eq_true rfl)
  rw [lg_entry_eq]
  generalize (lg_sl ([.ref (a 1), .int p0]) ++ List.replicate (2 - (lg_sl ([.ref (a 1), .int p0])).length) Slot.unset).toArray = ls at hl ⊢
  have hl : lv_has ls 2 [(0, .ref (a 1)), (1, .int p0)] := hl
  refine lv_aload_n hx hb d_isChange_0 rfl (lv_at hl 0 rfl) ?_
  refine lv_iload_n hx hb d_isChange_1 rfl (lv_at hl 1 rfl) ?_
  obtain ⟨r_1, e_1, h⟩ := ld_nm h
  refine ld_rd (W.runV (As := [.int p0]) (rest := []) ⟨hx, hb, hml, hown, hg⟩ (lc_isPoint l D cI cZ cJ a G p0 r_1 e_1) ⟨callB_of 1 hg (ld_gd k_155) rfl rfl rfl (hg _ k_24) (hg _ k_166) hd_isPoint ⟨Nat.le_of_ble_eq_true rfl, Nat.le_of_ble_eq_true rfl⟩, hg _ k_153, hg _ k_154⟩ (ld_preRV hP hK hN [0, 1, 2, 3, 4, 5, 6] rfl 0 0 rfl rfl) rfl rfl hl.1 rfl (lv_room (Nat.le_of_ble_eq_true rfl)) d_isChange_2 ⟨Nat.zero_le _, Nat.zero_le _⟩) ?_
  refine lv_if_eq (tgt := 43) hx hb d_isChange_5 (by decide) (fun c_2 => ?_) (fun c_2 => ?_)
  · have h := (if_pos c_2).symm.trans h
    refine lv_iconst (v := 0) hx hb d_isChange_43 (by decide) ?_
    exact W.zret (v := 0) hx hb hr rfl (fun t ht hW => ⟨_, rfl, h, ht⟩) (fun _ q => by cases q) d_isChange_44
  · have h := (if_neg c_2).symm.trans h
    refine lv_aload_n hx hb d_isChange_8 rfl (lv_at hl 0 rfl) ?_
    refine va_get (D := D) (ci := 0) (v := .ref (a 2)) (C := "LoanDesk$Graph") (T := T_Graph) (N := 7) hx hb hg u_Graph hown hK hP 0 rfl rfl 0 (by decide) (hg _ k_46) (fun _ h9 => h9) rfl d_isChange_9 ?_
    refine lv_iload_n hx hb d_isChange_12 rfl (lv_at hl 1 rfl) ?_
    refine va_iald hx hb hK hP 1 0 rfl rfl (i := p0) (ld_pt e_1 c_2) d_isChange_13 ?_
    refine lv_bipush (v := 6) hx hb d_isChange_14 (by decide) ?_
    refine lv_icmp_eq (tgt := 39) hx hb d_isChange_16 (by decide) (fun c_3 => ?_) (fun c_3 => ?_)
    · have h := (if_pos c_3).symm.trans h
      refine lv_iconst (v := 1) hx hb d_isChange_39 (by decide) ?_
      refine lv_goto (tgt := 44) hx hb d_isChange_40 (by decide) ?_
      exact W.zret (v := 1) hx hb hr rfl (fun t ht hW => ⟨_, rfl, h, ht⟩) (fun _ q => by cases q) d_isChange_44
    · have h := (if_neg c_3).symm.trans h
      refine lv_aload_n hx hb d_isChange_19 rfl (lv_at hl 0 rfl) ?_
      refine va_get (D := D) (ci := 0) (v := .ref (a 2)) (C := "LoanDesk$Graph") (T := T_Graph) (N := 7) hx hb hg u_Graph hown hK hP 0 rfl rfl 0 (by decide) (hg _ k_46) (fun _ h9 => h9) rfl d_isChange_20 ?_
      refine lv_iload_n hx hb d_isChange_23 rfl (lv_at hl 1 rfl) ?_
      refine va_iald hx hb hK hP 1 0 rfl rfl (i := p0) (ld_pt e_1 c_2) d_isChange_24 ?_
      refine lv_iconst (v := 1) hx hb d_isChange_25 (by decide) ?_
      refine lv_icmp_ne (tgt := 43) hx hb d_isChange_26 (by decide) (fun c_4 => ?_) (fun c_4 => ?_)
      · have h := (if_neg c_4).symm.trans h
        refine lv_iconst (v := 0) hx hb d_isChange_43 (by decide) ?_
        exact W.zret (v := 0) hx hb hr rfl (fun t ht hW => ⟨_, rfl, h, ht⟩) (fun _ q => by cases q) d_isChange_44
      · have h := (if_pos c_4).symm.trans h
        refine lv_aload_n hx hb d_isChange_29 rfl (lv_at hl 0 rfl) ?_
        refine va_get (D := D) (ci := 0) (v := .ref (a 5)) (C := "LoanDesk$Graph") (T := T_Graph) (N := 7) hx hb hg u_Graph hown hK hP 0 rfl rfl 3 (by decide) (hg _ k_49) (fun _ h9 => h9) rfl d_isChange_30 ?_
        refine lv_iload_n hx hb d_isChange_33 rfl (lv_at hl 1 rfl) ?_
        refine va_iald hx hb hK hP 4 0 rfl rfl (i := p0) (ld_pt e_1 c_2) d_isChange_34 ?_
        refine lv_iconst (v := 1) hx hb d_isChange_35 (by decide) ?_
        refine lv_icmp_ne (tgt := 43) hx hb d_isChange_36 (by decide) (fun c_5 => ?_) (fun c_5 => ?_)
        · have h := (if_neg c_5).symm.trans h
          refine lv_iconst (v := 0) hx hb d_isChange_43 (by decide) ?_
          exact W.zret (v := 0) hx hb hr rfl (fun t ht hW => ⟨_, rfl, h, ht⟩) (fun _ q => by cases q) d_isChange_44
        · have h := (if_pos c_5).symm.trans h
          refine lv_iconst (v := 1) hx hb d_isChange_39 (by decide) ?_
          refine lv_goto (tgt := 44) hx hb d_isChange_40 (by decide) ?_
          exact W.zret (v := 1) hx hb hr rfl (fun t ht hW => ⟨_, rfl, h, ht⟩) (fun _ q => by cases q) d_isChange_44
def lf_isLook (G : ld_gT) (p0 : Int32) : Int32 := ld_lt (lf_isPoint G p0) (fun r_1 => if r_1 = 0 then 0 else if (G.1 p0.toNatClampNeg) = 5 then 1 else if (G.1 p0.toNatClampNeg) = 1 then if (G.2.2.2.1 p0.toNatClampNeg) = 0 then 1 else 0 else 0)
set_option maxHeartbeats 4000000 in
set_option maxRecDepth 100000 in
theorem lc_isLook (l : Launch) (D : va_G) (cI cZ cJ : ClassId) (a : Nat → Nat) (G : ld_gT) (p0 : Int32) (R : Int32) (h : lf_isLook G p0 = R) : Met l y_isLook (Cond.code y_isLook prog_2_method_18_code 2 (some .boolean) :: bgT) ({ frames := 1, cells := 0, slots := 0, locals := 21 }) (ld_PR D cI cZ cJ (ld_gW a cI G) [.ref (a 1), .int p0]) (vp_Si (fun z => z = R)) 0 0 (fun _ => False) := by
  refine Met.ofW (cc := prog_2_method_18_code) (maxL := 2) (ret := (some .boolean)) (by decide) rfl ?_
  intro p e s m args below meth c s₁ B hml hv
  obtain ⟨rfl, hP, hK, hN⟩ := hv
  have hx := B.exec
  have hb := B.bytes
  have hr := B.returns
  have hg : ∀ w ∈ bgT, w.before _ s = true := fun w h => atoms_spec (ws := (Cond.code y_isLook prog_2_method_18_code 2 (some .boolean) :: bgT)) B.pre w (List.mem_cons_of_mem _ h)
  have hown : s.vm.findClass "LoanDesk$Graph" = some m.cls := findClass_of_methodNamed B.named
  have hlocks := B.notSynchronized
  have hl := lv_entry ([.ref (a 1), .int p0]) (n := 2) (Nat.le_of_ble_eq_true rfl)
  rw [lg_entry_eq]
  generalize (lg_sl ([.ref (a 1), .int p0]) ++ List.replicate (2 - (lg_sl ([.ref (a 1), .int p0])).length) Slot.unset).toArray = ls at hl ⊢
  have hl : lv_has ls 2 [(0, .ref (a 1)), (1, .int p0)] := hl
  refine lv_aload_n hx hb d_isLook_0 rfl (lv_at hl 0 rfl) ?_
  refine lv_iload_n hx hb d_isLook_1 rfl (lv_at hl 1 rfl) ?_
  obtain ⟨r_1, e_1, h⟩ := ld_nm h
  refine ld_rd (W.runV (As := [.int p0]) (rest := []) ⟨hx, hb, hml, hown, hg⟩ (lc_isPoint l D cI cZ cJ a G p0 r_1 e_1) ⟨callB_of 1 hg (ld_gd k_155) rfl rfl rfl (hg _ k_24) (hg _ k_166) hd_isPoint ⟨Nat.le_of_ble_eq_true rfl, Nat.le_of_ble_eq_true rfl⟩, hg _ k_153, hg _ k_154⟩ (ld_preRV hP hK hN [0, 1, 2, 3, 4, 5, 6] rfl 0 0 rfl rfl) rfl rfl hl.1 rfl (lv_room (Nat.le_of_ble_eq_true rfl)) d_isLook_2 ⟨Nat.zero_le _, Nat.zero_le _⟩) ?_
  refine lv_if_eq (tgt := 41) hx hb d_isLook_5 (by decide) (fun c_2 => ?_) (fun c_2 => ?_)
  · have h := (if_pos c_2).symm.trans h
    refine lv_iconst (v := 0) hx hb d_isLook_41 (by decide) ?_
    exact W.zret (v := 0) hx hb hr rfl (fun t ht hW => ⟨_, rfl, h, ht⟩) (fun _ q => by cases q) d_isLook_42
  · have h := (if_neg c_2).symm.trans h
    refine lv_aload_n hx hb d_isLook_8 rfl (lv_at hl 0 rfl) ?_
    refine va_get (D := D) (ci := 0) (v := .ref (a 2)) (C := "LoanDesk$Graph") (T := T_Graph) (N := 7) hx hb hg u_Graph hown hK hP 0 rfl rfl 0 (by decide) (hg _ k_46) (fun _ h9 => h9) rfl d_isLook_9 ?_
    refine lv_iload_n hx hb d_isLook_12 rfl (lv_at hl 1 rfl) ?_
    refine va_iald hx hb hK hP 1 0 rfl rfl (i := p0) (ld_pt e_1 c_2) d_isLook_13 ?_
    refine lv_iconst (v := 5) hx hb d_isLook_14 (by decide) ?_
    refine lv_icmp_eq (tgt := 37) hx hb d_isLook_15 (by decide) (fun c_3 => ?_) (fun c_3 => ?_)
    · have h := (if_pos c_3).symm.trans h
      refine lv_iconst (v := 1) hx hb d_isLook_37 (by decide) ?_
      refine lv_goto (tgt := 42) hx hb d_isLook_38 (by decide) ?_
      exact W.zret (v := 1) hx hb hr rfl (fun t ht hW => ⟨_, rfl, h, ht⟩) (fun _ q => by cases q) d_isLook_42
    · have h := (if_neg c_3).symm.trans h
      refine lv_aload_n hx hb d_isLook_18 rfl (lv_at hl 0 rfl) ?_
      refine va_get (D := D) (ci := 0) (v := .ref (a 2)) (C := "LoanDesk$Graph") (T := T_Graph) (N := 7) hx hb hg u_Graph hown hK hP 0 rfl rfl 0 (by decide) (hg _ k_46) (fun _ h9 => h9) rfl d_isLook_19 ?_
      refine lv_iload_n hx hb d_isLook_22 rfl (lv_at hl 1 rfl) ?_
      refine va_iald hx hb hK hP 1 0 rfl rfl (i := p0) (ld_pt e_1 c_2) d_isLook_23 ?_
      refine lv_iconst (v := 1) hx hb d_isLook_24 (by decide) ?_
      refine lv_icmp_ne (tgt := 41) hx hb d_isLook_25 (by decide) (fun c_4 => ?_) (fun c_4 => ?_)
      · have h := (if_neg c_4).symm.trans h
        refine lv_iconst (v := 0) hx hb d_isLook_41 (by decide) ?_
        exact W.zret (v := 0) hx hb hr rfl (fun t ht hW => ⟨_, rfl, h, ht⟩) (fun _ q => by cases q) d_isLook_42
      · have h := (if_pos c_4).symm.trans h
        refine lv_aload_n hx hb d_isLook_28 rfl (lv_at hl 0 rfl) ?_
        refine va_get (D := D) (ci := 0) (v := .ref (a 5)) (C := "LoanDesk$Graph") (T := T_Graph) (N := 7) hx hb hg u_Graph hown hK hP 0 rfl rfl 3 (by decide) (hg _ k_49) (fun _ h9 => h9) rfl d_isLook_29 ?_
        refine lv_iload_n hx hb d_isLook_32 rfl (lv_at hl 1 rfl) ?_
        refine va_iald hx hb hK hP 4 0 rfl rfl (i := p0) (ld_pt e_1 c_2) d_isLook_33 ?_
        refine lv_if_ne (tgt := 41) hx hb d_isLook_34 (by decide) (fun c_5 => ?_) (fun c_5 => ?_)
        · have h := (if_neg c_5).symm.trans h
          refine lv_iconst (v := 0) hx hb d_isLook_41 (by decide) ?_
          exact W.zret (v := 0) hx hb hr rfl (fun t ht hW => ⟨_, rfl, h, ht⟩) (fun _ q => by cases q) d_isLook_42
        · have h := (if_pos c_5).symm.trans h
          refine lv_iconst (v := 1) hx hb d_isLook_37 (by decide) ?_
          refine lv_goto (tgt := 42) hx hb d_isLook_38 (by decide) ?_
          exact W.zret (v := 1) hx hb hr rfl (fun t ht hW => ⟨_, rfl, h, ht⟩) (fun _ q => by cases q) d_isLook_42
def ls_overlap_1 (p0 : Int32) (p1 : Int32) (v1 : Int32 × Int32) : Option ((Int32 × Int32) ⊕ (Int32 × Int32)) := if 4 ≤ v1.2 then some (.inr (v1.1, v1.2)) else if v1.1 ≤ (if p1 < p0 then p1 else p0) then some (.inr (v1.1, v1.2)) else some (.inl (v1.1 / 10, v1.2 + 1))
def lm_overlap (N : Nat) (p0 : Int32) (p1 : Int32) : Option (Int32) := Option.bind (ld_it (ls_overlap_1 p0 p1) N (if p0 < p1 then p1 else p0, 0)) (fun Y1 => if Y1.1 = (if p1 < p0 then p1 else p0) then some 1 else some 0)
set_option maxHeartbeats 4000000 in
set_option maxRecDepth 100000 in
theorem lc_overlap (l : Launch) (D : va_G) (cI cZ cJ : ClassId)  (p0 : Int32) (p1 : Int32) (N : Nat) (R : Int32) (h : lm_overlap N p0 p1 = some R) : Met l y_overlap (Cond.code y_overlap prog_2_method_19_code 5 (some .boolean) :: bgT) ({ frames := 1, cells := 0, slots := 0, locals := 21 }) (ld_PR D cI cZ cJ ([]) [.int p0, .int p1]) (vp_Si (fun z => z = R)) 0 0 (fun _ => False) := by
  refine Met.ofW (cc := prog_2_method_19_code) (maxL := 5) (ret := (some .boolean)) (by decide) rfl ?_
  intro p e s m args below meth c s₁ B hml hv
  obtain ⟨rfl, hP, hK, hN⟩ := hv
  have hx := B.exec
  have hb := B.bytes
  have hr := B.returns
  have hg : ∀ w ∈ bgT, w.before _ s = true := fun w h => atoms_spec (ws := (Cond.code y_overlap prog_2_method_19_code 5 (some .boolean) :: bgT)) B.pre w (List.mem_cons_of_mem _ h)
  have hown : s.vm.findClass "LoanDesk$Graph" = some m.cls := findClass_of_methodNamed B.named
  have hlocks := B.notSynchronized
  have hl := lv_entry ([.int p0, .int p1]) (n := 5) (Nat.le_of_ble_eq_true rfl)
  rw [lg_entry_eq]
  generalize (lg_sl ([.int p0, .int p1]) ++ List.replicate (5 - (lg_sl ([.int p0, .int p1])).length) Slot.unset).toArray = ls at hl ⊢
  have hl : lv_has ls 5 [(0, .int p0), (1, .int p1)] := hl
  refine lv_iload_n hx hb d_overlap_0 rfl (lv_at hl 0 rfl) ?_
  refine lv_iload_n hx hb d_overlap_1 rfl (lv_at hl 1 rfl) ?_
  refine va_mmin hx hb (by rw [hml]; exact hl.1.symm) hown (hg _ k_318) (hg _ k_222) (hg _ k_32) (hg _ k_223) (Nat.le_of_ble_eq_true rfl) (Nat.le_of_ble_eq_true rfl) (Nat.zero_le _) (Nat.zero_le _) d_overlap_2 ?_
  refine lv_istore_n (lv' := [(2, .int (if p1 < p0 then p1 else p0)), (0, .int p0), (1, .int p1)]) hx hb d_overlap_5 rfl hl (by decide) rfl (fun ls hl => ?_)
  refine lv_iload_n hx hb d_overlap_6 rfl (lv_at hl 1 rfl) ?_
  refine lv_iload_n hx hb d_overlap_7 rfl (lv_at hl 2 rfl) ?_
  refine va_mmax hx hb (by rw [hml]; exact hl.1.symm) hown (hg _ k_319) (hg _ k_320) (hg _ k_32) (hg _ k_321) (Nat.le_of_ble_eq_true rfl) (Nat.le_of_ble_eq_true rfl) (Nat.zero_le _) (Nat.zero_le _) d_overlap_8 ?_
  refine lv_istore_n (lv' := [(3, .int (if p0 < p1 then p1 else p0)), (2, .int (if p1 < p0 then p1 else p0)), (0, .int p0), (1, .int p1)]) hx hb d_overlap_11 rfl hl (by decide) rfl (fun ls hl => ?_)
  refine lv_iconst (v := 0) hx hb d_overlap_12 (by decide) ?_
  refine lv_istore (lv' := [(4, .int 0), (3, .int (if p0 < p1 then p1 else p0)), (2, .int (if p1 < p0 then p1 else p0)), (0, .int p0), (1, .int p1)]) hx hb d_overlap_13 hl (by decide) rfl (fun ls hl => ?_)
  obtain ⟨Y1, eY1, h⟩ := ld_ob h
  have kont1 : ∀ (ls : Array Slot), lv_has ls 5 [(2, .int (if p1 < p0 then p1 else p0)), (3, .int Y1.1)] → W p l e (headSpec (Cond.code y_overlap prog_2_method_19_code 5 (some .boolean) :: bgT) ({ frames := 1, cells := 0, slots := 0, locals := 21 })).room s m ([.int p0, .int p1] : List Value).toArray below meth c s.heap [] 0 0 (MQ below (vp_Si (fun z => z = R)) ([.int p0, .int p1] : List Value).toArray s 0 0 (fun _ => False)) (F0 m 37 ls []) := by
    intro ls hl
    refine lv_iload_n hx hb d_overlap_37 rfl (lv_at hl 1 rfl) ?_
    refine lv_iload_n hx hb d_overlap_38 rfl (lv_at hl 0 rfl) ?_
    refine lv_icmp_ne (tgt := 46) hx hb d_overlap_39 (by decide) (fun c_1 => ?_) (fun c_1 => ?_)
    · have h := (if_neg c_1).symm.trans h
      refine lv_iconst (v := 0) hx hb d_overlap_46 (by decide) ?_
      have h := Option.some.inj h
      exact W.zret (v := 0) hx hb hr rfl (fun t ht hW => ⟨_, rfl, h, ht⟩) (fun _ q => by cases q) d_overlap_47
    · have h := (if_pos c_1).symm.trans h
      refine lv_iconst (v := 1) hx hb d_overlap_42 (by decide) ?_
      refine lv_goto (tgt := 47) hx hb d_overlap_43 (by decide) ?_
      have h := Option.some.inj h
      exact W.zret (v := 1) hx hb hr rfl (fun t ht hW => ⟨_, rfl, h, ht⟩) (fun _ q => by cases q) d_overlap_47
  have key1 : ∀ (n : Nat) (v1 : Int32 × Int32) (ls : Array Slot), ld_it (ls_overlap_1 p0 p1) n v1 = some Y1 → lv_has ls 5 [(2, .int (if p1 < p0 then p1 else p0)), (3, .int v1.1), (4, .int v1.2)] → W p l e (headSpec (Cond.code y_overlap prog_2_method_19_code 5 (some .boolean) :: bgT) ({ frames := 1, cells := 0, slots := 0, locals := 21 })).room s m ([.int p0, .int p1] : List Value).toArray below meth c s.heap [] 0 0 (MQ below (vp_Si (fun z => z = R)) ([.int p0, .int p1] : List Value).toArray s 0 0 (fun _ => False)) (F0 m 15 ls []) := by
    intro n
    induction n with
    | zero => intro v1 ls g1 hl; cases g1
    | succ n ih1 =>
      intro v1 ls g1 hl
      obtain ⟨z1, hy1, g1⟩ := ld_its g1
      refine lv_iload hx hb d_overlap_15 (lv_at hl 2 rfl) ?_
      refine lv_iconst (v := 4) hx hb d_overlap_17 (by decide) ?_
      refine lv_icmp_ge (tgt := 37) hx hb d_overlap_18 (by decide) (fun c_2 => ?_) (fun c_2 => ?_)
      · have hy1 := (if_pos c_2).symm.trans hy1
        obtain rfl := Option.some.inj hy1
        obtain rfl := Option.some.inj g1
        exact kont1 _ (lv_sub hl [0, 1] rfl)
      · have hy1 := (if_neg c_2).symm.trans hy1
        refine lv_iload_n hx hb d_overlap_21 rfl (lv_at hl 1 rfl) ?_
        refine lv_iload_n hx hb d_overlap_22 rfl (lv_at hl 0 rfl) ?_
        refine lv_icmp_le (tgt := 37) hx hb d_overlap_23 (by decide) (fun c_3 => ?_) (fun c_3 => ?_)
        · have hy1 := (if_pos c_3).symm.trans hy1
          obtain rfl := Option.some.inj hy1
          obtain rfl := Option.some.inj g1
          exact kont1 _ (lv_sub hl [0, 1] rfl)
        · have hy1 := (if_neg c_3).symm.trans hy1
          refine lv_iload_n hx hb d_overlap_26 rfl (lv_at hl 1 rfl) ?_
          refine lv_bipush (v := 10) hx hb d_overlap_27 (by decide) ?_
          refine lv_idiv hx hb d_overlap_29 (by decide) ?_
          refine lv_istore_n (lv' := [(3, .int (v1.1 / 10)), (2, .int (if p1 < p0 then p1 else p0)), (4, .int v1.2)]) hx hb d_overlap_30 rfl hl (by decide) rfl (fun ls hl => ?_)
          refine lv_iinc (v := v1.2 + 1) (lv' := [(4, .int (v1.2 + 1)), (3, .int (v1.1 / 10)), (2, .int (if p1 < p0 then p1 else p0))]) hx hb d_overlap_31 hl (k := 2) rfl rfl (by decide) rfl (fun ls hl => ?_)
          refine lv_goto (tgt := 15) hx hb d_overlap_34 (by decide) ?_
          obtain rfl := Option.some.inj hy1
          exact ih1 (v1.1 / 10, v1.2 + 1) _ g1 (lv_sub hl [2, 1, 0] rfl)
  exact key1 N (if p0 < p1 then p1 else p0, 0) _ eY1 (lv_sub hl [2, 1, 0] rfl)
def lm_touches (N : Nat) (G : ld_gT) (p0 : Int32) (p1 : Int32) : Option (Int32) := ld_lt (lf_isPoint G p0) (fun r_1 => if r_1 = 0 then some 0 else ld_lt (lf_isLoan G p1) (fun r_3 => if r_3 = 0 then some 0 else ld_lt (lf_isChange G p0) (fun r_5 => if r_5 = 0 then (ld_lt (lf_isLook G p0) (fun r_10 => if r_10 = 0 then some 0 else if (G.2.2.2.1 p1.toNatClampNeg) = 1 then Option.bind (lm_overlap N (G.2.2.1 p0.toNatClampNeg) (G.2.2.1 p1.toNatClampNeg)) (fun r_16 => if r_16 = 0 then some 0 else some 1) else some 0)) else Option.bind (lm_overlap N (G.2.2.1 p0.toNatClampNeg) (G.2.2.1 p1.toNatClampNeg)) (fun r_8 => if r_8 = 0 then some 0 else some 1))))
set_option maxHeartbeats 4000000 in
set_option maxRecDepth 100000 in
theorem lc_touches (l : Launch) (D : va_G) (cI cZ cJ : ClassId) (a : Nat → Nat) (G : ld_gT) (p0 : Int32) (p1 : Int32) (N : Nat) (R : Int32) (h : lm_touches N G p0 p1 = some R) : Met l y_touches (Cond.code y_touches prog_2_method_16_code 4 (some .boolean) :: bgT) ({ frames := 2, cells := 0, slots := 0, locals := 45 }) (ld_PR D cI cZ cJ (ld_gW a cI G) [.ref (a 1), .int p0, .int p1]) (vp_Si (fun z => z = R)) 0 0 (fun _ => False) := by
  refine Met.ofW (cc := prog_2_method_16_code) (maxL := 4) (ret := (some .boolean)) (by decide) rfl ?_
  intro p e s m args below meth c s₁ B hml hv
  obtain ⟨rfl, hP, hK, hN⟩ := hv
  have hx := B.exec
  have hb := B.bytes
  have hr := B.returns
  have hg : ∀ w ∈ bgT, w.before _ s = true := fun w h => atoms_spec (ws := (Cond.code y_touches prog_2_method_16_code 4 (some .boolean) :: bgT)) B.pre w (List.mem_cons_of_mem _ h)
  have hown : s.vm.findClass "LoanDesk$Graph" = some m.cls := findClass_of_methodNamed B.named
  have hlocks := B.notSynchronized
  have hl := lv_entry ([.ref (a 1), .int p0, .int p1]) (n := 4) (Nat.le_of_ble_eq_true rfl)
  rw [lg_entry_eq]
  generalize (lg_sl ([.ref (a 1), .int p0, .int p1]) ++ List.replicate (4 - (lg_sl ([.ref (a 1), .int p0, .int p1])).length) Slot.unset).toArray = ls at hl ⊢
  have hl : lv_has ls 4 [(0, .ref (a 1)), (1, .int p0), (2, .int p1)] := hl
  refine lv_aload_n hx hb d_touches_0 rfl (lv_at hl 0 rfl) ?_
  refine lv_iload_n hx hb d_touches_1 rfl (lv_at hl 1 rfl) ?_
  obtain ⟨r_1, e_1, h⟩ := ld_nm h
  refine ld_rd (W.runV (As := [.int p0]) (rest := []) ⟨hx, hb, hml, hown, hg⟩ (lc_isPoint l D cI cZ cJ a G p0 r_1 e_1) ⟨callB_of 1 hg (ld_gd k_155) rfl rfl rfl (hg _ k_24) (hg _ k_166) hd_isPoint ⟨Nat.le_of_ble_eq_true rfl, Nat.le_of_ble_eq_true rfl⟩, hg _ k_153, hg _ k_154⟩ (ld_preRV hP hK hN [0, 1, 2, 3, 4, 5, 6] rfl 0 0 rfl rfl) rfl rfl hl.1 rfl (lv_room (Nat.le_of_ble_eq_true rfl)) d_touches_2 ⟨Nat.zero_le _, Nat.zero_le _⟩) ?_
  refine lv_if_eq (tgt := 16) hx hb d_touches_5 (by decide) (fun c_2 => ?_) (fun c_2 => ?_)
  · have h := (if_pos c_2).symm.trans h
    refine lv_iconst (v := 0) hx hb d_touches_16 (by decide) ?_
    have h := Option.some.inj h
    exact W.zret (v := 0) hx hb hr rfl (fun t ht hW => ⟨_, rfl, h, ht⟩) (fun _ q => by cases q) d_touches_17
  · have h := (if_neg c_2).symm.trans h
    refine lv_aload_n hx hb d_touches_8 rfl (lv_at hl 0 rfl) ?_
    refine lv_iload_n hx hb d_touches_9 rfl (lv_at hl 2 rfl) ?_
    obtain ⟨r_3, e_3, h⟩ := ld_nm h
    refine ld_rd (W.runV (As := [.int p1]) (rest := []) ⟨hx, hb, hml, hown, hg⟩ (lc_isLoan l D cI cZ cJ a G p1 r_3 e_3) ⟨callB_of 1 hg (ld_gd k_242) rfl rfl rfl (hg _ k_24) (hg _ k_304) hd_isLoan ⟨Nat.le_of_ble_eq_true rfl, Nat.le_of_ble_eq_true rfl⟩, hg _ k_240, hg _ k_241⟩ (ld_preRV hP hK hN [0, 1, 2, 3, 4, 5, 6] rfl 0 0 rfl rfl) rfl rfl hl.1 rfl (lv_room (Nat.le_of_ble_eq_true rfl)) d_touches_10 ⟨Nat.zero_le _, Nat.zero_le _⟩) ?_
    refine lv_if_ne (tgt := 18) hx hb d_touches_13 (by decide) (fun c_4 => ?_) (fun c_4 => ?_)
    · have h := (if_neg c_4).symm.trans h
      refine lv_aload_n hx hb d_touches_18 rfl (lv_at hl 0 rfl) ?_
      refine lv_iload_n hx hb d_touches_19 rfl (lv_at hl 1 rfl) ?_
      obtain ⟨r_5, e_5, h⟩ := ld_nm h
      refine ld_rd (W.runV (As := [.int p0]) (rest := []) ⟨hx, hb, hml, hown, hg⟩ (lc_isChange l D cI cZ cJ a G p0 r_5 e_5) ⟨callB_of 1 hg (ld_gd k_311) rfl rfl rfl (hg _ k_24) (hg _ k_309) hd_isChange ⟨Nat.le_of_ble_eq_true rfl, Nat.le_of_ble_eq_true rfl⟩, hg _ k_310, hg _ k_8⟩ (ld_preRV hP hK hN [0, 1, 2, 3, 4, 5, 6] rfl 0 0 rfl rfl) rfl rfl hl.1 rfl (lv_room (Nat.le_of_ble_eq_true rfl)) d_touches_20 ⟨Nat.zero_le _, Nat.zero_le _⟩) ?_
      refine lv_if_ne (tgt := 44) hx hb d_touches_23 (by decide) (fun c_6 => ?_) (fun c_6 => ?_)
      · have h := (if_neg c_6).symm.trans h
        refine lv_iconst (v := 1) hx hb d_touches_44 (by decide) ?_
        refine lv_goto (tgt := 49) hx hb d_touches_45 (by decide) ?_
        refine lv_istore_n (lv' := [(3, .int 1), (0, .ref (a 1)), (1, .int p0), (2, .int p1)]) hx hb d_touches_49 rfl hl (by decide) rfl (fun ls hl => ?_)
        refine lv_iload_n hx hb d_touches_50 rfl (lv_at hl 0 rfl) ?_
        refine lv_if_eq (tgt := 76) hx hb d_touches_51 (by decide) (fun c_7 => absurd c_7 (by decide)) (fun _ => ?_)
        refine lv_aload_n hx hb d_touches_54 rfl (lv_at hl 1 rfl) ?_
        refine va_get (D := D) (ci := 0) (v := .ref (a 4)) (C := "LoanDesk$Graph") (T := T_Graph) (N := 7) hx hb hg u_Graph hown hK hP 0 rfl rfl 2 (by decide) (hg _ k_48) (fun _ h9 => h9) rfl d_touches_55 ?_
        refine lv_iload_n hx hb d_touches_58 rfl (lv_at hl 2 rfl) ?_
        refine va_iald hx hb hK hP 3 0 rfl rfl (i := p0) (ld_pt e_1 c_2) d_touches_59 ?_
        refine lv_aload_n hx hb d_touches_60 rfl (lv_at hl 1 rfl) ?_
        refine va_get (D := D) (ci := 0) (v := .ref (a 4)) (C := "LoanDesk$Graph") (T := T_Graph) (N := 7) hx hb hg u_Graph hown hK hP 0 rfl rfl 2 (by decide) (hg _ k_48) (fun _ h9 => h9) rfl d_touches_61 ?_
        refine lv_iload_n hx hb d_touches_64 rfl (lv_at hl 3 rfl) ?_
        refine va_iald hx hb hK hP 3 0 rfl rfl (i := p1) (ld_ln e_3 c_4) d_touches_65 ?_
        obtain ⟨r_8, e_8, h⟩ := ld_ob h
        refine ld_rd (W.runS (As := [.int (G.2.2.1 p0.toNatClampNeg), .int (G.2.2.1 p1.toNatClampNeg)]) (rest := []) ⟨hx, hb, hml, hown, hg⟩ (lc_overlap l D cI cZ cJ (G.2.2.1 p0.toNatClampNeg) (G.2.2.1 p1.toNatClampNeg) N r_8 e_8) ⟨callB_of 2 hg (ld_gd k_317) rfl rfl rfl (hg _ k_24) (hg _ k_315) hd_overlap ⟨Nat.le_of_ble_eq_true rfl, Nat.le_of_ble_eq_true rfl⟩, hg _ k_316⟩ (ld_preR hP hK hN [] rfl) rfl rfl hl.1 rfl (lv_room (Nat.le_of_ble_eq_true rfl)) d_touches_66 ⟨Nat.zero_le _, Nat.zero_le _⟩) ?_
        refine lv_if_eq (tgt := 76) hx hb d_touches_69 (by decide) (fun c_9 => ?_) (fun c_9 => ?_)
        · have h := (if_pos c_9).symm.trans h
          refine lv_iconst (v := 0) hx hb d_touches_76 (by decide) ?_
          have h := Option.some.inj h
          exact W.zret (v := 0) hx hb hr rfl (fun t ht hW => ⟨_, rfl, h, ht⟩) (fun _ q => by cases q) d_touches_77
        · have h := (if_neg c_9).symm.trans h
          refine lv_iconst (v := 1) hx hb d_touches_72 (by decide) ?_
          refine lv_goto (tgt := 77) hx hb d_touches_73 (by decide) ?_
          have h := Option.some.inj h
          exact W.zret (v := 1) hx hb hr rfl (fun t ht hW => ⟨_, rfl, h, ht⟩) (fun _ q => by cases q) d_touches_77
      · have h := (if_pos c_6).symm.trans h
        refine lv_aload_n hx hb d_touches_26 rfl (lv_at hl 0 rfl) ?_
        refine lv_iload_n hx hb d_touches_27 rfl (lv_at hl 1 rfl) ?_
        obtain ⟨r_10, e_10, h⟩ := ld_nm h
        refine ld_rd (W.runV (As := [.int p0]) (rest := []) ⟨hx, hb, hml, hown, hg⟩ (lc_isLook l D cI cZ cJ a G p0 r_10 e_10) ⟨callB_of 1 hg (ld_gd k_314) rfl rfl rfl (hg _ k_24) (hg _ k_312) hd_isLook ⟨Nat.le_of_ble_eq_true rfl, Nat.le_of_ble_eq_true rfl⟩, hg _ k_313, hg _ k_9⟩ (ld_preRV hP hK hN [0, 1, 2, 3, 4, 5, 6] rfl 0 0 rfl rfl) rfl rfl hl.1 rfl (lv_room (Nat.le_of_ble_eq_true rfl)) d_touches_28 ⟨Nat.zero_le _, Nat.zero_le _⟩) ?_
        refine lv_if_eq (tgt := 48) hx hb d_touches_31 (by decide) (fun c_11 => ?_) (fun c_11 => ?_)
        · have h := (if_pos c_11).symm.trans h
          refine lv_iconst (v := 0) hx hb d_touches_48 (by decide) ?_
          refine lv_istore_n (lv' := [(3, .int 0), (0, .ref (a 1)), (1, .int p0), (2, .int p1)]) hx hb d_touches_49 rfl hl (by decide) rfl (fun ls hl => ?_)
          refine lv_iload_n hx hb d_touches_50 rfl (lv_at hl 0 rfl) ?_
          refine lv_if_eq (tgt := 76) hx hb d_touches_51 (by decide) (fun _ => ?_) (fun c_12 => absurd (by decide) c_12)
          refine lv_iconst (v := 0) hx hb d_touches_76 (by decide) ?_
          have h := Option.some.inj h
          exact W.zret (v := 0) hx hb hr rfl (fun t ht hW => ⟨_, rfl, h, ht⟩) (fun _ q => by cases q) d_touches_77
        · have h := (if_neg c_11).symm.trans h
          refine lv_aload_n hx hb d_touches_34 rfl (lv_at hl 0 rfl) ?_
          refine va_get (D := D) (ci := 0) (v := .ref (a 5)) (C := "LoanDesk$Graph") (T := T_Graph) (N := 7) hx hb hg u_Graph hown hK hP 0 rfl rfl 3 (by decide) (hg _ k_49) (fun _ h9 => h9) rfl d_touches_35 ?_
          refine lv_iload_n hx hb d_touches_38 rfl (lv_at hl 2 rfl) ?_
          refine va_iald hx hb hK hP 4 0 rfl rfl (i := p1) (ld_ln e_3 c_4) d_touches_39 ?_
          refine lv_iconst (v := 1) hx hb d_touches_40 (by decide) ?_
          refine lv_icmp_ne (tgt := 48) hx hb d_touches_41 (by decide) (fun c_13 => ?_) (fun c_13 => ?_)
          · have h := (if_neg c_13).symm.trans h
            refine lv_iconst (v := 0) hx hb d_touches_48 (by decide) ?_
            refine lv_istore_n (lv' := [(3, .int 0), (0, .ref (a 1)), (1, .int p0), (2, .int p1)]) hx hb d_touches_49 rfl hl (by decide) rfl (fun ls hl => ?_)
            refine lv_iload_n hx hb d_touches_50 rfl (lv_at hl 0 rfl) ?_
            refine lv_if_eq (tgt := 76) hx hb d_touches_51 (by decide) (fun _ => ?_) (fun c_14 => absurd (by decide) c_14)
            refine lv_iconst (v := 0) hx hb d_touches_76 (by decide) ?_
            have h := Option.some.inj h
            exact W.zret (v := 0) hx hb hr rfl (fun t ht hW => ⟨_, rfl, h, ht⟩) (fun _ q => by cases q) d_touches_77
          · have h := (if_pos c_13).symm.trans h
            refine lv_iconst (v := 1) hx hb d_touches_44 (by decide) ?_
            refine lv_goto (tgt := 49) hx hb d_touches_45 (by decide) ?_
            refine lv_istore_n (lv' := [(3, .int 1), (0, .ref (a 1)), (1, .int p0), (2, .int p1)]) hx hb d_touches_49 rfl hl (by decide) rfl (fun ls hl => ?_)
            refine lv_iload_n hx hb d_touches_50 rfl (lv_at hl 0 rfl) ?_
            refine lv_if_eq (tgt := 76) hx hb d_touches_51 (by decide) (fun c_15 => absurd c_15 (by decide)) (fun _ => ?_)
            refine lv_aload_n hx hb d_touches_54 rfl (lv_at hl 1 rfl) ?_
            refine va_get (D := D) (ci := 0) (v := .ref (a 4)) (C := "LoanDesk$Graph") (T := T_Graph) (N := 7) hx hb hg u_Graph hown hK hP 0 rfl rfl 2 (by decide) (hg _ k_48) (fun _ h9 => h9) rfl d_touches_55 ?_
            refine lv_iload_n hx hb d_touches_58 rfl (lv_at hl 2 rfl) ?_
            refine va_iald hx hb hK hP 3 0 rfl rfl (i := p0) (ld_pt e_1 c_2) d_touches_59 ?_
            refine lv_aload_n hx hb d_touches_60 rfl (lv_at hl 1 rfl) ?_
            refine va_get (D := D) (ci := 0) (v := .ref (a 4)) (C := "LoanDesk$Graph") (T := T_Graph) (N := 7) hx hb hg u_Graph hown hK hP 0 rfl rfl 2 (by decide) (hg _ k_48) (fun _ h9 => h9) rfl d_touches_61 ?_
            refine lv_iload_n hx hb d_touches_64 rfl (lv_at hl 3 rfl) ?_
            refine va_iald hx hb hK hP 3 0 rfl rfl (i := p1) (ld_ln e_3 c_4) d_touches_65 ?_
            obtain ⟨r_16, e_16, h⟩ := ld_ob h
            refine ld_rd (W.runS (As := [.int (G.2.2.1 p0.toNatClampNeg), .int (G.2.2.1 p1.toNatClampNeg)]) (rest := []) ⟨hx, hb, hml, hown, hg⟩ (lc_overlap l D cI cZ cJ (G.2.2.1 p0.toNatClampNeg) (G.2.2.1 p1.toNatClampNeg) N r_16 e_16) ⟨callB_of 2 hg (ld_gd k_317) rfl rfl rfl (hg _ k_24) (hg _ k_315) hd_overlap ⟨Nat.le_of_ble_eq_true rfl, Nat.le_of_ble_eq_true rfl⟩, hg _ k_316⟩ (ld_preR hP hK hN [] rfl) rfl rfl hl.1 rfl (lv_room (Nat.le_of_ble_eq_true rfl)) d_touches_66 ⟨Nat.zero_le _, Nat.zero_le _⟩) ?_
            refine lv_if_eq (tgt := 76) hx hb d_touches_69 (by decide) (fun c_17 => ?_) (fun c_17 => ?_)
            · have h := (if_pos c_17).symm.trans h
              refine lv_iconst (v := 0) hx hb d_touches_76 (by decide) ?_
              have h := Option.some.inj h
              exact W.zret (v := 0) hx hb hr rfl (fun t ht hW => ⟨_, rfl, h, ht⟩) (fun _ q => by cases q) d_touches_77
            · have h := (if_neg c_17).symm.trans h
              refine lv_iconst (v := 1) hx hb d_touches_72 (by decide) ?_
              refine lv_goto (tgt := 77) hx hb d_touches_73 (by decide) ?_
              have h := Option.some.inj h
              exact W.zret (v := 1) hx hb hr rfl (fun t ht hW => ⟨_, rfl, h, ht⟩) (fun _ q => by cases q) d_touches_77
    · have h := (if_pos c_4).symm.trans h
      refine lv_iconst (v := 0) hx hb d_touches_16 (by decide) ?_
      have h := Option.some.inj h
      exact W.zret (v := 0) hx hb hr rfl (fun t ht hW => ⟨_, rfl, h, ht⟩) (fun _ q => by cases q) d_touches_17
end
section
theorem d_pEmpty_0 : decode prog_5_method_2_code 0 = .ok (.aload_n 0, 1) := by decide +kernel
theorem d_pEmpty_1 : decode prog_5_method_2_code 1 = .ok (.getfield 19, 3) := by decide +kernel
theorem d_pEmpty_4 : decode prog_5_method_2_code 4 = .ok (.ifCond .gt 7, 3) := by decide +kernel
theorem d_pEmpty_7 : decode prog_5_method_2_code 7 = .ok (.iconst 1, 1) := by decide +kernel
theorem d_pEmpty_8 : decode prog_5_method_2_code 8 = .ok (.goto 4, 3) := by decide +kernel
theorem d_pEmpty_11 : decode prog_5_method_2_code 11 = .ok (.iconst 0, 1) := by decide +kernel
theorem d_pEmpty_12 : decode prog_5_method_2_code 12 = .ok (.ireturn, 1) := by decide +kernel
theorem d_put_0 : decode prog_5_method_3_code 0 = .ok (.iload_n 1, 1) := by decide +kernel
theorem d_put_1 : decode prog_5_method_3_code 1 = .ok (.invokestatic 23, 3) := by decide +kernel
theorem d_put_4 : decode prog_5_method_3_code 4 = .ok (.ifCond .eq 22, 3) := by decide +kernel
theorem d_put_7 : decode prog_5_method_3_code 7 = .ok (.aload_n 0, 1) := by decide +kernel
theorem d_put_8 : decode prog_5_method_3_code 8 = .ok (.getfield 19, 3) := by decide +kernel
theorem d_put_11 : decode prog_5_method_3_code 11 = .ok (.invokestatic 23, 3) := by decide +kernel
theorem d_put_14 : decode prog_5_method_3_code 14 = .ok (.ifCond .eq 12, 3) := by decide +kernel
theorem d_put_17 : decode prog_5_method_3_code 17 = .ok (.aload_n 0, 1) := by decide +kernel
theorem d_put_18 : decode prog_5_method_3_code 18 = .ok (.getfield 15, 3) := by decide +kernel
theorem d_put_21 : decode prog_5_method_3_code 21 = .ok (.iload_n 1, 1) := by decide +kernel
theorem d_put_22 : decode prog_5_method_3_code 22 = .ok (.baload, 1) := by decide +kernel
theorem d_put_23 : decode prog_5_method_3_code 23 = .ok (.ifCond .eq 4, 3) := by decide +kernel
theorem d_put_26 : decode prog_5_method_3_code 26 = .ok (.return_, 1) := by decide +kernel
theorem d_put_27 : decode prog_5_method_3_code 27 = .ok (.aload_n 0, 1) := by decide +kernel
theorem d_put_28 : decode prog_5_method_3_code 28 = .ok (.getfield 15, 3) := by decide +kernel
theorem d_put_31 : decode prog_5_method_3_code 31 = .ok (.iload_n 1, 1) := by decide +kernel
theorem d_put_32 : decode prog_5_method_3_code 32 = .ok (.iconst 1, 1) := by decide +kernel
theorem d_put_33 : decode prog_5_method_3_code 33 = .ok (.bastore, 1) := by decide +kernel
theorem d_put_34 : decode prog_5_method_3_code 34 = .ok (.aload_n 0, 1) := by decide +kernel
theorem d_put_35 : decode prog_5_method_3_code 35 = .ok (.getfield 9, 3) := by decide +kernel
theorem d_put_38 : decode prog_5_method_3_code 38 = .ok (.aload_n 0, 1) := by decide +kernel
theorem d_put_39 : decode prog_5_method_3_code 39 = .ok (.getfield 19, 3) := by decide +kernel
theorem d_put_42 : decode prog_5_method_3_code 42 = .ok (.iload_n 1, 1) := by decide +kernel
theorem d_put_43 : decode prog_5_method_3_code 43 = .ok (.iastore, 1) := by decide +kernel
theorem d_put_44 : decode prog_5_method_3_code 44 = .ok (.aload_n 0, 1) := by decide +kernel
theorem d_put_45 : decode prog_5_method_3_code 45 = .ok (.dup, 1) := by decide +kernel
theorem d_put_46 : decode prog_5_method_3_code 46 = .ok (.getfield 19, 3) := by decide +kernel
theorem d_put_49 : decode prog_5_method_3_code 49 = .ok (.iconst 1, 1) := by decide +kernel
theorem d_put_50 : decode prog_5_method_3_code 50 = .ok (.iadd, 1) := by decide +kernel
theorem d_put_51 : decode prog_5_method_3_code 51 = .ok (.putfield 19, 3) := by decide +kernel
theorem d_put_54 : decode prog_5_method_3_code 54 = .ok (.return_, 1) := by decide +kernel
theorem d_take_0 : decode prog_5_method_4_code 0 = .ok (.aload_n 0, 1) := by decide +kernel
theorem d_take_1 : decode prog_5_method_4_code 1 = .ok (.getfield 19, 3) := by decide +kernel
theorem d_take_4 : decode prog_5_method_4_code 4 = .ok (.iconst 1, 1) := by decide +kernel
theorem d_take_5 : decode prog_5_method_4_code 5 = .ok (.isub, 1) := by decide +kernel
theorem d_take_6 : decode prog_5_method_4_code 6 = .ok (.invokestatic 23, 3) := by decide +kernel
theorem d_take_9 : decode prog_5_method_4_code 9 = .ok (.ifCond .ne 5, 3) := by decide +kernel
theorem d_take_12 : decode prog_5_method_4_code 12 = .ok (.iconst (-1), 1) := by decide +kernel
theorem d_take_13 : decode prog_5_method_4_code 13 = .ok (.ireturn, 1) := by decide +kernel
theorem d_take_14 : decode prog_5_method_4_code 14 = .ok (.aload_n 0, 1) := by decide +kernel
theorem d_take_15 : decode prog_5_method_4_code 15 = .ok (.dup, 1) := by decide +kernel
theorem d_take_16 : decode prog_5_method_4_code 16 = .ok (.getfield 19, 3) := by decide +kernel
theorem d_take_19 : decode prog_5_method_4_code 19 = .ok (.iconst 1, 1) := by decide +kernel
theorem d_take_20 : decode prog_5_method_4_code 20 = .ok (.isub, 1) := by decide +kernel
theorem d_take_21 : decode prog_5_method_4_code 21 = .ok (.putfield 19, 3) := by decide +kernel
theorem d_take_24 : decode prog_5_method_4_code 24 = .ok (.aload_n 0, 1) := by decide +kernel
theorem d_take_25 : decode prog_5_method_4_code 25 = .ok (.getfield 9, 3) := by decide +kernel
theorem d_take_28 : decode prog_5_method_4_code 28 = .ok (.aload_n 0, 1) := by decide +kernel
theorem d_take_29 : decode prog_5_method_4_code 29 = .ok (.getfield 19, 3) := by decide +kernel
theorem d_take_32 : decode prog_5_method_4_code 32 = .ok (.iaload, 1) := by decide +kernel
theorem d_take_33 : decode prog_5_method_4_code 33 = .ok (.istore_n 1, 1) := by decide +kernel
theorem d_take_34 : decode prog_5_method_4_code 34 = .ok (.iload_n 1, 1) := by decide +kernel
theorem d_take_35 : decode prog_5_method_4_code 35 = .ok (.invokestatic 23, 3) := by decide +kernel
theorem d_take_38 : decode prog_5_method_4_code 38 = .ok (.ifCond .eq 10, 3) := by decide +kernel
theorem d_take_41 : decode prog_5_method_4_code 41 = .ok (.aload_n 0, 1) := by decide +kernel
theorem d_take_42 : decode prog_5_method_4_code 42 = .ok (.getfield 15, 3) := by decide +kernel
theorem d_take_45 : decode prog_5_method_4_code 45 = .ok (.iload_n 1, 1) := by decide +kernel
theorem d_take_46 : decode prog_5_method_4_code 46 = .ok (.iconst 0, 1) := by decide +kernel
theorem d_take_47 : decode prog_5_method_4_code 47 = .ok (.bastore, 1) := by decide +kernel
theorem d_take_48 : decode prog_5_method_4_code 48 = .ok (.iload_n 1, 1) := by decide +kernel
theorem d_take_49 : decode prog_5_method_4_code 49 = .ok (.ireturn, 1) := by decide +kernel
end
section
def lf_pEmpty (P : ld_pT) : Int32 := if 0 < P.2.2 then 0 else 1
set_option maxHeartbeats 4000000 in
set_option maxRecDepth 100000 in
theorem lc_pEmpty (l : Launch) (D : va_G) (cI cZ cJ : ClassId) (a0 a1 a2 : Nat) (P : ld_pT) (R : Int32) (h : lf_pEmpty P = R) : Met l y_pEmpty (Cond.code y_pEmpty prog_5_method_2_code 1 (some .boolean) :: bgT) ({ frames := 0, cells := 0, slots := 0, locals := 0 }) (ld_PR D cI cZ cJ (ld_pW a0 a1 a2 cI cZ P) [.ref a0]) (vp_Si (fun z => z = R)) 0 0 (fun _ => False) := by
  refine Met.ofW (cc := prog_5_method_2_code) (maxL := 1) (ret := (some .boolean)) (by decide) rfl ?_
  intro p e s m args below meth c s₁ B hml hv
  obtain ⟨rfl, hP, hK, hN⟩ := hv
  have hx := B.exec
  have hb := B.bytes
  have hr := B.returns
  have hg : ∀ w ∈ bgT, w.before _ s = true := fun w h => atoms_spec (ws := (Cond.code y_pEmpty prog_5_method_2_code 1 (some .boolean) :: bgT)) B.pre w (List.mem_cons_of_mem _ h)
  have hown : s.vm.findClass "LoanDesk$Pile" = some m.cls := findClass_of_methodNamed B.named
  have hlocks := B.notSynchronized
  have hl := lv_entry ([.ref a0]) (n := 1) (Nat.le_of_ble_eq_true rfl)
  rw [lg_entry_eq]
  generalize (lg_sl ([.ref a0]) ++ List.replicate (1 - (lg_sl ([.ref a0])).length) Slot.unset).toArray = ls at hl ⊢
  have hl : lv_has ls 1 [(0, .ref a0)] := hl
  refine lv_aload_n hx hb d_pEmpty_0 rfl (lv_at hl 0 rfl) ?_
  refine va_get (D := D) (ci := 1) (v := .int P.2.2) (C := "LoanDesk$Pile") (T := T_Pile) (N := 3) hx hb hg u_Pile hown hK hP 0 rfl rfl 2 (by decide) (hg _ k_73) (fun _ h9 => h9) rfl d_pEmpty_1 ?_
  refine lv_if_gt (tgt := 11) hx hb d_pEmpty_4 (by decide) (fun c_1 => ?_) (fun c_1 => ?_)
  · have h := (if_pos c_1).symm.trans h
    refine lv_iconst (v := 0) hx hb d_pEmpty_11 (by decide) ?_
    exact W.zret (v := 0) hx hb hr rfl (fun t ht hW => ⟨_, rfl, h, ht⟩) (fun _ q => by cases q) d_pEmpty_12
  · have h := (if_neg c_1).symm.trans h
    refine lv_iconst (v := 1) hx hb d_pEmpty_7 (by decide) ?_
    refine lv_goto (tgt := 12) hx hb d_pEmpty_8 (by decide) ?_
    exact W.zret (v := 1) hx hb hr rfl (fun t ht hW => ⟨_, rfl, h, ht⟩) (fun _ q => by cases q) d_pEmpty_12
def lf_put (P : ld_pT) (p0 : Int32) : ld_pT := ld_lt (lf_isIndex p0) (fun r_1 => if r_1 = 0 then P else ld_lt (lf_isIndex P.2.2) (fun r_3 => if r_3 = 0 then P else if (P.2.1 p0.toNatClampNeg) = 0 then (upd P.1 P.2.2.toNatClampNeg p0, upd P.2.1 p0.toNatClampNeg (vp_nar .boolean 1), P.2.2 + 1) else P))
set_option maxHeartbeats 4000000 in
set_option maxRecDepth 100000 in
theorem lc_put (l : Launch) (D : va_G) (cI cZ cJ : ClassId) (a0 a1 a2 : Nat) (P : ld_pT) (p0 : Int32) (sz : Nat) (R : ld_pT) (h : lf_put P p0 = R) : Met l y_put (Cond.code y_put prog_5_method_3_code 2 none :: bgT) ({ frames := 1, cells := 0, slots := 0, locals := 20 }) (ld_PM D cI cZ cJ (ld_pW a0 a1 a2 cI cZ P) sz [.ref a0, .int p0]) (ld_QV D (ld_pW a0 a1 a2 cI cZ R) (va_A (ld_pW a0 a1 a2 cI cZ P) sz)) 0 0 ((va_A (ld_pW a0 a1 a2 cI cZ P) sz)) := by
  refine Met.ofW (cc := prog_5_method_3_code) (maxL := 2) (ret := none) (by decide) rfl ?_
  intro p e s m args below meth c s₁ B hml hv
  obtain ⟨rfl, hsz, hP, hK, hD0, hN⟩ := hv
  have hx := B.exec
  have hb := B.bytes
  have hr := B.returns
  have hg : ∀ w ∈ bgT, w.before _ s = true := fun w h => atoms_spec (ws := (Cond.code y_put prog_5_method_3_code 2 none :: bgT)) B.pre w (List.mem_cons_of_mem _ h)
  have hown : s.vm.findClass "LoanDesk$Pile" = some m.cls := findClass_of_methodNamed B.named
  have hlocks := B.notSynchronized
  subst hsz
  have hD := hD0.self (sz := s.heap.size)
  generalize hAe : va_A (ld_pW a0 a1 a2 cI cZ P) s.heap.size = A at hD ⊢
  have hA : ∀ q : Nat, s.heap.size ≤ q → A q := fun q h => by rw [← hAe]; exact Or.inr h
  have hS : va_S A s.heap s.heap [] := va_S.rf
  have hl := lv_entry ([.ref a0, .int p0]) (n := 2) (Nat.le_of_ble_eq_true rfl)
  rw [lg_entry_eq]
  generalize (lg_sl ([.ref a0, .int p0]) ++ List.replicate (2 - (lg_sl ([.ref a0, .int p0])).length) Slot.unset).toArray = ls at hl ⊢
  have hl : lv_has ls 2 [(0, .ref a0), (1, .int p0)] := hl
  refine lv_iload_n hx hb d_put_0 rfl (lv_at hl 1 rfl) ?_
  obtain ⟨r_1, e_1, h⟩ := ld_nm h
  refine ld_rd ((va_runSN (As := [.int p0]) (rest := []) ⟨hx, hb, hml, hown, hg⟩ (lc_isIndex l D cI cZ cJ p0 r_1 e_1) ⟨va_cnB 1 hg (ld_gd k_161) rfl rfl rfl (hN _ (ld_nwm 8 rfl)) (hg _ k_23) hd_isIndex ⟨Nat.le_of_ble_eq_true rfl, Nat.le_of_ble_eq_true rfl⟩, hg _ k_160, trivial⟩ (ld_preR hP hK hN [] rfl) rfl rfl hl.1 rfl (lv_room (Nat.le_of_ble_eq_true rfl)) d_put_1 ⟨Nat.zero_le _, Nat.zero_le _⟩).run) ?_
  refine lv_if_eq (tgt := 26) hx hb d_put_4 (by decide) (fun c_2 => ?_) (fun c_2 => ?_)
  · have h := (if_pos c_2).symm.trans h
    subst h
    exact W.vret hx hb hr (fun t ht hW => ⟨⟨(), rfl, trivial, by rw [ht]; exact hP, hD⟩, hS.F ht⟩) hS.2.2 d_put_26
  · have h := (if_neg c_2).symm.trans h
    refine lv_aload_n hx hb d_put_7 rfl (lv_at hl 0 rfl) ?_
    refine va_get (D := D) (ci := 1) (v := .int P.2.2) (C := "LoanDesk$Pile") (T := T_Pile) (N := 3) hx hb hg u_Pile hown hK hP 0 rfl rfl 2 (by decide) (hg _ k_73) (fun _ h9 => h9) rfl d_put_8 ?_
    obtain ⟨r_3, e_3, h⟩ := ld_nm h
    refine ld_rd ((va_runSN (As := [.int P.2.2]) (rest := []) ⟨hx, hb, hml, hown, hg⟩ (lc_isIndex l D cI cZ cJ P.2.2 r_3 e_3) ⟨va_cnB 1 hg (ld_gd k_161) rfl rfl rfl (hN _ (ld_nwm 8 rfl)) (hg _ k_23) hd_isIndex ⟨Nat.le_of_ble_eq_true rfl, Nat.le_of_ble_eq_true rfl⟩, hg _ k_160, trivial⟩ (ld_preR hP hK hN [] rfl) rfl rfl hl.1 rfl (lv_room (Nat.le_of_ble_eq_true rfl)) d_put_11 ⟨Nat.zero_le _, Nat.zero_le _⟩).run) ?_
    refine lv_if_eq (tgt := 26) hx hb d_put_14 (by decide) (fun c_4 => ?_) (fun c_4 => ?_)
    · have h := (if_pos c_4).symm.trans h
      subst h
      exact W.vret hx hb hr (fun t ht hW => ⟨⟨(), rfl, trivial, by rw [ht]; exact hP, hD⟩, hS.F ht⟩) hS.2.2 d_put_26
    · have h := (if_neg c_4).symm.trans h
      refine lv_aload_n hx hb d_put_17 rfl (lv_at hl 0 rfl) ?_
      refine va_get (D := D) (ci := 1) (v := .ref a2) (C := "LoanDesk$Pile") (T := T_Pile) (N := 3) hx hb hg u_Pile hown hK hP 0 rfl rfl 1 (by decide) (hg _ k_72) (fun _ h9 => h9) rfl d_put_18 ?_
      refine lv_iload_n hx hb d_put_21 rfl (lv_at hl 1 rfl) ?_
      refine va_zald hx hb hK hP 2 1 rfl rfl (i := p0) (ld_ix e_1 c_2) d_put_22 ?_
      refine lv_if_eq (tgt := 27) hx hb d_put_23 (by decide) (fun c_5 => ?_) (fun c_5 => ?_)
      · have h := (if_pos c_5).symm.trans h
        refine lv_aload_n hx hb d_put_27 rfl (lv_at hl 0 rfl) ?_
        refine va_get (D := D) (ci := 1) (v := .ref a2) (C := "LoanDesk$Pile") (T := T_Pile) (N := 3) hx hb hg u_Pile hown hK hP 0 rfl rfl 1 (by decide) (hg _ k_72) (fun _ h9 => h9) rfl d_put_28 ?_
        refine lv_iload_n hx hb d_put_31 rfl (lv_at hl 1 rfl) ?_
        refine lv_iconst (v := 1) hx hb d_put_32 (by decide) ?_
        refine va_zast hx hb hK hP hD hS 2 1 rfl rfl (i := p0) (ld_ix e_1 c_2) d_put_33 (fun H locs hP hD hS => ?_)
        have hP : va_P D vwCl (ld_pW a0 a1 a2 cI cZ (P.1, upd P.2.1 p0.toNatClampNeg (vp_nar .boolean 1), P.2.2)) H := hP
        have hD : va_D A (ld_pW a0 a1 a2 cI cZ (P.1, upd P.2.1 p0.toNatClampNeg (vp_nar .boolean 1), P.2.2)) := hD
        refine lv_aload_n hx hb d_put_34 rfl (lv_at hl 0 rfl) ?_
        refine va_get (D := D) (ci := 1) (v := .ref a1) (C := "LoanDesk$Pile") (T := T_Pile) (N := 3) hx hb hg u_Pile hown hK hP 0 rfl rfl 0 (by decide) (hg _ k_71) (fun _ h9 => h9) rfl d_put_35 ?_
        refine lv_aload_n hx hb d_put_38 rfl (lv_at hl 0 rfl) ?_
        refine va_get (D := D) (ci := 1) (v := .int P.2.2) (C := "LoanDesk$Pile") (T := T_Pile) (N := 3) hx hb hg u_Pile hown hK hP 0 rfl rfl 2 (by decide) (hg _ k_73) (fun _ h9 => h9) rfl d_put_39 ?_
        refine lv_iload_n hx hb d_put_42 rfl (lv_at hl 1 rfl) ?_
        refine va_iast hx hb hK hP hD hS 1 0 rfl rfl (i := P.2.2) (ld_ix e_3 c_4) d_put_43 (fun H locs hP hD hS => ?_)
        have hP : va_P D vwCl (ld_pW a0 a1 a2 cI cZ (upd P.1 P.2.2.toNatClampNeg p0, upd P.2.1 p0.toNatClampNeg (vp_nar .boolean 1), P.2.2)) H := hP
        have hD : va_D A (ld_pW a0 a1 a2 cI cZ (upd P.1 P.2.2.toNatClampNeg p0, upd P.2.1 p0.toNatClampNeg (vp_nar .boolean 1), P.2.2)) := hD
        refine lv_aload_n hx hb d_put_44 rfl (lv_at hl 0 rfl) ?_
        refine lv_dup hx hb d_put_45 rfl ?_
        refine va_get (D := D) (ci := 1) (v := .int P.2.2) (C := "LoanDesk$Pile") (T := T_Pile) (N := 3) hx hb hg u_Pile hown hK hP 0 rfl rfl 2 (by decide) (hg _ k_73) (fun _ h9 => h9) rfl d_put_46 ?_
        refine lv_iconst (v := 1) hx hb d_put_49 (by decide) ?_
        refine lv_iadd hx hb d_put_50 ?_
        refine va_put (D := D) (ci := 1) (v := .int (P.2.2 + 1)) (ty := .int) (C := "LoanDesk$Pile") (T := T_Pile) (N := 3) hx hb hg u_Pile t_Pile tk_Pile n_Pile hown hK hP hD hS 0 rfl rfl 2 (by decide) (hg _ k_73) (fun _ h9 => h9) rfl (by decide +kernel) rfl rfl (Nat.le_of_ble_eq_true rfl) d_put_51 (fun H locs hP hD hS => ?_)
        have hP : va_P D vwCl (ld_pW a0 a1 a2 cI cZ (upd P.1 P.2.2.toNatClampNeg p0, upd P.2.1 p0.toNatClampNeg (vp_nar .boolean 1), P.2.2 + 1)) H := hP
        have hD : va_D A (ld_pW a0 a1 a2 cI cZ (upd P.1 P.2.2.toNatClampNeg p0, upd P.2.1 p0.toNatClampNeg (vp_nar .boolean 1), P.2.2 + 1)) := hD
        subst h
        exact W.vret hx hb hr (fun t ht hW => ⟨⟨(), rfl, trivial, by rw [ht]; exact hP, hD⟩, hS.F ht⟩) hS.2.2 d_put_54
      · have h := (if_neg c_5).symm.trans h
        subst h
        exact W.vret hx hb hr (fun t ht hW => ⟨⟨(), rfl, trivial, by rw [ht]; exact hP, hD⟩, hS.F ht⟩) hS.2.2 d_put_26
def lf_take (P : ld_pT) : Int32 × ld_pT := ld_lt (lf_isIndex (P.2.2 - 1)) (fun r_1 => if r_1 = 0 then ((-1), P) else ld_lt (lf_isIndex (P.1 (P.2.2 - 1).toNatClampNeg)) (fun r_3 => if r_3 = 0 then (P.1 (P.2.2 - 1).toNatClampNeg, (P.1, P.2.1, P.2.2 - 1)) else (P.1 (P.2.2 - 1).toNatClampNeg, (P.1, upd P.2.1 ((P.1 (P.2.2 - 1).toNatClampNeg).toNatClampNeg) (vp_nar .boolean 0), P.2.2 - 1))))
set_option maxHeartbeats 4000000 in
set_option maxRecDepth 100000 in
theorem lc_take (l : Launch) (D : va_G) (cI cZ cJ : ClassId) (a0 a1 a2 : Nat) (P : ld_pT) (sz : Nat) (R : Int32 × ld_pT) (h : lf_take P = R) : Met l y_take (Cond.code y_take prog_5_method_4_code 2 (some .int) :: bgT) ({ frames := 1, cells := 0, slots := 0, locals := 20 }) (ld_PM D cI cZ cJ (ld_pW a0 a1 a2 cI cZ P) sz [.ref a0]) (ld_QI D (ld_pW a0 a1 a2 cI cZ R.2) (va_A (ld_pW a0 a1 a2 cI cZ P) sz) R.1) 0 0 ((va_A (ld_pW a0 a1 a2 cI cZ P) sz)) := by
  refine Met.ofW (cc := prog_5_method_4_code) (maxL := 2) (ret := (some .int)) (by decide) rfl ?_
  intro p e s m args below meth c s₁ B hml hv
  obtain ⟨rfl, hsz, hP, hK, hD0, hN⟩ := hv
  have hx := B.exec
  have hb := B.bytes
  have hr := B.returns
  have hg : ∀ w ∈ bgT, w.before _ s = true := fun w h => atoms_spec (ws := (Cond.code y_take prog_5_method_4_code 2 (some .int) :: bgT)) B.pre w (List.mem_cons_of_mem _ h)
  have hown : s.vm.findClass "LoanDesk$Pile" = some m.cls := findClass_of_methodNamed B.named
  have hlocks := B.notSynchronized
  subst hsz
  have hD := hD0.self (sz := s.heap.size)
  generalize hAe : va_A (ld_pW a0 a1 a2 cI cZ P) s.heap.size = A at hD ⊢
  have hA : ∀ q : Nat, s.heap.size ≤ q → A q := fun q h => by rw [← hAe]; exact Or.inr h
  have hS : va_S A s.heap s.heap [] := va_S.rf
  have hl := lv_entry ([.ref a0]) (n := 2) (Nat.le_of_ble_eq_true rfl)
  rw [lg_entry_eq]
  generalize (lg_sl ([.ref a0]) ++ List.replicate (2 - (lg_sl ([.ref a0])).length) Slot.unset).toArray = ls at hl ⊢
  have hl : lv_has ls 2 [(0, .ref a0)] := hl
  refine lv_aload_n hx hb d_take_0 rfl (lv_at hl 0 rfl) ?_
  refine va_get (D := D) (ci := 1) (v := .int P.2.2) (C := "LoanDesk$Pile") (T := T_Pile) (N := 3) hx hb hg u_Pile hown hK hP 0 rfl rfl 2 (by decide) (hg _ k_73) (fun _ h9 => h9) rfl d_take_1 ?_
  refine lv_iconst (v := 1) hx hb d_take_4 (by decide) ?_
  refine lv_isub hx hb d_take_5 ?_
  obtain ⟨r_1, e_1, h⟩ := ld_nm h
  refine ld_rd ((va_runSN (As := [.int (P.2.2 - 1)]) (rest := []) ⟨hx, hb, hml, hown, hg⟩ (lc_isIndex l D cI cZ cJ (P.2.2 - 1) r_1 e_1) ⟨va_cnB 1 hg (ld_gd k_161) rfl rfl rfl (hN _ (ld_nwm 8 rfl)) (hg _ k_23) hd_isIndex ⟨Nat.le_of_ble_eq_true rfl, Nat.le_of_ble_eq_true rfl⟩, hg _ k_160, trivial⟩ (ld_preR hP hK hN [] rfl) rfl rfl hl.1 rfl (lv_room (Nat.le_of_ble_eq_true rfl)) d_take_6 ⟨Nat.zero_le _, Nat.zero_le _⟩).run) ?_
  refine lv_if_ne (tgt := 14) hx hb d_take_9 (by decide) (fun c_2 => ?_) (fun c_2 => ?_)
  · have h := (if_neg c_2).symm.trans h
    refine lv_aload_n hx hb d_take_14 rfl (lv_at hl 0 rfl) ?_
    refine lv_dup hx hb d_take_15 rfl ?_
    refine va_get (D := D) (ci := 1) (v := .int P.2.2) (C := "LoanDesk$Pile") (T := T_Pile) (N := 3) hx hb hg u_Pile hown hK hP 0 rfl rfl 2 (by decide) (hg _ k_73) (fun _ h9 => h9) rfl d_take_16 ?_
    refine lv_iconst (v := 1) hx hb d_take_19 (by decide) ?_
    refine lv_isub hx hb d_take_20 ?_
    refine va_put (D := D) (ci := 1) (v := .int (P.2.2 - 1)) (ty := .int) (C := "LoanDesk$Pile") (T := T_Pile) (N := 3) hx hb hg u_Pile t_Pile tk_Pile n_Pile hown hK hP hD hS 0 rfl rfl 2 (by decide) (hg _ k_73) (fun _ h9 => h9) rfl (by decide +kernel) rfl rfl (Nat.le_of_ble_eq_true rfl) d_take_21 (fun H locs hP hD hS => ?_)
    have hP : va_P D vwCl (ld_pW a0 a1 a2 cI cZ (P.1, P.2.1, P.2.2 - 1)) H := hP
    have hD : va_D A (ld_pW a0 a1 a2 cI cZ (P.1, P.2.1, P.2.2 - 1)) := hD
    refine lv_aload_n hx hb d_take_24 rfl (lv_at hl 0 rfl) ?_
    refine va_get (D := D) (ci := 1) (v := .ref a1) (C := "LoanDesk$Pile") (T := T_Pile) (N := 3) hx hb hg u_Pile hown hK hP 0 rfl rfl 0 (by decide) (hg _ k_71) (fun _ h9 => h9) rfl d_take_25 ?_
    refine lv_aload_n hx hb d_take_28 rfl (lv_at hl 0 rfl) ?_
    refine va_get (D := D) (ci := 1) (v := .int (P.2.2 - 1)) (C := "LoanDesk$Pile") (T := T_Pile) (N := 3) hx hb hg u_Pile hown hK hP 0 rfl rfl 2 (by decide) (hg _ k_73) (fun _ h9 => h9) rfl d_take_29 ?_
    refine va_iald hx hb hK hP 1 0 rfl rfl (i := P.2.2 - 1) (ld_ix e_1 c_2) d_take_32 ?_
    refine lv_istore_n (lv' := [(1, .int (P.1 (P.2.2 - 1).toNatClampNeg)), (0, .ref a0)]) hx hb d_take_33 rfl hl (by decide) rfl (fun ls hl => ?_)
    refine lv_iload_n hx hb d_take_34 rfl (lv_at hl 0 rfl) ?_
    obtain ⟨r_3, e_3, h⟩ := ld_nm h
    refine ld_rd ((va_runSN (As := [.int (P.1 (P.2.2 - 1).toNatClampNeg)]) (rest := []) ⟨hx, hb, hml, hown, hg⟩ (lc_isIndex l D cI cZ cJ (P.1 (P.2.2 - 1).toNatClampNeg) r_3 e_3) ⟨va_cnB 1 hg (ld_gd k_161) rfl rfl rfl (hN _ (ld_nwm 8 rfl)) (hg _ k_23) hd_isIndex ⟨Nat.le_of_ble_eq_true rfl, Nat.le_of_ble_eq_true rfl⟩, hg _ k_160, trivial⟩ (ld_preR hP hK hN [] rfl) rfl rfl hl.1 rfl (lv_room (Nat.le_of_ble_eq_true rfl)) d_take_35 ⟨Nat.zero_le _, Nat.zero_le _⟩).run) ?_
    refine lv_if_eq (tgt := 48) hx hb d_take_38 (by decide) (fun c_4 => ?_) (fun c_4 => ?_)
    · have h := (if_pos c_4).symm.trans h
      refine lv_iload_n hx hb d_take_48 rfl (lv_at hl 0 rfl) ?_
      subst h
      exact W.iret (v := P.1 (P.2.2 - 1).toNatClampNeg) hx hb hr (fun t ht hW => ⟨⟨_, (), rfl, rfl, by rw [ht]; exact hP, hD⟩, hS.F ht⟩) hS.2.2 d_take_49
    · have h := (if_neg c_4).symm.trans h
      refine lv_aload_n hx hb d_take_41 rfl (lv_at hl 1 rfl) ?_
      refine va_get (D := D) (ci := 1) (v := .ref a2) (C := "LoanDesk$Pile") (T := T_Pile) (N := 3) hx hb hg u_Pile hown hK hP 0 rfl rfl 1 (by decide) (hg _ k_72) (fun _ h9 => h9) rfl d_take_42 ?_
      refine lv_iload_n hx hb d_take_45 rfl (lv_at hl 0 rfl) ?_
      refine lv_iconst (v := 0) hx hb d_take_46 (by decide) ?_
      refine va_zast hx hb hK hP hD hS 2 1 rfl rfl (i := P.1 (P.2.2 - 1).toNatClampNeg) (ld_ix e_3 c_4) d_take_47 (fun H locs hP hD hS => ?_)
      have hP : va_P D vwCl (ld_pW a0 a1 a2 cI cZ (P.1, upd P.2.1 ((P.1 (P.2.2 - 1).toNatClampNeg).toNatClampNeg) (vp_nar .boolean 0), P.2.2 - 1)) H := hP
      have hD : va_D A (ld_pW a0 a1 a2 cI cZ (P.1, upd P.2.1 ((P.1 (P.2.2 - 1).toNatClampNeg).toNatClampNeg) (vp_nar .boolean 0), P.2.2 - 1)) := hD
      refine lv_iload_n hx hb d_take_48 rfl (lv_at hl 0 rfl) ?_
      subst h
      exact W.iret (v := P.1 (P.2.2 - 1).toNatClampNeg) hx hb hr (fun t ht hW => ⟨⟨_, (), rfl, rfl, by rw [ht]; exact hP, hD⟩, hS.F ht⟩) hS.2.2 d_take_49
  · have h := (if_pos c_2).symm.trans h
    refine lv_iconst (v := (-1)) hx hb d_take_12 (by decide) ?_
    subst h
    exact W.iret (v := (-1)) hx hb hr (fun t ht hW => ⟨⟨_, (), rfl, rfl, by rw [ht]; exact hP, hD⟩, hS.F ht⟩) hS.2.2 d_take_13
end
section
theorem d_comesTo_0 : decode prog_6_method_2_code 0 = .ok (.iload_n 1, 1) := by decide +kernel
theorem d_comesTo_1 : decode prog_6_method_2_code 1 = .ok (.invokestatic 22, 3) := by decide +kernel
theorem d_comesTo_4 : decode prog_6_method_2_code 4 = .ok (.ifCond .eq 17, 3) := by decide +kernel
theorem d_comesTo_7 : decode prog_6_method_2_code 7 = .ok (.aload_n 0, 1) := by decide +kernel
theorem d_comesTo_8 : decode prog_6_method_2_code 8 = .ok (.getfield 9, 3) := by decide +kernel
theorem d_comesTo_11 : decode prog_6_method_2_code 11 = .ok (.iload_n 1, 1) := by decide +kernel
theorem d_comesTo_12 : decode prog_6_method_2_code 12 = .ok (.iaload, 1) := by decide +kernel
theorem d_comesTo_13 : decode prog_6_method_2_code 13 = .ok (.iconst 1, 1) := by decide +kernel
theorem d_comesTo_14 : decode prog_6_method_2_code 14 = .ok (.if_icmp .ne 7, 3) := by decide +kernel
theorem d_comesTo_17 : decode prog_6_method_2_code 17 = .ok (.iconst 1, 1) := by decide +kernel
theorem d_comesTo_18 : decode prog_6_method_2_code 18 = .ok (.goto 4, 3) := by decide +kernel
theorem d_comesTo_21 : decode prog_6_method_2_code 21 = .ok (.iconst 0, 1) := by decide +kernel
theorem d_comesTo_22 : decode prog_6_method_2_code 22 = .ok (.ireturn, 1) := by decide +kernel
theorem d_rcount_0 : decode prog_6_method_3_code 0 = .ok (.iconst 0, 1) := by decide +kernel
theorem d_rcount_1 : decode prog_6_method_3_code 1 = .ok (.istore_n 1, 1) := by decide +kernel
theorem d_rcount_2 : decode prog_6_method_3_code 2 = .ok (.iconst 0, 1) := by decide +kernel
theorem d_rcount_3 : decode prog_6_method_3_code 3 = .ok (.istore_n 2, 1) := by decide +kernel
theorem d_rcount_4 : decode prog_6_method_3_code 4 = .ok (.iload_n 2, 1) := by decide +kernel
theorem d_rcount_5 : decode prog_6_method_3_code 5 = .ok (.bipush 120, 2) := by decide +kernel
theorem d_rcount_7 : decode prog_6_method_3_code 7 = .ok (.if_icmp .ge 18, 3) := by decide +kernel
theorem d_rcount_10 : decode prog_6_method_3_code 10 = .ok (.iload_n 1, 1) := by decide +kernel
theorem d_rcount_11 : decode prog_6_method_3_code 11 = .ok (.aload_n 0, 1) := by decide +kernel
theorem d_rcount_12 : decode prog_6_method_3_code 12 = .ok (.getfield 9, 3) := by decide +kernel
theorem d_rcount_15 : decode prog_6_method_3_code 15 = .ok (.iload_n 2, 1) := by decide +kernel
theorem d_rcount_16 : decode prog_6_method_3_code 16 = .ok (.iaload, 1) := by decide +kernel
theorem d_rcount_17 : decode prog_6_method_3_code 17 = .ok (.iadd, 1) := by decide +kernel
theorem d_rcount_18 : decode prog_6_method_3_code 18 = .ok (.istore_n 1, 1) := by decide +kernel
theorem d_rcount_19 : decode prog_6_method_3_code 19 = .ok (.iinc 2 1, 3) := by decide +kernel
theorem d_rcount_22 : decode prog_6_method_3_code 22 = .ok (.goto (-18), 3) := by decide +kernel
theorem d_rcount_25 : decode prog_6_method_3_code 25 = .ok (.iload_n 1, 1) := by decide +kernel
theorem d_rcount_26 : decode prog_6_method_3_code 26 = .ok (.ireturn, 1) := by decide +kernel
theorem d_arrive_0 : decode prog_6_method_5_code 0 = .ok (.aload_n 1, 1) := by decide +kernel
theorem d_arrive_1 : decode prog_6_method_5_code 1 = .ok (.iload_n 2, 1) := by decide +kernel
theorem d_arrive_2 : decode prog_6_method_5_code 2 = .ok (.invokevirtual 53, 3) := by decide +kernel
theorem d_arrive_5 : decode prog_6_method_5_code 5 = .ok (.ifCond .eq 26, 3) := by decide +kernel
theorem d_arrive_8 : decode prog_6_method_5_code 8 = .ok (.aload_n 0, 1) := by decide +kernel
theorem d_arrive_9 : decode prog_6_method_5_code 9 = .ok (.iload_n 2, 1) := by decide +kernel
theorem d_arrive_10 : decode prog_6_method_5_code 10 = .ok (.invokevirtual 56, 3) := by decide +kernel
theorem d_arrive_13 : decode prog_6_method_5_code 13 = .ok (.ifCond .ne 18, 3) := by decide +kernel
theorem d_arrive_16 : decode prog_6_method_5_code 16 = .ok (.aload_n 0, 1) := by decide +kernel
theorem d_arrive_17 : decode prog_6_method_5_code 17 = .ok (.getfield 9, 3) := by decide +kernel
theorem d_arrive_20 : decode prog_6_method_5_code 20 = .ok (.iload_n 2, 1) := by decide +kernel
theorem d_arrive_21 : decode prog_6_method_5_code 21 = .ok (.iconst 1, 1) := by decide +kernel
theorem d_arrive_22 : decode prog_6_method_5_code 22 = .ok (.iastore, 1) := by decide +kernel
theorem d_arrive_23 : decode prog_6_method_5_code 23 = .ok (.aload_n 0, 1) := by decide +kernel
theorem d_arrive_24 : decode prog_6_method_5_code 24 = .ok (.getfield 18, 3) := by decide +kernel
theorem d_arrive_27 : decode prog_6_method_5_code 27 = .ok (.iload_n 2, 1) := by decide +kernel
theorem d_arrive_28 : decode prog_6_method_5_code 28 = .ok (.invokevirtual 59, 3) := by decide +kernel
theorem d_arrive_31 : decode prog_6_method_5_code 31 = .ok (.return_, 1) := by decide +kernel
theorem d_rfind_0 : decode prog_6_method_4_code 0 = .ok (.aload_n 0, 1) := by decide +kernel
theorem d_rfind_1 : decode prog_6_method_4_code 1 = .ok (.getfield 9, 3) := by decide +kernel
theorem d_rfind_4 : decode prog_6_method_4_code 4 = .ok (.iconst 0, 1) := by decide +kernel
theorem d_rfind_5 : decode prog_6_method_4_code 5 = .ok (.invokestatic 26, 3) := by decide +kernel
theorem d_rfind_8 : decode prog_6_method_4_code 8 = .ok (.aload_n 0, 1) := by decide +kernel
theorem d_rfind_9 : decode prog_6_method_4_code 9 = .ok (.aload_n 1, 1) := by decide +kernel
theorem d_rfind_10 : decode prog_6_method_4_code 10 = .ok (.iconst 0, 1) := by decide +kernel
theorem d_rfind_11 : decode prog_6_method_4_code 11 = .ok (.invokevirtual 32, 3) := by decide +kernel
theorem d_rfind_14 : decode prog_6_method_4_code 14 = .ok (.iconst 0, 1) := by decide +kernel
theorem d_rfind_15 : decode prog_6_method_4_code 15 = .ok (.istore_n 2, 1) := by decide +kernel
theorem d_rfind_16 : decode prog_6_method_4_code 16 = .ok (.iload_n 2, 1) := by decide +kernel
theorem d_rfind_17 : decode prog_6_method_4_code 17 = .ok (.bipush 120, 2) := by decide +kernel
theorem d_rfind_19 : decode prog_6_method_4_code 19 = .ok (.if_icmp .ge 47, 3) := by decide +kernel
theorem d_rfind_22 : decode prog_6_method_4_code 22 = .ok (.aload_n 0, 1) := by decide +kernel
theorem d_rfind_23 : decode prog_6_method_4_code 23 = .ok (.getfield 18, 3) := by decide +kernel
theorem d_rfind_26 : decode prog_6_method_4_code 26 = .ok (.invokevirtual 36, 3) := by decide +kernel
theorem d_rfind_29 : decode prog_6_method_4_code 29 = .ok (.ifCond .ne 37, 3) := by decide +kernel
theorem d_rfind_32 : decode prog_6_method_4_code 32 = .ok (.aload_n 0, 1) := by decide +kernel
theorem d_rfind_33 : decode prog_6_method_4_code 33 = .ok (.getfield 18, 3) := by decide +kernel
theorem d_rfind_36 : decode prog_6_method_4_code 36 = .ok (.invokevirtual 40, 3) := by decide +kernel
theorem d_rfind_39 : decode prog_6_method_4_code 39 = .ok (.istore_n 3, 1) := by decide +kernel
theorem d_rfind_40 : decode prog_6_method_4_code 40 = .ok (.aload_n 0, 1) := by decide +kernel
theorem d_rfind_41 : decode prog_6_method_4_code 41 = .ok (.aload_n 1, 1) := by decide +kernel
theorem d_rfind_42 : decode prog_6_method_4_code 42 = .ok (.aload_n 1, 1) := by decide +kernel
theorem d_rfind_43 : decode prog_6_method_4_code 43 = .ok (.iload_n 3, 1) := by decide +kernel
theorem d_rfind_44 : decode prog_6_method_4_code 44 = .ok (.invokevirtual 44, 3) := by decide +kernel
theorem d_rfind_47 : decode prog_6_method_4_code 47 = .ok (.invokevirtual 32, 3) := by decide +kernel
theorem d_rfind_50 : decode prog_6_method_4_code 50 = .ok (.aload_n 0, 1) := by decide +kernel
theorem d_rfind_51 : decode prog_6_method_4_code 51 = .ok (.aload_n 1, 1) := by decide +kernel
theorem d_rfind_52 : decode prog_6_method_4_code 52 = .ok (.aload_n 1, 1) := by decide +kernel
theorem d_rfind_53 : decode prog_6_method_4_code 53 = .ok (.iload_n 3, 1) := by decide +kernel
theorem d_rfind_54 : decode prog_6_method_4_code 54 = .ok (.invokevirtual 50, 3) := by decide +kernel
theorem d_rfind_57 : decode prog_6_method_4_code 57 = .ok (.invokevirtual 32, 3) := by decide +kernel
theorem d_rfind_60 : decode prog_6_method_4_code 60 = .ok (.iinc 2 1, 3) := by decide +kernel
theorem d_rfind_63 : decode prog_6_method_4_code 63 = .ok (.goto (-47), 3) := by decide +kernel
theorem d_rfind_66 : decode prog_6_method_4_code 66 = .ok (.return_, 1) := by decide +kernel
end
section
def lf_comesTo (rc : Nat → Int32) (p0 : Int32) : Int32 := ld_lt (lf_isIndex p0) (fun r_1 => if r_1 = 0 then 0 else if (rc p0.toNatClampNeg) = 1 then 1 else 0)
set_option maxHeartbeats 4000000 in
set_option maxRecDepth 100000 in
theorem lc_comesTo (l : Launch) (D : va_G) (cI cZ cJ : ClassId) (a : Nat → Nat) (rc : Nat → Int32) (p0 : Int32) (R : Int32) (h : lf_comesTo rc p0 = R) : Met l y_comesTo (Cond.code y_comesTo prog_6_method_2_code 2 (some .boolean) :: bgT) ({ frames := 1, cells := 0, slots := 0, locals := 20 }) (ld_PR D cI cZ cJ (ld_rW a cI rc) [.ref (a 8), .int p0]) (vp_Si (fun z => z = R)) 0 0 (fun _ => False) := by
  refine Met.ofW (cc := prog_6_method_2_code) (maxL := 2) (ret := (some .boolean)) (by decide) rfl ?_
  intro p e s m args below meth c s₁ B hml hv
  obtain ⟨rfl, hP, hK, hN⟩ := hv
  have hx := B.exec
  have hb := B.bytes
  have hr := B.returns
  have hg : ∀ w ∈ bgT, w.before _ s = true := fun w h => atoms_spec (ws := (Cond.code y_comesTo prog_6_method_2_code 2 (some .boolean) :: bgT)) B.pre w (List.mem_cons_of_mem _ h)
  have hown : s.vm.findClass "LoanDesk$Reach" = some m.cls := findClass_of_methodNamed B.named
  have hlocks := B.notSynchronized
  have hl := lv_entry ([.ref (a 8), .int p0]) (n := 2) (Nat.le_of_ble_eq_true rfl)
  rw [lg_entry_eq]
  generalize (lg_sl ([.ref (a 8), .int p0]) ++ List.replicate (2 - (lg_sl ([.ref (a 8), .int p0])).length) Slot.unset).toArray = ls at hl ⊢
  have hl : lv_has ls 2 [(0, .ref (a 8)), (1, .int p0)] := hl
  refine lv_iload_n hx hb d_comesTo_0 rfl (lv_at hl 1 rfl) ?_
  obtain ⟨r_1, e_1, h⟩ := ld_nm h
  refine ld_rd ((va_runSN (As := [.int p0]) (rest := []) ⟨hx, hb, hml, hown, hg⟩ (lc_isIndex l D cI cZ cJ p0 r_1 e_1) ⟨va_cnB 1 hg (ld_gd k_161) rfl rfl rfl (hN _ (ld_nwm 7 rfl)) (hg _ k_23) hd_isIndex ⟨Nat.le_of_ble_eq_true rfl, Nat.le_of_ble_eq_true rfl⟩, hg _ k_160, trivial⟩ (ld_preR hP hK hN [] rfl) rfl rfl hl.1 rfl (lv_room (Nat.le_of_ble_eq_true rfl)) d_comesTo_1 ⟨Nat.zero_le _, Nat.zero_le _⟩).run) ?_
  refine lv_if_eq (tgt := 21) hx hb d_comesTo_4 (by decide) (fun c_2 => ?_) (fun c_2 => ?_)
  · have h := (if_pos c_2).symm.trans h
    refine lv_iconst (v := 0) hx hb d_comesTo_21 (by decide) ?_
    exact W.zret (v := 0) hx hb hr rfl (fun t ht hW => ⟨_, rfl, h, ht⟩) (fun _ q => by cases q) d_comesTo_22
  · have h := (if_neg c_2).symm.trans h
    refine lv_aload_n hx hb d_comesTo_7 rfl (lv_at hl 0 rfl) ?_
    refine va_get (D := D) (ci := 2) (v := .ref (a 9)) (C := "LoanDesk$Reach") (T := T_Reach) (N := 2) hx hb hg u_Reach hown hK hP 0 rfl rfl 0 (by decide) (hg _ k_78) (fun _ h9 => h9) rfl d_comesTo_8 ?_
    refine lv_iload_n hx hb d_comesTo_11 rfl (lv_at hl 1 rfl) ?_
    refine va_iald hx hb hK hP 1 0 rfl rfl (i := p0) (ld_ix e_1 c_2) d_comesTo_12 ?_
    refine lv_iconst (v := 1) hx hb d_comesTo_13 (by decide) ?_
    refine lv_icmp_ne (tgt := 21) hx hb d_comesTo_14 (by decide) (fun c_3 => ?_) (fun c_3 => ?_)
    · have h := (if_neg c_3).symm.trans h
      refine lv_iconst (v := 0) hx hb d_comesTo_21 (by decide) ?_
      exact W.zret (v := 0) hx hb hr rfl (fun t ht hW => ⟨_, rfl, h, ht⟩) (fun _ q => by cases q) d_comesTo_22
    · have h := (if_pos c_3).symm.trans h
      refine lv_iconst (v := 1) hx hb d_comesTo_17 (by decide) ?_
      refine lv_goto (tgt := 22) hx hb d_comesTo_18 (by decide) ?_
      exact W.zret (v := 1) hx hb hr rfl (fun t ht hW => ⟨_, rfl, h, ht⟩) (fun _ q => by cases q) d_comesTo_22
theorem ld_ct01 {rc : Nat → Int32} {p r : Int32} (h : lf_comesTo rc p = r) : r = 0 ∨ r = 1 := by
  obtain ⟨z, e, h⟩ := ld_nm h
  by_cases h1 : z = 0
  · exact Or.inl ((if_pos h1).symm.trans h).symm
  · have h := (if_neg h1).symm.trans h
    by_cases h2 : rc p.toNatClampNeg = 1
    · exact Or.inr ((if_pos h2).symm.trans h).symm
    · exact Or.inl ((if_neg h2).symm.trans h).symm
theorem lnb_comesTo {rc : Nat → Int32} {p r : Int32} (h : lf_comesTo rc p = r) : narrow .boolean (.int r) = .int r := ld_nb (ld_ct01 h)
def ls_rcount_1 (rc : Nat → Int32) (v1 : Int32 × Int32) : Option ((Int32 × Int32) ⊕ (Int32 × Int32)) := if 120 ≤ v1.2 then some (.inr (v1.1, v1.2)) else if ld_in v1.2 120 = true then (some (.inl (v1.1 + (rc v1.2.toNatClampNeg), v1.2 + 1))) else none
def lm_rcount (N : Nat) (rc : Nat → Int32) : Option (Int32) := Option.bind (ld_it (ls_rcount_1 rc) N (0, 0)) (fun Y1 => some Y1.1)
set_option maxHeartbeats 4000000 in
set_option maxRecDepth 100000 in
theorem lc_rcount (l : Launch) (D : va_G) (cI cZ cJ : ClassId) (a : Nat → Nat) (rc : Nat → Int32) (N : Nat) (R : Int32) (h : lm_rcount N rc = some R) : Met l y_rcount (Cond.code y_rcount prog_6_method_3_code 3 (some .int) :: bgT) ({ frames := 0, cells := 0, slots := 0, locals := 0 }) (ld_PR D cI cZ cJ (ld_rW a cI rc) [.ref (a 8)]) (vp_Si (fun z => z = R)) 0 0 (fun _ => False) := by
  refine Met.ofW (cc := prog_6_method_3_code) (maxL := 3) (ret := (some .int)) (by decide) rfl ?_
  intro p e s m args below meth c s₁ B hml hv
  obtain ⟨rfl, hP, hK, hN⟩ := hv
  have hx := B.exec
  have hb := B.bytes
  have hr := B.returns
  have hg : ∀ w ∈ bgT, w.before _ s = true := fun w h => atoms_spec (ws := (Cond.code y_rcount prog_6_method_3_code 3 (some .int) :: bgT)) B.pre w (List.mem_cons_of_mem _ h)
  have hown : s.vm.findClass "LoanDesk$Reach" = some m.cls := findClass_of_methodNamed B.named
  have hlocks := B.notSynchronized
  have hl := lv_entry ([.ref (a 8)]) (n := 3) (Nat.le_of_ble_eq_true rfl)
  rw [lg_entry_eq]
  generalize (lg_sl ([.ref (a 8)]) ++ List.replicate (3 - (lg_sl ([.ref (a 8)])).length) Slot.unset).toArray = ls at hl ⊢
  have hl : lv_has ls 3 [(0, .ref (a 8))] := hl
  refine lv_iconst (v := 0) hx hb d_rcount_0 (by decide) ?_
  refine lv_istore_n (lv' := [(1, .int 0), (0, .ref (a 8))]) hx hb d_rcount_1 rfl hl (by decide) rfl (fun ls hl => ?_)
  refine lv_iconst (v := 0) hx hb d_rcount_2 (by decide) ?_
  refine lv_istore_n (lv' := [(2, .int 0), (1, .int 0), (0, .ref (a 8))]) hx hb d_rcount_3 rfl hl (by decide) rfl (fun ls hl => ?_)
  obtain ⟨Y1, eY1, h⟩ := ld_ob h
  have kont1 : ∀ (ls : Array Slot), lv_has ls 3 [(1, .int Y1.1)] → W p l e (headSpec (Cond.code y_rcount prog_6_method_3_code 3 (some .int) :: bgT) ({ frames := 0, cells := 0, slots := 0, locals := 0 })).room s m ([.ref (a 8)] : List Value).toArray below meth c s.heap [] 0 0 (MQ below (vp_Si (fun z => z = R)) ([.ref (a 8)] : List Value).toArray s 0 0 (fun _ => False)) (F0 m 25 ls []) := by
    intro ls hl
    refine lv_iload_n hx hb d_rcount_25 rfl (lv_at hl 0 rfl) ?_
    have h := Option.some.inj h
    exact W.iret (v := Y1.1) hx hb hr (fun t ht hW => ⟨_, rfl, h, ht⟩) (fun _ q => by cases q) d_rcount_26
  have key1 : ∀ (n : Nat) (v1 : Int32 × Int32) (ls : Array Slot), ld_it (ls_rcount_1 rc) n v1 = some Y1 → lv_has ls 3 [(0, .ref (a 8)), (1, .int v1.1), (2, .int v1.2)] → W p l e (headSpec (Cond.code y_rcount prog_6_method_3_code 3 (some .int) :: bgT) ({ frames := 0, cells := 0, slots := 0, locals := 0 })).room s m ([.ref (a 8)] : List Value).toArray below meth c s.heap [] 0 0 (MQ below (vp_Si (fun z => z = R)) ([.ref (a 8)] : List Value).toArray s 0 0 (fun _ => False)) (F0 m 4 ls []) := by
    intro n
    induction n with
    | zero => intro v1 ls g1 hl; cases g1
    | succ n ih1 =>
      intro v1 ls g1 hl
      obtain ⟨z1, hy1, g1⟩ := ld_its g1
      refine lv_iload_n hx hb d_rcount_4 rfl (lv_at hl 2 rfl) ?_
      refine lv_bipush (v := 120) hx hb d_rcount_5 (by decide) ?_
      refine lv_icmp_ge (tgt := 25) hx hb d_rcount_7 (by decide) (fun c_1 => ?_) (fun c_1 => ?_)
      · have hy1 := (if_pos c_1).symm.trans hy1
        obtain rfl := Option.some.inj hy1
        obtain rfl := Option.some.inj g1
        exact kont1 _ (lv_sub hl [1] rfl)
      · have hy1 := (if_neg c_1).symm.trans hy1
        refine lv_iload_n hx hb d_rcount_10 rfl (lv_at hl 1 rfl) ?_
        refine lv_aload_n hx hb d_rcount_11 rfl (lv_at hl 0 rfl) ?_
        refine va_get (D := D) (ci := 2) (v := .ref (a 9)) (C := "LoanDesk$Reach") (T := T_Reach) (N := 2) hx hb hg u_Reach hown hK hP 0 rfl rfl 0 (by decide) (hg _ k_78) (fun _ h9 => h9) rfl d_rcount_12 ?_
        refine lv_iload_n hx hb d_rcount_15 rfl (lv_at hl 2 rfl) ?_
        obtain ⟨i_2, hy1⟩ := ld_grd hy1
        refine va_iald hx hb hK hP 1 0 rfl rfl (i := v1.2) i_2 d_rcount_16 ?_
        refine lv_iadd hx hb d_rcount_17 ?_
        refine lv_istore_n (lv' := [(1, .int (v1.1 + (rc v1.2.toNatClampNeg))), (0, .ref (a 8)), (2, .int v1.2)]) hx hb d_rcount_18 rfl hl (by decide) rfl (fun ls hl => ?_)
        refine lv_iinc (v := v1.2 + 1) (lv' := [(2, .int (v1.2 + 1)), (1, .int (v1.1 + (rc v1.2.toNatClampNeg))), (0, .ref (a 8))]) hx hb d_rcount_19 hl (k := 2) rfl rfl (by decide) rfl (fun ls hl => ?_)
        refine lv_goto (tgt := 4) hx hb d_rcount_22 (by decide) ?_
        obtain rfl := Option.some.inj hy1
        exact ih1 (v1.1 + (rc v1.2.toNatClampNeg), v1.2 + 1) _ g1 (lv_sub hl [2, 1, 0] rfl)
  exact key1 N (0, 0) _ eY1 (lv_sub hl [2, 1, 0] rfl)
def lf_arrive (G : ld_gT) (rc : Nat → Int32) (q : ld_pT) (p0 : Int32) : (Nat → Int32) × ld_pT := ld_lt (lf_isPoint G p0) (fun r_1 => if r_1 = 0 then (rc, q) else ld_lt (lf_comesTo rc p0) (fun r_3 => if r_3 = 0 then ld_lt (lf_put q p0) (fun r_5 => ((upd rc p0.toNatClampNeg 1), r_5)) else (rc, q)))
set_option maxHeartbeats 4000000 in
set_option maxRecDepth 100000 in
theorem lc_arrive (l : Launch) (D : va_G) (cI cZ cJ : ClassId) (a : Nat → Nat) (G : ld_gT) (rc : Nat → Int32) (q : ld_pT) (p0 : Int32) (sz : Nat) (R : (Nat → Int32) × ld_pT) (h : lf_arrive G rc q p0 = R) : Met l y_arrive (Cond.code y_arrive prog_6_method_5_code 3 none :: bgT) ({ frames := 2, cells := 0, slots := 0, locals := 41 }) (ld_PM D cI cZ cJ (ld_gW a cI G ++ ld_rW a cI rc ++ ld_pW (a 10) (a 11) (a 12) cI cZ q) sz [.ref (a 8), .ref (a 1), .int p0]) (ld_QV D (ld_gW a cI G ++ ld_rW a cI R.1 ++ ld_pW (a 10) (a 11) (a 12) cI cZ R.2) (va_A (ld_gW a cI G ++ ld_rW a cI rc ++ ld_pW (a 10) (a 11) (a 12) cI cZ q) sz)) 0 0 ((va_A (ld_gW a cI G ++ ld_rW a cI rc ++ ld_pW (a 10) (a 11) (a 12) cI cZ q) sz)) := by
  refine Met.ofW (cc := prog_6_method_5_code) (maxL := 3) (ret := none) (by decide) rfl ?_
  intro p e s m args below meth c s₁ B hml hv
  obtain ⟨rfl, hsz, hP, hK, hD0, hN⟩ := hv
  have hx := B.exec
  have hb := B.bytes
  have hr := B.returns
  have hg : ∀ w ∈ bgT, w.before _ s = true := fun w h => atoms_spec (ws := (Cond.code y_arrive prog_6_method_5_code 3 none :: bgT)) B.pre w (List.mem_cons_of_mem _ h)
  have hown : s.vm.findClass "LoanDesk$Reach" = some m.cls := findClass_of_methodNamed B.named
  have hlocks := B.notSynchronized
  subst hsz
  have hD := hD0.self (sz := s.heap.size)
  generalize hAe : va_A (ld_gW a cI G ++ ld_rW a cI rc ++ ld_pW (a 10) (a 11) (a 12) cI cZ q) s.heap.size = A at hD ⊢
  have hA : ∀ q : Nat, s.heap.size ≤ q → A q := fun q h => by rw [← hAe]; exact Or.inr h
  have hS : va_S A s.heap s.heap [] := va_S.rf
  have hl := lv_entry ([.ref (a 8), .ref (a 1), .int p0]) (n := 3) (Nat.le_of_ble_eq_true rfl)
  rw [lg_entry_eq]
  generalize (lg_sl ([.ref (a 8), .ref (a 1), .int p0]) ++ List.replicate (3 - (lg_sl ([.ref (a 8), .ref (a 1), .int p0])).length) Slot.unset).toArray = ls at hl ⊢
  have hl : lv_has ls 3 [(0, .ref (a 8)), (1, .ref (a 1)), (2, .int p0)] := hl
  refine lv_aload_n hx hb d_arrive_0 rfl (lv_at hl 1 rfl) ?_
  refine lv_iload_n hx hb d_arrive_1 rfl (lv_at hl 2 rfl) ?_
  obtain ⟨r_1, e_1, h⟩ := ld_nm h
  refine ld_rd (W.runV (As := [.int p0]) (rest := []) ⟨hx, hb, hml, hown, hg⟩ (lc_isPoint l D cI cZ cJ a G p0 r_1 e_1) ⟨callB_of 1 hg (ld_gd k_155) rfl rfl rfl (hg _ k_24) (hg _ k_184) hd_isPoint ⟨Nat.le_of_ble_eq_true rfl, Nat.le_of_ble_eq_true rfl⟩, hg _ k_153, hg _ k_154⟩ (ld_preRV hP hK hN [0, 1, 2, 3, 4, 5, 6] rfl 0 0 rfl rfl) rfl rfl hl.1 rfl (lv_room (Nat.le_of_ble_eq_true rfl)) d_arrive_2 ⟨Nat.zero_le _, Nat.zero_le _⟩) ?_
  refine lv_if_eq (tgt := 31) hx hb d_arrive_5 (by decide) (fun c_2 => ?_) (fun c_2 => ?_)
  · have h := (if_pos c_2).symm.trans h
    subst h
    exact W.vret hx hb hr (fun t ht hW => ⟨⟨(), rfl, trivial, by rw [ht]; exact hP, hD⟩, hS.F ht⟩) hS.2.2 d_arrive_31
  · have h := (if_neg c_2).symm.trans h
    refine lv_aload_n hx hb d_arrive_8 rfl (lv_at hl 0 rfl) ?_
    refine lv_iload_n hx hb d_arrive_9 rfl (lv_at hl 2 rfl) ?_
    obtain ⟨r_3, e_3, h⟩ := ld_nm h
    refine ld_rd (W.runV (As := [.int p0]) (rest := []) ⟨hx, hb, hml, hown, hg⟩ (lc_comesTo l D cI cZ cJ a rc p0 r_3 e_3) ⟨callB_of 1 hg (ld_gd k_188) rfl rfl rfl (hg _ k_25) (hg _ k_185) hd_comesTo ⟨Nat.le_of_ble_eq_true rfl, Nat.le_of_ble_eq_true rfl⟩, hg _ k_186, hg _ k_187⟩ (ld_preRV hP hK hN [7, 8] rfl 2 0 rfl rfl) rfl rfl hl.1 rfl (lv_room (Nat.le_of_ble_eq_true rfl)) d_arrive_10 ⟨Nat.zero_le _, Nat.zero_le _⟩) ?_
    refine lv_if_ne (tgt := 31) hx hb d_arrive_13 (by decide) (fun c_4 => ?_) (fun c_4 => ?_)
    · have h := (if_neg c_4).symm.trans h
      subst h
      exact W.vret hx hb hr (fun t ht hW => ⟨⟨(), rfl, trivial, by rw [ht]; exact hP, hD⟩, hS.F ht⟩) hS.2.2 d_arrive_31
    · have h := (if_pos c_4).symm.trans h
      refine lv_aload_n hx hb d_arrive_16 rfl (lv_at hl 0 rfl) ?_
      refine va_get (D := D) (ci := 2) (v := .ref (a 9)) (C := "LoanDesk$Reach") (T := T_Reach) (N := 2) hx hb hg u_Reach hown hK hP 7 rfl rfl 0 (by decide) (hg _ k_78) (fun _ h9 => h9) rfl d_arrive_17 ?_
      refine lv_iload_n hx hb d_arrive_20 rfl (lv_at hl 2 rfl) ?_
      refine lv_iconst (v := 1) hx hb d_arrive_21 (by decide) ?_
      refine va_iast hx hb hK hP hD hS 8 0 rfl rfl (i := p0) (ld_pt e_1 c_2) d_arrive_22 (fun H locs hP hD hS => ?_)
      have hP : va_P D vwCl (ld_gW a cI G ++ ld_rW a cI (upd rc p0.toNatClampNeg 1) ++ ld_pW (a 10) (a 11) (a 12) cI cZ q) H := hP
      have hD : va_D A (ld_gW a cI G ++ ld_rW a cI (upd rc p0.toNatClampNeg 1) ++ ld_pW (a 10) (a 11) (a 12) cI cZ q) := hD
      refine lv_aload_n hx hb d_arrive_23 rfl (lv_at hl 0 rfl) ?_
      refine va_get (D := D) (ci := 2) (v := .ref (a 10)) (C := "LoanDesk$Reach") (T := T_Reach) (N := 2) hx hb hg u_Reach hown hK hP 7 rfl rfl 1 (by decide) (hg _ k_79) (fun _ h9 => h9) rfl d_arrive_24 ?_
      refine lv_iload_n hx hb d_arrive_27 rfl (lv_at hl 2 rfl) ?_
      obtain ⟨r_5, e_5, h⟩ := ld_nm h
      refine ld_mv (wr := ([0, 1, 2, 3, 4, 5, 6, 7, 8] : List Nat).filterMap (fun i => (ld_gW a cI G ++ ld_rW a cI (upd rc p0.toNatClampNeg 1) ++ ld_pW (a 10) (a 11) (a 12) cI cZ q)[i]?)) (ws2 := ld_gW a cI G ++ ld_rW a cI (upd rc p0.toNatClampNeg 1) ++ ld_pW (a 10) (a 11) (a 12) cI cZ r_5) (va_runV (As := [.int p0]) (rest := []) ⟨hx, hb, hml, hown, hg⟩ (lc_put l D cI cZ cJ (a 10) (a 11) (a 12) q p0 _ r_5 e_5) ⟨callB_of 1 hg (ld_gd k_192) rfl rfl rfl (hg _ k_26) (hg _ k_189) hd_put ⟨Nat.le_of_ble_eq_true rfl, Nat.le_of_ble_eq_true rfl⟩, hg _ k_190, hg _ k_191⟩ (ld_preMV hP hK hN hD [9, 10, 11] (by decide) rfl 1 0 rfl rfl) rfl rfl hl.1 rfl (lv_room (Nat.le_of_ble_eq_true rfl)) d_arrive_28 ⟨Nat.zero_le _, Nat.zero_le _⟩) hP hD hS hA [9, 10, 11] [0, 1, 2, 3, 4, 5, 6, 7, 8] [0, 1, 2, 3, 4, 5, 6, 7, 8, 9, 10, 11] rfl rfl (by decide) (by decide) (by decide) rfl (fun H locs hP hD hS => ?_)
      subst h
      exact W.vret hx hb hr (fun t ht hW => ⟨⟨(), rfl, trivial, by rw [ht]; exact hP, hD⟩, hS.F ht⟩) hS.2.2 d_arrive_31
def ls_rfind_1 (G : ld_gT) (v1 : Int32 × (Nat → Int32) × ld_pT) : Option ((Int32 × (Nat → Int32) × ld_pT) ⊕ (Int32 × (Nat → Int32) × ld_pT)) := if 120 ≤ v1.1 then some (.inr (v1.1, v1.2.1, v1.2.2)) else ld_lt (lf_pEmpty v1.2.2) (fun r_3 => if r_3 = 0 then (ld_lt (lf_take v1.2.2) (fun r_5 => ld_lt (lf_firstNext G r_5.1) (fun r_6 => ld_lt (lf_arrive G v1.2.1 r_5.2 r_6) (fun r_7 => ld_lt (lf_secondNext G r_5.1) (fun r_8 => ld_lt (lf_arrive G r_7.1 r_7.2 r_8) (fun r_9 => some (.inl (v1.1 + 1, r_9.1, r_9.2)))))))) else some (.inr (v1.1, v1.2.1, v1.2.2)))
def lm_rfind (N : Nat) (G : ld_gT) (rc : Nat → Int32) (q : ld_pT) : Option ((Nat → Int32) × ld_pT) := ld_lt (lf_arrive G (ld_fl 120 0 rc) q 0) (fun r_1 => Option.bind (ld_it (ls_rfind_1 G) N (0, r_1.1, r_1.2)) (fun Y1 => some (Y1.2.1, Y1.2.2)))
set_option maxHeartbeats 4000000 in
set_option maxRecDepth 100000 in
theorem lc_rfind (l : Launch) (D : va_G) (cI cZ cJ : ClassId) (a : Nat → Nat) (G : ld_gT) (rc : Nat → Int32) (q : ld_pT) (sz : Nat) (N : Nat) (R : (Nat → Int32) × ld_pT) (h : lm_rfind N G rc q = some R) : Met l y_rfind (Cond.code y_rfind prog_6_method_4_code 4 none :: bgT) ({ frames := 3, cells := 0, slots := 0, locals := 63 }) (ld_PM D cI cZ cJ (ld_gW a cI G ++ ld_rW a cI rc ++ ld_pW (a 10) (a 11) (a 12) cI cZ q) sz [.ref (a 8), .ref (a 1)]) (ld_QV D (ld_gW a cI G ++ ld_rW a cI R.1 ++ ld_pW (a 10) (a 11) (a 12) cI cZ R.2) (va_A (ld_gW a cI G ++ ld_rW a cI rc ++ ld_pW (a 10) (a 11) (a 12) cI cZ q) sz)) 0 0 ((va_A (ld_gW a cI G ++ ld_rW a cI rc ++ ld_pW (a 10) (a 11) (a 12) cI cZ q) sz)) := by
  refine Met.ofW (cc := prog_6_method_4_code) (maxL := 4) (ret := none) (by decide) rfl ?_
  intro p e s m args below meth c s₁ B hml hv
  obtain ⟨rfl, hsz, hP, hK, hD0, hN⟩ := hv
  have hx := B.exec
  have hb := B.bytes
  have hr := B.returns
  have hg : ∀ w ∈ bgT, w.before _ s = true := fun w h => atoms_spec (ws := (Cond.code y_rfind prog_6_method_4_code 4 none :: bgT)) B.pre w (List.mem_cons_of_mem _ h)
  have hown : s.vm.findClass "LoanDesk$Reach" = some m.cls := findClass_of_methodNamed B.named
  have hlocks := B.notSynchronized
  subst hsz
  have hD := hD0.self (sz := s.heap.size)
  generalize hAe : va_A (ld_gW a cI G ++ ld_rW a cI rc ++ ld_pW (a 10) (a 11) (a 12) cI cZ q) s.heap.size = A at hD ⊢
  have hA : ∀ q : Nat, s.heap.size ≤ q → A q := fun q h => by rw [← hAe]; exact Or.inr h
  have hS : va_S A s.heap s.heap [] := va_S.rf
  have hl := lv_entry ([.ref (a 8), .ref (a 1)]) (n := 4) (Nat.le_of_ble_eq_true rfl)
  rw [lg_entry_eq]
  generalize (lg_sl ([.ref (a 8), .ref (a 1)]) ++ List.replicate (4 - (lg_sl ([.ref (a 8), .ref (a 1)])).length) Slot.unset).toArray = ls at hl ⊢
  have hl : lv_has ls 4 [(0, .ref (a 8)), (1, .ref (a 1))] := hl
  refine lv_aload_n hx hb d_rfind_0 rfl (lv_at hl 0 rfl) ?_
  refine va_get (D := D) (ci := 2) (v := .ref (a 9)) (C := "LoanDesk$Reach") (T := T_Reach) (N := 2) hx hb hg u_Reach hown hK hP 7 rfl rfl 0 (by decide) (hg _ k_78) (fun _ h9 => h9) rfl d_rfind_1 ?_
  refine lv_iconst (v := 0) hx hb d_rfind_4 (by decide) ?_
  refine ld_mv (wr := ([0, 1, 2, 3, 4, 5, 6, 7, 9, 10, 11] : List Nat).filterMap (fun i => (ld_gW a cI G ++ ld_rW a cI rc ++ ld_pW (a 10) (a 11) (a 12) cI cZ q)[i]?)) (ws2 := ld_gW a cI G ++ ld_rW a cI (ld_fl 120 0 rc) ++ ld_pW (a 10) (a 11) (a 12) cI cZ q) (va_runS (As := [.ref (a 9), .int 0]) (rest := []) ⟨hx, hb, hml, hown, hg⟩ (lc_fillI l D cI cZ cJ (a 9) 120 (by decide) rc 0 _) ⟨callB_of 2 hg (ld_gd k_180) rfl rfl rfl (hg _ k_31) (hg _ k_178) hd_fillI ⟨Nat.le_of_ble_eq_true rfl, Nat.le_of_ble_eq_true rfl⟩, hg _ k_179⟩ (ld_preM hP hK hN hD [8] (by decide) rfl) rfl rfl hl.1 rfl (lv_room (Nat.le_of_ble_eq_true rfl)) d_rfind_5 ⟨Nat.zero_le _, Nat.zero_le _⟩) hP hD hS hA [8] [0, 1, 2, 3, 4, 5, 6, 7, 9, 10, 11] [0, 1, 2, 3, 4, 5, 6, 7, 11, 8, 9, 10] rfl rfl (by decide) (by decide) (by decide) rfl (fun H locs hP hD hS => ?_)
  refine lv_aload_n hx hb d_rfind_8 rfl (lv_at hl 0 rfl) ?_
  refine lv_aload_n hx hb d_rfind_9 rfl (lv_at hl 1 rfl) ?_
  refine lv_iconst (v := 0) hx hb d_rfind_10 (by decide) ?_
  obtain ⟨r_1, e_1, h⟩ := ld_nm h
  refine ld_mv (wr := ([] : List Nat).filterMap (fun i => (ld_gW a cI G ++ ld_rW a cI (ld_fl 120 0 rc) ++ ld_pW (a 10) (a 11) (a 12) cI cZ q)[i]?)) (ws2 := ld_gW a cI G ++ ld_rW a cI r_1.1 ++ ld_pW (a 10) (a 11) (a 12) cI cZ r_1.2) (va_runV (As := [.ref (a 1), .int 0]) (rest := []) ⟨hx, hb, hml, hown, hg⟩ (lc_arrive l D cI cZ cJ a G (ld_fl 120 0 rc) q 0 _ r_1 e_1) ⟨callB_of 2 hg (ld_gd k_183) rfl rfl rfl (hg _ k_25) (hg _ k_181) hd_arrive ⟨Nat.le_of_ble_eq_true rfl, Nat.le_of_ble_eq_true rfl⟩, hg _ k_182, hg _ k_2⟩ (ld_preMV hP hK hN hD [0, 1, 2, 3, 4, 5, 6, 7, 8, 9, 10, 11] (by decide) rfl 2 7 rfl rfl) rfl rfl hl.1 rfl (lv_room (Nat.le_of_ble_eq_true rfl)) d_rfind_11 ⟨Nat.zero_le _, Nat.zero_le _⟩) hP hD hS hA [0, 1, 2, 3, 4, 5, 6, 7, 8, 9, 10, 11] [] [0, 1, 2, 3, 4, 5, 6, 7, 8, 9, 10, 11] rfl rfl (by decide) (by decide) (by decide) rfl (fun H locs hP hD hS => ?_)
  refine lv_iconst (v := 0) hx hb d_rfind_14 (by decide) ?_
  refine lv_istore_n (lv' := [(2, .int 0), (0, .ref (a 8)), (1, .ref (a 1))]) hx hb d_rfind_15 rfl hl (by decide) rfl (fun ls hl => ?_)
  obtain ⟨Y1, eY1, h⟩ := ld_ob h
  have kont1 : ∀ (H : Heap) (locs : List Loc) (ls : Array Slot), va_P D vwCl (ld_gW a cI G ++ ld_rW a cI Y1.2.1 ++ ld_pW (a 10) (a 11) (a 12) cI cZ Y1.2.2) H → va_D A (ld_gW a cI G ++ ld_rW a cI Y1.2.1 ++ ld_pW (a 10) (a 11) (a 12) cI cZ Y1.2.2) → va_S A s.heap H locs → lv_has ls 4 [] → W p l e (headSpec (Cond.code y_rfind prog_6_method_4_code 4 none :: bgT) ({ frames := 3, cells := 0, slots := 0, locals := 63 })).room s m ([.ref (a 8), .ref (a 1)] : List Value).toArray below meth c H locs 0 0 (MQ below (ld_QV D (ld_gW a cI G ++ ld_rW a cI R.1 ++ ld_pW (a 10) (a 11) (a 12) cI cZ R.2) A) ([.ref (a 8), .ref (a 1)] : List Value).toArray s 0 0 (A)) (F0 m 66 ls []) := by
    intro H locs ls hP hD hS hl
    have h := Option.some.inj h
    subst h
    exact W.vret hx hb hr (fun t ht hW => ⟨⟨(), rfl, trivial, by rw [ht]; exact hP, hD⟩, hS.F ht⟩) hS.2.2 d_rfind_66
  have key1 : ∀ (n : Nat) (v1 : Int32 × (Nat → Int32) × ld_pT) (H : Heap) (locs : List Loc) (ls : Array Slot), ld_it (ls_rfind_1 G) n v1 = some Y1 → va_P D vwCl (ld_gW a cI G ++ ld_rW a cI v1.2.1 ++ ld_pW (a 10) (a 11) (a 12) cI cZ v1.2.2) H → va_D A (ld_gW a cI G ++ ld_rW a cI v1.2.1 ++ ld_pW (a 10) (a 11) (a 12) cI cZ v1.2.2) → va_S A s.heap H locs → lv_has ls 4 [(0, .ref (a 8)), (1, .ref (a 1)), (2, .int v1.1)] → W p l e (headSpec (Cond.code y_rfind prog_6_method_4_code 4 none :: bgT) ({ frames := 3, cells := 0, slots := 0, locals := 63 })).room s m ([.ref (a 8), .ref (a 1)] : List Value).toArray below meth c H locs 0 0 (MQ below (ld_QV D (ld_gW a cI G ++ ld_rW a cI R.1 ++ ld_pW (a 10) (a 11) (a 12) cI cZ R.2) A) ([.ref (a 8), .ref (a 1)] : List Value).toArray s 0 0 (A)) (F0 m 16 ls []) := by
    intro n
    induction n with
    | zero => intro v1 H locs ls g1 hP hD hS hl; cases g1
    | succ n ih1 =>
      intro v1 H locs ls g1 hP hD hS hl
      obtain ⟨z1, hy1, g1⟩ := ld_its g1
      refine lv_iload_n hx hb d_rfind_16 rfl (lv_at hl 2 rfl) ?_
      refine lv_bipush (v := 120) hx hb d_rfind_17 (by decide) ?_
      refine lv_icmp_ge (tgt := 66) hx hb d_rfind_19 (by decide) (fun c_2 => ?_) (fun c_2 => ?_)
      · have hy1 := (if_pos c_2).symm.trans hy1
        obtain rfl := Option.some.inj hy1
        obtain rfl := Option.some.inj g1
        exact kont1 _ _ _ hP hD hS (lv_sub hl [] rfl)
      · have hy1 := (if_neg c_2).symm.trans hy1
        refine lv_aload_n hx hb d_rfind_22 rfl (lv_at hl 0 rfl) ?_
        refine va_get (D := D) (ci := 2) (v := .ref (a 10)) (C := "LoanDesk$Reach") (T := T_Reach) (N := 2) hx hb hg u_Reach hown hK hP 7 rfl rfl 1 (by decide) (hg _ k_79) (fun _ h9 => h9) rfl d_rfind_23 ?_
        obtain ⟨r_3, e_3, hy1⟩ := ld_nm hy1
        refine ld_rd (W.runV (As := []) (rest := []) ⟨hx, hb, hml, hown, hg⟩ (lc_pEmpty l D cI cZ cJ (a 10) (a 11) (a 12) v1.2.2 r_3 e_3) ⟨callB_of 0 hg (ld_gd k_196) rfl rfl rfl (hg _ k_26) (hg _ k_193) hd_pEmpty ⟨Nat.le_of_ble_eq_true rfl, Nat.le_of_ble_eq_true rfl⟩, hg _ k_194, hg _ k_195⟩ (ld_preRV hP hK hN [9, 10, 11] rfl 1 0 rfl rfl) rfl rfl hl.1 rfl (lv_room (Nat.le_of_ble_eq_true rfl)) d_rfind_26 ⟨Nat.zero_le _, Nat.zero_le _⟩) ?_
        refine lv_if_ne (tgt := 66) hx hb d_rfind_29 (by decide) (fun c_4 => ?_) (fun c_4 => ?_)
        · have hy1 := (if_neg c_4).symm.trans hy1
          obtain rfl := Option.some.inj hy1
          obtain rfl := Option.some.inj g1
          exact kont1 _ _ _ hP hD hS (lv_sub hl [] rfl)
        · have hy1 := (if_pos c_4).symm.trans hy1
          refine lv_aload_n hx hb d_rfind_32 rfl (lv_at hl 0 rfl) ?_
          refine va_get (D := D) (ci := 2) (v := .ref (a 10)) (C := "LoanDesk$Reach") (T := T_Reach) (N := 2) hx hb hg u_Reach hown hK hP 7 rfl rfl 1 (by decide) (hg _ k_79) (fun _ h9 => h9) rfl d_rfind_33 ?_
          obtain ⟨r_5, e_5, hy1⟩ := ld_nm hy1
          refine ld_mi (wr := ([0, 1, 2, 3, 4, 5, 6, 7, 8] : List Nat).filterMap (fun i => (ld_gW a cI G ++ ld_rW a cI v1.2.1 ++ ld_pW (a 10) (a 11) (a 12) cI cZ v1.2.2)[i]?)) (ws2 := ld_gW a cI G ++ ld_rW a cI v1.2.1 ++ ld_pW (a 10) (a 11) (a 12) cI cZ r_5.2) (va_runV (As := []) (rest := []) ⟨hx, hb, hml, hown, hg⟩ (lc_take l D cI cZ cJ (a 10) (a 11) (a 12) v1.2.2 _ r_5 e_5) ⟨callB_of 0 hg (ld_gd k_200) rfl rfl rfl (hg _ k_26) (hg _ k_197) hd_take ⟨Nat.le_of_ble_eq_true rfl, Nat.le_of_ble_eq_true rfl⟩, hg _ k_198, hg _ k_199⟩ (ld_preMV hP hK hN hD [9, 10, 11] (by decide) rfl 1 0 rfl rfl) rfl rfl hl.1 rfl (lv_room (Nat.le_of_ble_eq_true rfl)) d_rfind_36 ⟨Nat.zero_le _, Nat.zero_le _⟩) hP hD hS hA [9, 10, 11] [0, 1, 2, 3, 4, 5, 6, 7, 8] [0, 1, 2, 3, 4, 5, 6, 7, 8, 9, 10, 11] rfl rfl (by decide) (by decide) (by decide) rfl (fun H locs hP hD hS => ?_)
          refine lv_istore_n (lv' := [(3, .int r_5.1), (0, .ref (a 8)), (1, .ref (a 1)), (2, .int v1.1)]) hx hb d_rfind_39 rfl hl (by decide) rfl (fun ls hl => ?_)
          refine lv_aload_n hx hb d_rfind_40 rfl (lv_at hl 1 rfl) ?_
          refine lv_aload_n hx hb d_rfind_41 rfl (lv_at hl 2 rfl) ?_
          refine lv_aload_n hx hb d_rfind_42 rfl (lv_at hl 2 rfl) ?_
          refine lv_iload_n hx hb d_rfind_43 rfl (lv_at hl 0 rfl) ?_
          obtain ⟨r_6, e_6, hy1⟩ := ld_nm hy1
          refine ld_rd (W.runV (As := [.int r_5.1]) (rest := [.ref (a 1), .ref (a 8)]) ⟨hx, hb, hml, hown, hg⟩ (lc_firstNext l D cI cZ cJ a G r_5.1 r_6 e_6) ⟨callB_of 1 hg (ld_gd k_204) rfl rfl rfl (hg _ k_24) (hg _ k_201) hd_firstNext ⟨Nat.le_of_ble_eq_true rfl, Nat.le_of_ble_eq_true rfl⟩, hg _ k_202, hg _ k_203⟩ (ld_preRV hP hK hN [0, 1, 2, 3, 4, 5, 6] rfl 0 0 rfl rfl) rfl rfl hl.1 rfl (lv_room (Nat.le_of_ble_eq_true rfl)) d_rfind_44 ⟨Nat.zero_le _, Nat.zero_le _⟩) ?_
          obtain ⟨r_7, e_7, hy1⟩ := ld_nm hy1
          refine ld_mv (wr := ([] : List Nat).filterMap (fun i => (ld_gW a cI G ++ ld_rW a cI v1.2.1 ++ ld_pW (a 10) (a 11) (a 12) cI cZ r_5.2)[i]?)) (ws2 := ld_gW a cI G ++ ld_rW a cI r_7.1 ++ ld_pW (a 10) (a 11) (a 12) cI cZ r_7.2) (va_runV (As := [.ref (a 1), .int r_6]) (rest := []) ⟨hx, hb, hml, hown, hg⟩ (lc_arrive l D cI cZ cJ a G v1.2.1 r_5.2 r_6 _ r_7 e_7) ⟨callB_of 2 hg (ld_gd k_183) rfl rfl rfl (hg _ k_25) (hg _ k_181) hd_arrive ⟨Nat.le_of_ble_eq_true rfl, Nat.le_of_ble_eq_true rfl⟩, hg _ k_182, hg _ k_2⟩ (ld_preMV hP hK hN hD [0, 1, 2, 3, 4, 5, 6, 7, 8, 9, 10, 11] (by decide) rfl 2 7 rfl rfl) rfl rfl hl.1 rfl (lv_room (Nat.le_of_ble_eq_true rfl)) d_rfind_47 ⟨Nat.zero_le _, Nat.zero_le _⟩) hP hD hS hA [0, 1, 2, 3, 4, 5, 6, 7, 8, 9, 10, 11] [] [0, 1, 2, 3, 4, 5, 6, 7, 8, 9, 10, 11] rfl rfl (by decide) (by decide) (by decide) rfl (fun H locs hP hD hS => ?_)
          refine lv_aload_n hx hb d_rfind_50 rfl (lv_at hl 1 rfl) ?_
          refine lv_aload_n hx hb d_rfind_51 rfl (lv_at hl 2 rfl) ?_
          refine lv_aload_n hx hb d_rfind_52 rfl (lv_at hl 2 rfl) ?_
          refine lv_iload_n hx hb d_rfind_53 rfl (lv_at hl 0 rfl) ?_
          obtain ⟨r_8, e_8, hy1⟩ := ld_nm hy1
          refine ld_rd (W.runV (As := [.int r_5.1]) (rest := [.ref (a 1), .ref (a 8)]) ⟨hx, hb, hml, hown, hg⟩ (lc_secondNext l D cI cZ cJ a G r_5.1 r_8 e_8) ⟨callB_of 1 hg (ld_gd k_208) rfl rfl rfl (hg _ k_24) (hg _ k_205) hd_secondNext ⟨Nat.le_of_ble_eq_true rfl, Nat.le_of_ble_eq_true rfl⟩, hg _ k_206, hg _ k_207⟩ (ld_preRV hP hK hN [0, 1, 2, 3, 4, 5, 6] rfl 0 0 rfl rfl) rfl rfl hl.1 rfl (lv_room (Nat.le_of_ble_eq_true rfl)) d_rfind_54 ⟨Nat.zero_le _, Nat.zero_le _⟩) ?_
          obtain ⟨r_9, e_9, hy1⟩ := ld_nm hy1
          refine ld_mv (wr := ([] : List Nat).filterMap (fun i => (ld_gW a cI G ++ ld_rW a cI r_7.1 ++ ld_pW (a 10) (a 11) (a 12) cI cZ r_7.2)[i]?)) (ws2 := ld_gW a cI G ++ ld_rW a cI r_9.1 ++ ld_pW (a 10) (a 11) (a 12) cI cZ r_9.2) (va_runV (As := [.ref (a 1), .int r_8]) (rest := []) ⟨hx, hb, hml, hown, hg⟩ (lc_arrive l D cI cZ cJ a G r_7.1 r_7.2 r_8 _ r_9 e_9) ⟨callB_of 2 hg (ld_gd k_183) rfl rfl rfl (hg _ k_25) (hg _ k_181) hd_arrive ⟨Nat.le_of_ble_eq_true rfl, Nat.le_of_ble_eq_true rfl⟩, hg _ k_182, hg _ k_2⟩ (ld_preMV hP hK hN hD [0, 1, 2, 3, 4, 5, 6, 7, 8, 9, 10, 11] (by decide) rfl 2 7 rfl rfl) rfl rfl hl.1 rfl (lv_room (Nat.le_of_ble_eq_true rfl)) d_rfind_57 ⟨Nat.zero_le _, Nat.zero_le _⟩) hP hD hS hA [0, 1, 2, 3, 4, 5, 6, 7, 8, 9, 10, 11] [] [0, 1, 2, 3, 4, 5, 6, 7, 8, 9, 10, 11] rfl rfl (by decide) (by decide) (by decide) rfl (fun H locs hP hD hS => ?_)
          refine lv_iinc (v := v1.1 + 1) (lv' := [(2, .int (v1.1 + 1)), (3, .int r_5.1), (0, .ref (a 8)), (1, .ref (a 1))]) hx hb d_rfind_60 hl (k := 3) rfl rfl (by decide) rfl (fun ls hl => ?_)
          refine lv_goto (tgt := 16) hx hb d_rfind_63 (by decide) ?_
          obtain rfl := Option.some.inj hy1
          exact ih1 (v1.1 + 1, r_9.1, r_9.2) _ _ _ g1 hP hD hS (lv_sub hl [2, 3, 0] rfl)
  exact key1 N (0, r_1.1, r_1.2) _ _ _ eY1 hP hD hS (lv_sub hl [1, 2, 0] rfl)
end
section
theorem d_ubehind_0 : decode prog_7_method_2_code 0 = .ok (.iload_n 1, 1) := by decide +kernel
theorem d_ubehind_1 : decode prog_7_method_2_code 1 = .ok (.invokestatic 15, 3) := by decide +kernel
theorem d_ubehind_4 : decode prog_7_method_2_code 4 = .ok (.ifCond .eq 12, 3) := by decide +kernel
theorem d_ubehind_7 : decode prog_7_method_2_code 7 = .ok (.aload_n 0, 1) := by decide +kernel
theorem d_ubehind_8 : decode prog_7_method_2_code 8 = .ok (.getfield 9, 3) := by decide +kernel
theorem d_ubehind_11 : decode prog_7_method_2_code 11 = .ok (.iload_n 1, 1) := by decide +kernel
theorem d_ubehind_12 : decode prog_7_method_2_code 12 = .ok (.iaload, 1) := by decide +kernel
theorem d_ubehind_13 : decode prog_7_method_2_code 13 = .ok (.goto 4, 3) := by decide +kernel
theorem d_ubehind_16 : decode prog_7_method_2_code 16 = .ok (.iconst 0, 1) := by decide +kernel
theorem d_ubehind_17 : decode prog_7_method_2_code 17 = .ok (.ireturn, 1) := by decide +kernel
theorem d_growAll_0 : decode prog_7_method_4_code 0 = .ok (.iconst 0, 1) := by decide +kernel
theorem d_growAll_1 : decode prog_7_method_4_code 1 = .ok (.istore_n 2, 1) := by decide +kernel
theorem d_growAll_2 : decode prog_7_method_4_code 2 = .ok (.aload_n 1, 1) := by decide +kernel
theorem d_growAll_3 : decode prog_7_method_4_code 3 = .ok (.invokevirtual 29, 3) := by decide +kernel
theorem d_growAll_6 : decode prog_7_method_4_code 6 = .ok (.bipush 120, 2) := by decide +kernel
theorem d_growAll_8 : decode prog_7_method_4_code 8 = .ok (.invokestatic 35, 3) := by decide +kernel
theorem d_growAll_11 : decode prog_7_method_4_code 11 = .ok (.iconst 1, 1) := by decide +kernel
theorem d_growAll_12 : decode prog_7_method_4_code 12 = .ok (.isub, 1) := by decide +kernel
theorem d_growAll_13 : decode prog_7_method_4_code 13 = .ok (.istore_n 3, 1) := by decide +kernel
theorem d_growAll_14 : decode prog_7_method_4_code 14 = .ok (.iload_n 3, 1) := by decide +kernel
theorem d_growAll_15 : decode prog_7_method_4_code 15 = .ok (.ifCond .lt 78, 3) := by decide +kernel
theorem d_growAll_18 : decode prog_7_method_4_code 18 = .ok (.aload_n 1, 1) := by decide +kernel
theorem d_growAll_19 : decode prog_7_method_4_code 19 = .ok (.iload_n 3, 1) := by decide +kernel
theorem d_growAll_20 : decode prog_7_method_4_code 20 = .ok (.invokevirtual 41, 3) := by decide +kernel
theorem d_growAll_23 : decode prog_7_method_4_code 23 = .ok (.istore 4, 2) := by decide +kernel
theorem d_growAll_25 : decode prog_7_method_4_code 25 = .ok (.aload_n 1, 1) := by decide +kernel
theorem d_growAll_26 : decode prog_7_method_4_code 26 = .ok (.iload_n 3, 1) := by decide +kernel
theorem d_growAll_27 : decode prog_7_method_4_code 27 = .ok (.invokevirtual 45, 3) := by decide +kernel
theorem d_growAll_30 : decode prog_7_method_4_code 30 = .ok (.istore 5, 2) := by decide +kernel
theorem d_growAll_32 : decode prog_7_method_4_code 32 = .ok (.aload_n 0, 1) := by decide +kernel
theorem d_growAll_33 : decode prog_7_method_4_code 33 = .ok (.getfield 9, 3) := by decide +kernel
theorem d_growAll_36 : decode prog_7_method_4_code 36 = .ok (.iload_n 3, 1) := by decide +kernel
theorem d_growAll_37 : decode prog_7_method_4_code 37 = .ok (.iaload, 1) := by decide +kernel
theorem d_growAll_38 : decode prog_7_method_4_code 38 = .ok (.aload_n 1, 1) := by decide +kernel
theorem d_growAll_39 : decode prog_7_method_4_code 39 = .ok (.iload 4, 2) := by decide +kernel
theorem d_growAll_41 : decode prog_7_method_4_code 41 = .ok (.aload_n 0, 1) := by decide +kernel
theorem d_growAll_42 : decode prog_7_method_4_code 42 = .ok (.iload 4, 2) := by decide +kernel
theorem d_growAll_44 : decode prog_7_method_4_code 44 = .ok (.invokevirtual 48, 3) := by decide +kernel
theorem d_growAll_47 : decode prog_7_method_4_code 47 = .ok (.invokevirtual 51, 3) := by decide +kernel
theorem d_growAll_50 : decode prog_7_method_4_code 50 = .ok (.ior, 1) := by decide +kernel
theorem d_growAll_51 : decode prog_7_method_4_code 51 = .ok (.aload_n 1, 1) := by decide +kernel
theorem d_growAll_52 : decode prog_7_method_4_code 52 = .ok (.iload 5, 2) := by decide +kernel
theorem d_growAll_54 : decode prog_7_method_4_code 54 = .ok (.aload_n 0, 1) := by decide +kernel
theorem d_growAll_55 : decode prog_7_method_4_code 55 = .ok (.iload 5, 2) := by decide +kernel
theorem d_growAll_57 : decode prog_7_method_4_code 57 = .ok (.invokevirtual 48, 3) := by decide +kernel
theorem d_growAll_60 : decode prog_7_method_4_code 60 = .ok (.invokevirtual 51, 3) := by decide +kernel
theorem d_growAll_63 : decode prog_7_method_4_code 63 = .ok (.ior, 1) := by decide +kernel
theorem d_growAll_64 : decode prog_7_method_4_code 64 = .ok (.istore 6, 2) := by decide +kernel
theorem d_growAll_66 : decode prog_7_method_4_code 66 = .ok (.iload 6, 2) := by decide +kernel
theorem d_growAll_68 : decode prog_7_method_4_code 68 = .ok (.aload_n 0, 1) := by decide +kernel
theorem d_growAll_69 : decode prog_7_method_4_code 69 = .ok (.getfield 9, 3) := by decide +kernel
theorem d_growAll_72 : decode prog_7_method_4_code 72 = .ok (.iload_n 3, 1) := by decide +kernel
theorem d_growAll_73 : decode prog_7_method_4_code 73 = .ok (.iaload, 1) := by decide +kernel
theorem d_growAll_74 : decode prog_7_method_4_code 74 = .ok (.if_icmp .eq 13, 3) := by decide +kernel
theorem d_growAll_77 : decode prog_7_method_4_code 77 = .ok (.aload_n 0, 1) := by decide +kernel
theorem d_growAll_78 : decode prog_7_method_4_code 78 = .ok (.getfield 9, 3) := by decide +kernel
theorem d_growAll_81 : decode prog_7_method_4_code 81 = .ok (.iload_n 3, 1) := by decide +kernel
theorem d_growAll_82 : decode prog_7_method_4_code 82 = .ok (.iload 6, 2) := by decide +kernel
theorem d_growAll_84 : decode prog_7_method_4_code 84 = .ok (.iastore, 1) := by decide +kernel
theorem d_growAll_85 : decode prog_7_method_4_code 85 = .ok (.iconst 1, 1) := by decide +kernel
theorem d_growAll_86 : decode prog_7_method_4_code 86 = .ok (.istore_n 2, 1) := by decide +kernel
theorem d_growAll_87 : decode prog_7_method_4_code 87 = .ok (.iinc 3 (-1), 3) := by decide +kernel
theorem d_growAll_90 : decode prog_7_method_4_code 90 = .ok (.goto (-76), 3) := by decide +kernel
theorem d_growAll_93 : decode prog_7_method_4_code 93 = .ok (.iload_n 2, 1) := by decide +kernel
theorem d_growAll_94 : decode prog_7_method_4_code 94 = .ok (.ireturn, 1) := by decide +kernel
theorem d_ufind_0 : decode prog_7_method_3_code 0 = .ok (.aload_n 0, 1) := by decide +kernel
theorem d_ufind_1 : decode prog_7_method_3_code 1 = .ok (.getfield 9, 3) := by decide +kernel
theorem d_ufind_4 : decode prog_7_method_3_code 4 = .ok (.iconst 0, 1) := by decide +kernel
theorem d_ufind_5 : decode prog_7_method_3_code 5 = .ok (.invokestatic 19, 3) := by decide +kernel
theorem d_ufind_8 : decode prog_7_method_3_code 8 = .ok (.iconst 1, 1) := by decide +kernel
theorem d_ufind_9 : decode prog_7_method_3_code 9 = .ok (.istore_n 2, 1) := by decide +kernel
theorem d_ufind_10 : decode prog_7_method_3_code 10 = .ok (.iconst 0, 1) := by decide +kernel
theorem d_ufind_11 : decode prog_7_method_3_code 11 = .ok (.istore_n 3, 1) := by decide +kernel
theorem d_ufind_12 : decode prog_7_method_3_code 12 = .ok (.iload_n 3, 1) := by decide +kernel
theorem d_ufind_13 : decode prog_7_method_3_code 13 = .ok (.sipush 1920, 3) := by decide +kernel
theorem d_ufind_16 : decode prog_7_method_3_code 16 = .ok (.if_icmp .gt 19, 3) := by decide +kernel
theorem d_ufind_19 : decode prog_7_method_3_code 19 = .ok (.iload_n 2, 1) := by decide +kernel
theorem d_ufind_20 : decode prog_7_method_3_code 20 = .ok (.ifCond .eq 15, 3) := by decide +kernel
theorem d_ufind_23 : decode prog_7_method_3_code 23 = .ok (.aload_n 0, 1) := by decide +kernel
theorem d_ufind_24 : decode prog_7_method_3_code 24 = .ok (.aload_n 1, 1) := by decide +kernel
theorem d_ufind_25 : decode prog_7_method_3_code 25 = .ok (.invokevirtual 25, 3) := by decide +kernel
theorem d_ufind_28 : decode prog_7_method_3_code 28 = .ok (.istore_n 2, 1) := by decide +kernel
theorem d_ufind_29 : decode prog_7_method_3_code 29 = .ok (.iinc 3 1, 3) := by decide +kernel
theorem d_ufind_32 : decode prog_7_method_3_code 32 = .ok (.goto (-20), 3) := by decide +kernel
theorem d_ufind_35 : decode prog_7_method_3_code 35 = .ok (.return_, 1) := by decide +kernel
end
section
theorem ld_m1 (x : Int32) : x + Int32.ofInt (-1) = x - 1 := by
  rw [Int32.sub_eq_add_neg, show Int32.ofInt (-1) = -(1 : Int32) from by decide +kernel]
def lf_ubehind (u : Nat → Int32) (p0 : Int32) : Int32 := ld_lt (lf_isIndex p0) (fun r_1 => if r_1 = 0 then 0 else u p0.toNatClampNeg)
set_option maxHeartbeats 4000000 in
set_option maxRecDepth 100000 in
theorem lc_ubehind (l : Launch) (D : va_G) (cI cZ cJ : ClassId) (a : Nat → Nat) (u : Nat → Int32) (p0 : Int32) (R : Int32) (h : lf_ubehind u p0 = R) : Met l y_ubehind (Cond.code y_ubehind prog_7_method_2_code 2 (some .int) :: bgT) ({ frames := 1, cells := 0, slots := 0, locals := 20 }) (ld_PR D cI cZ cJ (ld_uW a cI u) [.ref (a 13), .int p0]) (vp_Si (fun z => z = R)) 0 0 (fun _ => False) := by
  refine Met.ofW (cc := prog_7_method_2_code) (maxL := 2) (ret := (some .int)) (by decide) rfl ?_
  intro p e s m args below meth c s₁ B hml hv
  obtain ⟨rfl, hP, hK, hN⟩ := hv
  have hx := B.exec
  have hb := B.bytes
  have hr := B.returns
  have hg : ∀ w ∈ bgT, w.before _ s = true := fun w h => atoms_spec (ws := (Cond.code y_ubehind prog_7_method_2_code 2 (some .int) :: bgT)) B.pre w (List.mem_cons_of_mem _ h)
  have hown : s.vm.findClass "LoanDesk$Uses" = some m.cls := findClass_of_methodNamed B.named
  have hlocks := B.notSynchronized
  have hl := lv_entry ([.ref (a 13), .int p0]) (n := 2) (Nat.le_of_ble_eq_true rfl)
  rw [lg_entry_eq]
  generalize (lg_sl ([.ref (a 13), .int p0]) ++ List.replicate (2 - (lg_sl ([.ref (a 13), .int p0])).length) Slot.unset).toArray = ls at hl ⊢
  have hl : lv_has ls 2 [(0, .ref (a 13)), (1, .int p0)] := hl
  refine lv_iload_n hx hb d_ubehind_0 rfl (lv_at hl 1 rfl) ?_
  obtain ⟨r_1, e_1, h⟩ := ld_nm h
  refine ld_rd ((va_runSN (As := [.int p0]) (rest := []) ⟨hx, hb, hml, hown, hg⟩ (lc_isIndex l D cI cZ cJ p0 r_1 e_1) ⟨va_cnB 1 hg (ld_gd k_161) rfl rfl rfl (hN _ (ld_nwm 9 rfl)) (hg _ k_23) hd_isIndex ⟨Nat.le_of_ble_eq_true rfl, Nat.le_of_ble_eq_true rfl⟩, hg _ k_160, trivial⟩ (ld_preR hP hK hN [] rfl) rfl rfl hl.1 rfl (lv_room (Nat.le_of_ble_eq_true rfl)) d_ubehind_1 ⟨Nat.zero_le _, Nat.zero_le _⟩).run) ?_
  refine lv_if_eq (tgt := 16) hx hb d_ubehind_4 (by decide) (fun c_2 => ?_) (fun c_2 => ?_)
  · have h := (if_pos c_2).symm.trans h
    refine lv_iconst (v := 0) hx hb d_ubehind_16 (by decide) ?_
    exact W.iret (v := 0) hx hb hr (fun t ht hW => ⟨_, rfl, h, ht⟩) (fun _ q => by cases q) d_ubehind_17
  · have h := (if_neg c_2).symm.trans h
    refine lv_aload_n hx hb d_ubehind_7 rfl (lv_at hl 0 rfl) ?_
    refine va_get (D := D) (ci := 3) (v := .ref (a 14)) (C := "LoanDesk$Uses") (T := T_Uses) (N := 1) hx hb hg u_Uses hown hK hP 0 rfl rfl 0 (by decide) (hg _ k_87) (fun _ h9 => h9) rfl d_ubehind_8 ?_
    refine lv_iload_n hx hb d_ubehind_11 rfl (lv_at hl 1 rfl) ?_
    refine va_iald hx hb hK hP 1 0 rfl rfl (i := p0) (ld_ix e_1 c_2) d_ubehind_12 ?_
    refine lv_goto (tgt := 17) hx hb d_ubehind_13 (by decide) ?_
    exact W.iret (v := u p0.toNatClampNeg) hx hb hr (fun t ht hW => ⟨_, rfl, h, ht⟩) (fun _ q => by cases q) d_ubehind_17
def ls_growAll_1 (G : ld_gT) (v1 : Int32 × Int32 × (Nat → Int32)) : Option ((Int32 × Int32 × (Nat → Int32)) ⊕ (Int32 × Int32 × (Nat → Int32))) := if v1.2.1 < 0 then some (.inr (v1.1, v1.2.1, v1.2.2)) else ld_lt (lf_firstNext G v1.2.1) (fun r_3 => ld_lt (lf_secondNext G v1.2.1) (fun r_4 => if ld_in v1.2.1 120 = true then (ld_lt (lf_ubehind v1.2.2 r_3) (fun r_6 => ld_lt (lf_usedFrom G r_3 r_6) (fun r_7 => ld_lt (lf_ubehind v1.2.2 r_4) (fun r_8 => ld_lt (lf_usedFrom G r_4 r_8) (fun r_9 => if (((v1.2.2 v1.2.1.toNatClampNeg) ||| r_7) ||| r_9) = (v1.2.2 v1.2.1.toNatClampNeg) then some (.inl (v1.1, v1.2.1 - 1, v1.2.2)) else some (.inl (1, v1.2.1 - 1, (upd v1.2.2 v1.2.1.toNatClampNeg (((v1.2.2 v1.2.1.toNatClampNeg) ||| r_7) ||| r_9))))))))) else none))
def lm_growAll (N : Nat) (G : ld_gT) (u : Nat → Int32) : Option (Int32 × (Nat → Int32)) := ld_lt (lf_gsize G) (fun r_1 => Option.bind (ld_it (ls_growAll_1 G) N (0, (if 120 < r_1 then 120 else r_1) - 1, u)) (fun Y1 => some (Y1.1, Y1.2.2)))
theorem nbl_growAll {G : ld_gT} {N : Nat} {x : Int32 × Int32 × (Nat → Int32)} {Y : Int32 × Int32 × (Nat → Int32)} (hx : x.1 = 0) (h : ld_it (ls_growAll_1 G) N x = some Y) : Y.1 = 0 ∨ Y.1 = 1 := by
  refine ld_inv (f := ls_growAll_1 G) (fun v => v.1 = 0 ∨ v.1 = 1) (fun v => v.1 = 0 ∨ v.1 = 1) ?_ ?_ N x Y (Or.inl hx) h
  · intro v v' hv hf
    unfold ls_growAll_1 at hf
    split at hf
    · cases hf
    · simp only [ld_lt] at hf
      split at hf
      · split at hf
        · cases hf; exact hv
        · cases hf; exact Or.inr rfl
      · cases hf
  · intro v v' hv hf
    unfold ls_growAll_1 at hf
    split at hf
    · cases hf; exact hv
    · simp only [ld_lt] at hf
      split at hf
      · split at hf
        · cases hf
        · cases hf
      · cases hf
set_option maxHeartbeats 4000000 in
set_option maxRecDepth 100000 in
theorem lc_growAll (l : Launch) (D : va_G) (cI cZ cJ : ClassId) (a : Nat → Nat) (G : ld_gT) (u : Nat → Int32) (sz : Nat) (N : Nat) (R : Int32 × (Nat → Int32)) (h : lm_growAll N G u = some R) : Met l y_growAll (Cond.code y_growAll prog_7_method_4_code 7 (some .boolean) :: bgT) ({ frames := 2, cells := 0, slots := 0, locals := 43 }) (ld_PM D cI cZ cJ (ld_gW a cI G ++ ld_uW a cI u) sz [.ref (a 13), .ref (a 1)]) (ld_QI D (ld_gW a cI G ++ ld_uW a cI R.2) (va_A (ld_gW a cI G ++ ld_uW a cI u) sz) R.1) 0 0 ((va_A (ld_gW a cI G ++ ld_uW a cI u) sz)) := by
  refine Met.ofW (cc := prog_7_method_4_code) (maxL := 7) (ret := (some .boolean)) (by decide) rfl ?_
  intro p e s m args below meth c s₁ B hml hv
  obtain ⟨rfl, hsz, hP, hK, hD0, hN⟩ := hv
  have hx := B.exec
  have hb := B.bytes
  have hr := B.returns
  have hg : ∀ w ∈ bgT, w.before _ s = true := fun w h => atoms_spec (ws := (Cond.code y_growAll prog_7_method_4_code 7 (some .boolean) :: bgT)) B.pre w (List.mem_cons_of_mem _ h)
  have hown : s.vm.findClass "LoanDesk$Uses" = some m.cls := findClass_of_methodNamed B.named
  have hlocks := B.notSynchronized
  subst hsz
  have hD := hD0.self (sz := s.heap.size)
  generalize hAe : va_A (ld_gW a cI G ++ ld_uW a cI u) s.heap.size = A at hD ⊢
  have hA : ∀ q : Nat, s.heap.size ≤ q → A q := fun q h => by rw [← hAe]; exact Or.inr h
  have hS : va_S A s.heap s.heap [] := va_S.rf
  have hl := lv_entry ([.ref (a 13), .ref (a 1)]) (n := 7) (Nat.le_of_ble_eq_true rfl)
  rw [lg_entry_eq]
  generalize (lg_sl ([.ref (a 13), .ref (a 1)]) ++ List.replicate (7 - (lg_sl ([.ref (a 13), .ref (a 1)])).length) Slot.unset).toArray = ls at hl ⊢
  have hl : lv_has ls 7 [(0, .ref (a 13)), (1, .ref (a 1))] := hl
  refine lv_iconst (v := 0) hx hb d_growAll_0 (by decide) ?_
  refine lv_istore_n (lv' := [(2, .int 0), (0, .ref (a 13)), (1, .ref (a 1))]) hx hb d_growAll_1 rfl hl (by decide) rfl (fun ls hl => ?_)
  refine lv_aload_n hx hb d_growAll_2 rfl (lv_at hl 2 rfl) ?_
  obtain ⟨r_1, e_1, h⟩ := ld_nm h
  refine ld_rd (W.runV (As := []) (rest := []) ⟨hx, hb, hml, hown, hg⟩ (lc_gsize l D cI cZ cJ a G r_1 e_1) ⟨callB_of 0 hg (ld_gd k_220) rfl rfl rfl (hg _ k_24) (hg _ k_217) hd_gsize ⟨Nat.le_of_ble_eq_true rfl, Nat.le_of_ble_eq_true rfl⟩, hg _ k_218, hg _ k_219⟩ (ld_preRV hP hK hN [0, 1, 2, 3, 4, 5, 6] rfl 0 0 rfl rfl) rfl rfl hl.1 rfl (lv_room (Nat.le_of_ble_eq_true rfl)) d_growAll_3 ⟨Nat.zero_le _, Nat.zero_le _⟩) ?_
  refine lv_bipush (v := 120) hx hb d_growAll_6 (by decide) ?_
  refine va_mmin hx hb (by rw [hml]; exact hl.1.symm) hown (hg _ k_221) (hg _ k_222) (hg _ k_32) (hg _ k_223) (Nat.le_of_ble_eq_true rfl) (Nat.le_of_ble_eq_true rfl) (Nat.zero_le _) (Nat.zero_le _) d_growAll_8 ?_
  refine lv_iconst (v := 1) hx hb d_growAll_11 (by decide) ?_
  refine lv_isub hx hb d_growAll_12 ?_
  refine lv_istore_n (lv' := [(3, .int ((if 120 < r_1 then 120 else r_1) - 1)), (2, .int 0), (0, .ref (a 13)), (1, .ref (a 1))]) hx hb d_growAll_13 rfl hl (by decide) rfl (fun ls hl => ?_)
  obtain ⟨Y1, eY1, h⟩ := ld_ob h
  have kont1 : ∀ (H : Heap) (locs : List Loc) (ls : Array Slot), va_P D vwCl (ld_gW a cI G ++ ld_uW a cI Y1.2.2) H → va_D A (ld_gW a cI G ++ ld_uW a cI Y1.2.2) → va_S A s.heap H locs → lv_has ls 7 [(2, .int Y1.1)] → W p l e (headSpec (Cond.code y_growAll prog_7_method_4_code 7 (some .boolean) :: bgT) ({ frames := 2, cells := 0, slots := 0, locals := 43 })).room s m ([.ref (a 13), .ref (a 1)] : List Value).toArray below meth c H locs 0 0 (MQ below (ld_QI D (ld_gW a cI G ++ ld_uW a cI R.2) A R.1) ([.ref (a 13), .ref (a 1)] : List Value).toArray s 0 0 (A)) (F0 m 93 ls []) := by
    intro H locs ls hP hD hS hl
    refine lv_iload_n hx hb d_growAll_93 rfl (lv_at hl 0 rfl) ?_
    have h := Option.some.inj h
    subst h
    exact W.zret (v := Y1.1) hx hb hr (ld_nb (nbl_growAll rfl eY1)) (fun t ht hW => ⟨⟨_, (), rfl, rfl, by rw [ht]; exact hP, hD⟩, hS.F ht⟩) hS.2.2 d_growAll_94
  have key1 : ∀ (n : Nat) (v1 : Int32 × Int32 × (Nat → Int32)) (H : Heap) (locs : List Loc) (ls : Array Slot), ld_it (ls_growAll_1 G) n v1 = some Y1 → va_P D vwCl (ld_gW a cI G ++ ld_uW a cI v1.2.2) H → va_D A (ld_gW a cI G ++ ld_uW a cI v1.2.2) → va_S A s.heap H locs → lv_has ls 7 [(0, .ref (a 13)), (1, .ref (a 1)), (2, .int v1.1), (3, .int v1.2.1)] → W p l e (headSpec (Cond.code y_growAll prog_7_method_4_code 7 (some .boolean) :: bgT) ({ frames := 2, cells := 0, slots := 0, locals := 43 })).room s m ([.ref (a 13), .ref (a 1)] : List Value).toArray below meth c H locs 0 0 (MQ below (ld_QI D (ld_gW a cI G ++ ld_uW a cI R.2) A R.1) ([.ref (a 13), .ref (a 1)] : List Value).toArray s 0 0 (A)) (F0 m 14 ls []) := by
    intro n
    induction n with
    | zero => intro v1 H locs ls g1 hP hD hS hl; cases g1
    | succ n ih1 =>
      intro v1 H locs ls g1 hP hD hS hl
      obtain ⟨z1, hy1, g1⟩ := ld_its g1
      refine lv_iload_n hx hb d_growAll_14 rfl (lv_at hl 3 rfl) ?_
      refine lv_if_lt (tgt := 93) hx hb d_growAll_15 (by decide) (fun c_2 => ?_) (fun c_2 => ?_)
      · have hy1 := (if_pos c_2).symm.trans hy1
        obtain rfl := Option.some.inj hy1
        obtain rfl := Option.some.inj g1
        exact kont1 _ _ _ hP hD hS (lv_sub hl [2] rfl)
      · have hy1 := (if_neg c_2).symm.trans hy1
        refine lv_aload_n hx hb d_growAll_18 rfl (lv_at hl 1 rfl) ?_
        refine lv_iload_n hx hb d_growAll_19 rfl (lv_at hl 3 rfl) ?_
        obtain ⟨r_3, e_3, hy1⟩ := ld_nm hy1
        refine ld_rd (W.runV (As := [.int v1.2.1]) (rest := []) ⟨hx, hb, hml, hown, hg⟩ (lc_firstNext l D cI cZ cJ a G v1.2.1 r_3 e_3) ⟨callB_of 1 hg (ld_gd k_204) rfl rfl rfl (hg _ k_24) (hg _ k_224) hd_firstNext ⟨Nat.le_of_ble_eq_true rfl, Nat.le_of_ble_eq_true rfl⟩, hg _ k_202, hg _ k_203⟩ (ld_preRV hP hK hN [0, 1, 2, 3, 4, 5, 6] rfl 0 0 rfl rfl) rfl rfl hl.1 rfl (lv_room (Nat.le_of_ble_eq_true rfl)) d_growAll_20 ⟨Nat.zero_le _, Nat.zero_le _⟩) ?_
        refine lv_istore (lv' := [(4, .int r_3), (0, .ref (a 13)), (1, .ref (a 1)), (2, .int v1.1), (3, .int v1.2.1)]) hx hb d_growAll_23 hl (by decide) rfl (fun ls hl => ?_)
        refine lv_aload_n hx hb d_growAll_25 rfl (lv_at hl 2 rfl) ?_
        refine lv_iload_n hx hb d_growAll_26 rfl (lv_at hl 4 rfl) ?_
        obtain ⟨r_4, e_4, hy1⟩ := ld_nm hy1
        refine ld_rd (W.runV (As := [.int v1.2.1]) (rest := []) ⟨hx, hb, hml, hown, hg⟩ (lc_secondNext l D cI cZ cJ a G v1.2.1 r_4 e_4) ⟨callB_of 1 hg (ld_gd k_208) rfl rfl rfl (hg _ k_24) (hg _ k_225) hd_secondNext ⟨Nat.le_of_ble_eq_true rfl, Nat.le_of_ble_eq_true rfl⟩, hg _ k_206, hg _ k_207⟩ (ld_preRV hP hK hN [0, 1, 2, 3, 4, 5, 6] rfl 0 0 rfl rfl) rfl rfl hl.1 rfl (lv_room (Nat.le_of_ble_eq_true rfl)) d_growAll_27 ⟨Nat.zero_le _, Nat.zero_le _⟩) ?_
        refine lv_istore (lv' := [(5, .int r_4), (4, .int r_3), (0, .ref (a 13)), (1, .ref (a 1)), (2, .int v1.1), (3, .int v1.2.1)]) hx hb d_growAll_30 hl (by decide) rfl (fun ls hl => ?_)
        refine lv_aload_n hx hb d_growAll_32 rfl (lv_at hl 2 rfl) ?_
        refine va_get (D := D) (ci := 3) (v := .ref (a 14)) (C := "LoanDesk$Uses") (T := T_Uses) (N := 1) hx hb hg u_Uses hown hK hP 7 rfl rfl 0 (by decide) (hg _ k_87) (fun _ h9 => h9) rfl d_growAll_33 ?_
        refine lv_iload_n hx hb d_growAll_36 rfl (lv_at hl 5 rfl) ?_
        obtain ⟨i_5, hy1⟩ := ld_grd hy1
        refine va_iald hx hb hK hP 8 0 rfl rfl (i := v1.2.1) i_5 d_growAll_37 ?_
        refine lv_aload_n hx hb d_growAll_38 rfl (lv_at hl 3 rfl) ?_
        refine lv_iload hx hb d_growAll_39 (lv_at hl 1 rfl) ?_
        refine lv_aload_n hx hb d_growAll_41 rfl (lv_at hl 2 rfl) ?_
        refine lv_iload hx hb d_growAll_42 (lv_at hl 1 rfl) ?_
        obtain ⟨r_6, e_6, hy1⟩ := ld_nm hy1
        refine ld_rd (W.runV (As := [.int r_3]) (rest := [.int r_3, .ref (a 1), .int (v1.2.2 v1.2.1.toNatClampNeg)]) ⟨hx, hb, hml, hown, hg⟩ (lc_ubehind l D cI cZ cJ a v1.2.2 r_3 r_6 e_6) ⟨callB_of 1 hg (ld_gd k_229) rfl rfl rfl (hg _ k_27) (hg _ k_226) hd_ubehind ⟨Nat.le_of_ble_eq_true rfl, Nat.le_of_ble_eq_true rfl⟩, hg _ k_227, hg _ k_228⟩ (ld_preRV hP hK hN [7, 8] rfl 3 0 rfl rfl) rfl rfl hl.1 rfl (lv_room (Nat.le_of_ble_eq_true rfl)) d_growAll_44 ⟨Nat.zero_le _, Nat.zero_le _⟩) ?_
        obtain ⟨r_7, e_7, hy1⟩ := ld_nm hy1
        refine ld_rd (W.runV (As := [.int r_3, .int r_6]) (rest := [.int (v1.2.2 v1.2.1.toNatClampNeg)]) ⟨hx, hb, hml, hown, hg⟩ (lc_usedFrom l D cI cZ cJ a G r_3 r_6 r_7 e_7) ⟨callB_of 2 hg (ld_gd k_233) rfl rfl rfl (hg _ k_24) (hg _ k_230) hd_usedFrom ⟨Nat.le_of_ble_eq_true rfl, Nat.le_of_ble_eq_true rfl⟩, hg _ k_231, hg _ k_232⟩ (ld_preRV hP hK hN [0, 1, 2, 3, 4, 5, 6] rfl 0 0 rfl rfl) rfl rfl hl.1 rfl (lv_room (Nat.le_of_ble_eq_true rfl)) d_growAll_47 ⟨Nat.zero_le _, Nat.zero_le _⟩) ?_
        refine lv_ior hx hb d_growAll_50 ?_
        refine lv_aload_n hx hb d_growAll_51 rfl (lv_at hl 3 rfl) ?_
        refine lv_iload hx hb d_growAll_52 (lv_at hl 0 rfl) ?_
        refine lv_aload_n hx hb d_growAll_54 rfl (lv_at hl 2 rfl) ?_
        refine lv_iload hx hb d_growAll_55 (lv_at hl 0 rfl) ?_
        obtain ⟨r_8, e_8, hy1⟩ := ld_nm hy1
        refine ld_rd (W.runV (As := [.int r_4]) (rest := [.int r_4, .ref (a 1), .int ((v1.2.2 v1.2.1.toNatClampNeg) ||| r_7)]) ⟨hx, hb, hml, hown, hg⟩ (lc_ubehind l D cI cZ cJ a v1.2.2 r_4 r_8 e_8) ⟨callB_of 1 hg (ld_gd k_229) rfl rfl rfl (hg _ k_27) (hg _ k_226) hd_ubehind ⟨Nat.le_of_ble_eq_true rfl, Nat.le_of_ble_eq_true rfl⟩, hg _ k_227, hg _ k_228⟩ (ld_preRV hP hK hN [7, 8] rfl 3 0 rfl rfl) rfl rfl hl.1 rfl (lv_room (Nat.le_of_ble_eq_true rfl)) d_growAll_57 ⟨Nat.zero_le _, Nat.zero_le _⟩) ?_
        obtain ⟨r_9, e_9, hy1⟩ := ld_nm hy1
        refine ld_rd (W.runV (As := [.int r_4, .int r_8]) (rest := [.int ((v1.2.2 v1.2.1.toNatClampNeg) ||| r_7)]) ⟨hx, hb, hml, hown, hg⟩ (lc_usedFrom l D cI cZ cJ a G r_4 r_8 r_9 e_9) ⟨callB_of 2 hg (ld_gd k_233) rfl rfl rfl (hg _ k_24) (hg _ k_230) hd_usedFrom ⟨Nat.le_of_ble_eq_true rfl, Nat.le_of_ble_eq_true rfl⟩, hg _ k_231, hg _ k_232⟩ (ld_preRV hP hK hN [0, 1, 2, 3, 4, 5, 6] rfl 0 0 rfl rfl) rfl rfl hl.1 rfl (lv_room (Nat.le_of_ble_eq_true rfl)) d_growAll_60 ⟨Nat.zero_le _, Nat.zero_le _⟩) ?_
        refine lv_ior hx hb d_growAll_63 ?_
        refine lv_istore (lv' := [(6, .int (((v1.2.2 v1.2.1.toNatClampNeg) ||| r_7) ||| r_9)), (5, .int r_4), (4, .int r_3), (0, .ref (a 13)), (1, .ref (a 1)), (2, .int v1.1), (3, .int v1.2.1)]) hx hb d_growAll_64 hl (by decide) rfl (fun ls hl => ?_)
        refine lv_iload hx hb d_growAll_66 (lv_at hl 0 rfl) ?_
        refine lv_aload_n hx hb d_growAll_68 rfl (lv_at hl 3 rfl) ?_
        refine va_get (D := D) (ci := 3) (v := .ref (a 14)) (C := "LoanDesk$Uses") (T := T_Uses) (N := 1) hx hb hg u_Uses hown hK hP 7 rfl rfl 0 (by decide) (hg _ k_87) (fun _ h9 => h9) rfl d_growAll_69 ?_
        refine lv_iload_n hx hb d_growAll_72 rfl (lv_at hl 6 rfl) ?_
        refine va_iald hx hb hK hP 8 0 rfl rfl (i := v1.2.1) i_5 d_growAll_73 ?_
        refine lv_icmp_eq (tgt := 87) hx hb d_growAll_74 (by decide) (fun c_10 => ?_) (fun c_10 => ?_)
        · have hy1 := (if_pos c_10).symm.trans hy1
          refine lv_iinc (v := v1.2.1 - 1) (lv' := [(3, .int (v1.2.1 - 1)), (6, .int (((v1.2.2 v1.2.1.toNatClampNeg) ||| r_7) ||| r_9)), (5, .int r_4), (4, .int r_3), (0, .ref (a 13)), (1, .ref (a 1)), (2, .int v1.1)]) hx hb d_growAll_87 hl (k := 6) rfl (ld_m1 _) (by decide) rfl (fun ls hl => ?_)
          refine lv_goto (tgt := 14) hx hb d_growAll_90 (by decide) ?_
          obtain rfl := Option.some.inj hy1
          exact ih1 (v1.1, v1.2.1 - 1, v1.2.2) _ _ _ g1 hP hD hS (lv_sub hl [4, 5, 6, 0] rfl)
        · have hy1 := (if_neg c_10).symm.trans hy1
          refine lv_aload_n hx hb d_growAll_77 rfl (lv_at hl 3 rfl) ?_
          refine va_get (D := D) (ci := 3) (v := .ref (a 14)) (C := "LoanDesk$Uses") (T := T_Uses) (N := 1) hx hb hg u_Uses hown hK hP 7 rfl rfl 0 (by decide) (hg _ k_87) (fun _ h9 => h9) rfl d_growAll_78 ?_
          refine lv_iload_n hx hb d_growAll_81 rfl (lv_at hl 6 rfl) ?_
          refine lv_iload hx hb d_growAll_82 (lv_at hl 0 rfl) ?_
          refine va_iast hx hb hK hP hD hS 8 0 rfl rfl (i := v1.2.1) i_5 d_growAll_84 (fun H locs hP hD hS => ?_)
          have hP : va_P D vwCl (ld_gW a cI G ++ ld_uW a cI (upd v1.2.2 v1.2.1.toNatClampNeg (((v1.2.2 v1.2.1.toNatClampNeg) ||| r_7) ||| r_9))) H := hP
          have hD : va_D A (ld_gW a cI G ++ ld_uW a cI (upd v1.2.2 v1.2.1.toNatClampNeg (((v1.2.2 v1.2.1.toNatClampNeg) ||| r_7) ||| r_9))) := hD
          refine lv_iconst (v := 1) hx hb d_growAll_85 (by decide) ?_
          refine lv_istore_n (lv' := [(2, .int 1), (6, .int (((v1.2.2 v1.2.1.toNatClampNeg) ||| r_7) ||| r_9)), (5, .int r_4), (4, .int r_3), (0, .ref (a 13)), (1, .ref (a 1)), (3, .int v1.2.1)]) hx hb d_growAll_86 rfl hl (by decide) rfl (fun ls hl => ?_)
          refine lv_iinc (v := v1.2.1 - 1) (lv' := [(3, .int (v1.2.1 - 1)), (2, .int 1), (6, .int (((v1.2.2 v1.2.1.toNatClampNeg) ||| r_7) ||| r_9)), (5, .int r_4), (4, .int r_3), (0, .ref (a 13)), (1, .ref (a 1))]) hx hb d_growAll_87 hl (k := 6) rfl (ld_m1 _) (by decide) rfl (fun ls hl => ?_)
          refine lv_goto (tgt := 14) hx hb d_growAll_90 (by decide) ?_
          obtain rfl := Option.some.inj hy1
          exact ih1 (1, v1.2.1 - 1, (upd v1.2.2 v1.2.1.toNatClampNeg (((v1.2.2 v1.2.1.toNatClampNeg) ||| r_7) ||| r_9))) _ _ _ g1 hP hD hS (lv_sub hl [5, 6, 1, 0] rfl)
  exact key1 N (0, (if 120 < r_1 then 120 else r_1) - 1, u) _ _ _ eY1 hP hD hS (lv_sub hl [2, 3, 1, 0] rfl)
def ls_ufind_1 (N : Nat) (G : ld_gT) (v1 : Int32 × Int32 × (Nat → Int32)) : Option ((Int32 × Int32 × (Nat → Int32)) ⊕ (Int32 × Int32 × (Nat → Int32))) := if 1920 < v1.2.1 then some (.inr (v1.1, v1.2.1, v1.2.2)) else if v1.1 = 0 then some (.inr (v1.1, v1.2.1, v1.2.2)) else Option.bind (lm_growAll N G v1.2.2) (fun r_3 => some (.inl (r_3.1, v1.2.1 + 1, r_3.2)))
def lm_ufind (N : Nat) (G : ld_gT) (u : Nat → Int32) : Option ((Nat → Int32)) := Option.bind (ld_it (ls_ufind_1 N G) N (1, 0, (ld_fl 120 0 u))) (fun Y1 => some Y1.2.2)
set_option maxHeartbeats 4000000 in
set_option maxRecDepth 100000 in
theorem lc_ufind (l : Launch) (D : va_G) (cI cZ cJ : ClassId) (a : Nat → Nat) (G : ld_gT) (u : Nat → Int32) (sz : Nat) (N : Nat) (R : (Nat → Int32)) (h : lm_ufind N G u = some R) : Met l y_ufind (Cond.code y_ufind prog_7_method_3_code 4 none :: bgT) ({ frames := 3, cells := 0, slots := 0, locals := 69 }) (ld_PM D cI cZ cJ (ld_gW a cI G ++ ld_uW a cI u) sz [.ref (a 13), .ref (a 1)]) (ld_QV D (ld_gW a cI G ++ ld_uW a cI R) (va_A (ld_gW a cI G ++ ld_uW a cI u) sz)) 0 0 ((va_A (ld_gW a cI G ++ ld_uW a cI u) sz)) := by
  refine Met.ofW (cc := prog_7_method_3_code) (maxL := 4) (ret := none) (by decide) rfl ?_
  intro p e s m args below meth c s₁ B hml hv
  obtain ⟨rfl, hsz, hP, hK, hD0, hN⟩ := hv
  have hx := B.exec
  have hb := B.bytes
  have hr := B.returns
  have hg : ∀ w ∈ bgT, w.before _ s = true := fun w h => atoms_spec (ws := (Cond.code y_ufind prog_7_method_3_code 4 none :: bgT)) B.pre w (List.mem_cons_of_mem _ h)
  have hown : s.vm.findClass "LoanDesk$Uses" = some m.cls := findClass_of_methodNamed B.named
  have hlocks := B.notSynchronized
  subst hsz
  have hD := hD0.self (sz := s.heap.size)
  generalize hAe : va_A (ld_gW a cI G ++ ld_uW a cI u) s.heap.size = A at hD ⊢
  have hA : ∀ q : Nat, s.heap.size ≤ q → A q := fun q h => by rw [← hAe]; exact Or.inr h
  have hS : va_S A s.heap s.heap [] := va_S.rf
  have hl := lv_entry ([.ref (a 13), .ref (a 1)]) (n := 4) (Nat.le_of_ble_eq_true rfl)
  rw [lg_entry_eq]
  generalize (lg_sl ([.ref (a 13), .ref (a 1)]) ++ List.replicate (4 - (lg_sl ([.ref (a 13), .ref (a 1)])).length) Slot.unset).toArray = ls at hl ⊢
  have hl : lv_has ls 4 [(0, .ref (a 13)), (1, .ref (a 1))] := hl
  refine lv_aload_n hx hb d_ufind_0 rfl (lv_at hl 0 rfl) ?_
  refine va_get (D := D) (ci := 3) (v := .ref (a 14)) (C := "LoanDesk$Uses") (T := T_Uses) (N := 1) hx hb hg u_Uses hown hK hP 7 rfl rfl 0 (by decide) (hg _ k_87) (fun _ h9 => h9) rfl d_ufind_1 ?_
  refine lv_iconst (v := 0) hx hb d_ufind_4 (by decide) ?_
  refine ld_mv (wr := ([0, 1, 2, 3, 4, 5, 6, 7] : List Nat).filterMap (fun i => (ld_gW a cI G ++ ld_uW a cI u)[i]?)) (ws2 := ld_gW a cI G ++ ld_uW a cI (ld_fl 120 0 u)) (va_runS (As := [.ref (a 14), .int 0]) (rest := []) ⟨hx, hb, hml, hown, hg⟩ (lc_fillI l D cI cZ cJ (a 14) 120 (by decide) u 0 _) ⟨callB_of 2 hg (ld_gd k_180) rfl rfl rfl (hg _ k_31) (hg _ k_213) hd_fillI ⟨Nat.le_of_ble_eq_true rfl, Nat.le_of_ble_eq_true rfl⟩, hg _ k_179⟩ (ld_preM hP hK hN hD [8] (by decide) rfl) rfl rfl hl.1 rfl (lv_room (Nat.le_of_ble_eq_true rfl)) d_ufind_5 ⟨Nat.zero_le _, Nat.zero_le _⟩) hP hD hS hA [8] [0, 1, 2, 3, 4, 5, 6, 7] [0, 1, 2, 3, 4, 5, 6, 7, 8] rfl rfl (by decide) (by decide) (by decide) rfl (fun H locs hP hD hS => ?_)
  refine lv_iconst (v := 1) hx hb d_ufind_8 (by decide) ?_
  refine lv_istore_n (lv' := [(2, .int 1), (0, .ref (a 13)), (1, .ref (a 1))]) hx hb d_ufind_9 rfl hl (by decide) rfl (fun ls hl => ?_)
  refine lv_iconst (v := 0) hx hb d_ufind_10 (by decide) ?_
  refine lv_istore_n (lv' := [(3, .int 0), (2, .int 1), (0, .ref (a 13)), (1, .ref (a 1))]) hx hb d_ufind_11 rfl hl (by decide) rfl (fun ls hl => ?_)
  obtain ⟨Y1, eY1, h⟩ := ld_ob h
  have kont1 : ∀ (H : Heap) (locs : List Loc) (ls : Array Slot), va_P D vwCl (ld_gW a cI G ++ ld_uW a cI Y1.2.2) H → va_D A (ld_gW a cI G ++ ld_uW a cI Y1.2.2) → va_S A s.heap H locs → lv_has ls 4 [] → W p l e (headSpec (Cond.code y_ufind prog_7_method_3_code 4 none :: bgT) ({ frames := 3, cells := 0, slots := 0, locals := 69 })).room s m ([.ref (a 13), .ref (a 1)] : List Value).toArray below meth c H locs 0 0 (MQ below (ld_QV D (ld_gW a cI G ++ ld_uW a cI R) A) ([.ref (a 13), .ref (a 1)] : List Value).toArray s 0 0 (A)) (F0 m 35 ls []) := by
    intro H locs ls hP hD hS hl
    have h := Option.some.inj h
    subst h
    exact W.vret hx hb hr (fun t ht hW => ⟨⟨(), rfl, trivial, by rw [ht]; exact hP, hD⟩, hS.F ht⟩) hS.2.2 d_ufind_35
  have key1 : ∀ (n : Nat) (v1 : Int32 × Int32 × (Nat → Int32)) (H : Heap) (locs : List Loc) (ls : Array Slot), ld_it (ls_ufind_1 N G) n v1 = some Y1 → va_P D vwCl (ld_gW a cI G ++ ld_uW a cI v1.2.2) H → va_D A (ld_gW a cI G ++ ld_uW a cI v1.2.2) → va_S A s.heap H locs → lv_has ls 4 [(0, .ref (a 13)), (1, .ref (a 1)), (2, .int v1.1), (3, .int v1.2.1)] → W p l e (headSpec (Cond.code y_ufind prog_7_method_3_code 4 none :: bgT) ({ frames := 3, cells := 0, slots := 0, locals := 69 })).room s m ([.ref (a 13), .ref (a 1)] : List Value).toArray below meth c H locs 0 0 (MQ below (ld_QV D (ld_gW a cI G ++ ld_uW a cI R) A) ([.ref (a 13), .ref (a 1)] : List Value).toArray s 0 0 (A)) (F0 m 12 ls []) := by
    intro n
    induction n with
    | zero => intro v1 H locs ls g1 hP hD hS hl; cases g1
    | succ n ih1 =>
      intro v1 H locs ls g1 hP hD hS hl
      obtain ⟨z1, hy1, g1⟩ := ld_its g1
      refine lv_iload_n hx hb d_ufind_12 rfl (lv_at hl 3 rfl) ?_
      refine lv_sipush (v := 1920) hx hb d_ufind_13 (by decide) ?_
      refine lv_icmp_gt (tgt := 35) hx hb d_ufind_16 (by decide) (fun c_1 => ?_) (fun c_1 => ?_)
      · have hy1 := (if_pos c_1).symm.trans hy1
        obtain rfl := Option.some.inj hy1
        obtain rfl := Option.some.inj g1
        exact kont1 _ _ _ hP hD hS (lv_sub hl [] rfl)
      · have hy1 := (if_neg c_1).symm.trans hy1
        refine lv_iload_n hx hb d_ufind_19 rfl (lv_at hl 2 rfl) ?_
        refine lv_if_eq (tgt := 35) hx hb d_ufind_20 (by decide) (fun c_2 => ?_) (fun c_2 => ?_)
        · have hy1 := (if_pos c_2).symm.trans hy1
          obtain rfl := Option.some.inj hy1
          obtain rfl := Option.some.inj g1
          exact kont1 _ _ _ hP hD hS (lv_sub hl [] rfl)
        · have hy1 := (if_neg c_2).symm.trans hy1
          refine lv_aload_n hx hb d_ufind_23 rfl (lv_at hl 0 rfl) ?_
          refine lv_aload_n hx hb d_ufind_24 rfl (lv_at hl 1 rfl) ?_
          obtain ⟨r_3, e_3, hy1⟩ := ld_ob hy1
          refine ld_mi (wr := ([] : List Nat).filterMap (fun i => (ld_gW a cI G ++ ld_uW a cI v1.2.2)[i]?)) (ws2 := ld_gW a cI G ++ ld_uW a cI r_3.2) (va_runV (As := [.ref (a 1)]) (rest := []) ⟨hx, hb, hml, hown, hg⟩ (lc_growAll l D cI cZ cJ a G v1.2.2 _ N r_3 e_3) ⟨callB_of 1 hg (ld_gd k_216) rfl rfl rfl (hg _ k_27) (hg _ k_214) hd_growAll ⟨Nat.le_of_ble_eq_true rfl, Nat.le_of_ble_eq_true rfl⟩, hg _ k_215, hg _ k_3⟩ (ld_preMV hP hK hN hD [0, 1, 2, 3, 4, 5, 6, 7, 8] (by decide) rfl 3 7 rfl rfl) rfl rfl hl.1 rfl (lv_room (Nat.le_of_ble_eq_true rfl)) d_ufind_25 ⟨Nat.zero_le _, Nat.zero_le _⟩) hP hD hS hA [0, 1, 2, 3, 4, 5, 6, 7, 8] [] [0, 1, 2, 3, 4, 5, 6, 7, 8] rfl rfl (by decide) (by decide) (by decide) rfl (fun H locs hP hD hS => ?_)
          refine lv_istore_n (lv' := [(2, .int r_3.1), (0, .ref (a 13)), (1, .ref (a 1)), (3, .int v1.2.1)]) hx hb d_ufind_28 rfl hl (by decide) rfl (fun ls hl => ?_)
          refine lv_iinc (v := v1.2.1 + 1) (lv' := [(3, .int (v1.2.1 + 1)), (2, .int r_3.1), (0, .ref (a 13)), (1, .ref (a 1))]) hx hb d_ufind_29 hl (k := 3) rfl rfl (by decide) rfl (fun ls hl => ?_)
          refine lv_goto (tgt := 12) hx hb d_ufind_32 (by decide) ?_
          obtain rfl := Option.some.inj hy1
          exact ih1 (r_3.1, v1.2.1 + 1, r_3.2) _ _ _ g1 hP hD hS (lv_sub hl [2, 3, 1, 0] rfl)
  exact key1 N (1, 0, (ld_fl 120 0 u)) _ _ _ eY1 hP hD hS (lv_sub hl [2, 3, 1, 0] rfl)
end
section
theorem d_hbehind_0 : decode prog_3_method_2_code 0 = .ok (.iload_n 1, 1) := by decide +kernel
theorem d_hbehind_1 : decode prog_3_method_2_code 1 = .ok (.invokestatic 25, 3) := by decide +kernel
theorem d_hbehind_4 : decode prog_3_method_2_code 4 = .ok (.ifCond .eq 12, 3) := by decide +kernel
theorem d_hbehind_7 : decode prog_3_method_2_code 7 = .ok (.aload_n 0, 1) := by decide +kernel
theorem d_hbehind_8 : decode prog_3_method_2_code 8 = .ok (.getfield 15, 3) := by decide +kernel
theorem d_hbehind_11 : decode prog_3_method_2_code 11 = .ok (.iload_n 1, 1) := by decide +kernel
theorem d_hbehind_12 : decode prog_3_method_2_code 12 = .ok (.iaload, 1) := by decide +kernel
theorem d_hbehind_13 : decode prog_3_method_2_code 13 = .ok (.goto 4, 3) := by decide +kernel
theorem d_hbehind_16 : decode prog_3_method_2_code 16 = .ok (.iconst 0, 1) := by decide +kernel
theorem d_hbehind_17 : decode prog_3_method_2_code 17 = .ok (.ireturn, 1) := by decide +kernel
theorem d_handOn_0 : decode prog_3_method_5_code 0 = .ok (.aload_n 1, 1) := by decide +kernel
theorem d_handOn_1 : decode prog_3_method_5_code 1 = .ok (.iload_n 2, 1) := by decide +kernel
theorem d_handOn_2 : decode prog_3_method_5_code 2 = .ok (.invokevirtual 67, 3) := by decide +kernel
theorem d_handOn_5 : decode prog_3_method_5_code 5 = .ok (.ifCond .ne 4, 3) := by decide +kernel
theorem d_handOn_8 : decode prog_3_method_5_code 8 = .ok (.return_, 1) := by decide +kernel
theorem d_handOn_9 : decode prog_3_method_5_code 9 = .ok (.aload_n 0, 1) := by decide +kernel
theorem d_handOn_10 : decode prog_3_method_5_code 10 = .ok (.getfield 9, 3) := by decide +kernel
theorem d_handOn_13 : decode prog_3_method_5_code 13 = .ok (.iload_n 2, 1) := by decide +kernel
theorem d_handOn_14 : decode prog_3_method_5_code 14 = .ok (.iaload, 1) := by decide +kernel
theorem d_handOn_15 : decode prog_3_method_5_code 15 = .ok (.iload_n 3, 1) := by decide +kernel
theorem d_handOn_16 : decode prog_3_method_5_code 16 = .ok (.ior, 1) := by decide +kernel
theorem d_handOn_17 : decode prog_3_method_5_code 17 = .ok (.istore 4, 2) := by decide +kernel
theorem d_handOn_19 : decode prog_3_method_5_code 19 = .ok (.iload 4, 2) := by decide +kernel
theorem d_handOn_21 : decode prog_3_method_5_code 21 = .ok (.aload_n 0, 1) := by decide +kernel
theorem d_handOn_22 : decode prog_3_method_5_code 22 = .ok (.getfield 9, 3) := by decide +kernel
theorem d_handOn_25 : decode prog_3_method_5_code 25 = .ok (.iload_n 2, 1) := by decide +kernel
theorem d_handOn_26 : decode prog_3_method_5_code 26 = .ok (.iaload, 1) := by decide +kernel
theorem d_handOn_27 : decode prog_3_method_5_code 27 = .ok (.if_icmp .eq 19, 3) := by decide +kernel
theorem d_handOn_30 : decode prog_3_method_5_code 30 = .ok (.aload_n 0, 1) := by decide +kernel
theorem d_handOn_31 : decode prog_3_method_5_code 31 = .ok (.getfield 9, 3) := by decide +kernel
theorem d_handOn_34 : decode prog_3_method_5_code 34 = .ok (.iload_n 2, 1) := by decide +kernel
theorem d_handOn_35 : decode prog_3_method_5_code 35 = .ok (.iload 4, 2) := by decide +kernel
theorem d_handOn_37 : decode prog_3_method_5_code 37 = .ok (.iastore, 1) := by decide +kernel
theorem d_handOn_38 : decode prog_3_method_5_code 38 = .ok (.aload_n 0, 1) := by decide +kernel
theorem d_handOn_39 : decode prog_3_method_5_code 39 = .ok (.getfield 21, 3) := by decide +kernel
theorem d_handOn_42 : decode prog_3_method_5_code 42 = .ok (.iload_n 2, 1) := by decide +kernel
theorem d_handOn_43 : decode prog_3_method_5_code 43 = .ok (.invokevirtual 35, 3) := by decide +kernel
theorem d_handOn_46 : decode prog_3_method_5_code 46 = .ok (.return_, 1) := by decide +kernel
theorem d_pass_0 : decode prog_3_method_4_code 0 = .ok (.iload_n 3, 1) := by decide +kernel
theorem d_pass_1 : decode prog_3_method_4_code 1 = .ok (.invokestatic 25, 3) := by decide +kernel
theorem d_pass_4 : decode prog_3_method_4_code 4 = .ok (.ifCond .ne 4, 3) := by decide +kernel
theorem d_pass_7 : decode prog_3_method_4_code 7 = .ok (.return_, 1) := by decide +kernel
theorem d_pass_8 : decode prog_3_method_4_code 8 = .ok (.aload_n 1, 1) := by decide +kernel
theorem d_pass_9 : decode prog_3_method_4_code 9 = .ok (.iload_n 3, 1) := by decide +kernel
theorem d_pass_10 : decode prog_3_method_4_code 10 = .ok (.iload_n 2, 1) := by decide +kernel
theorem d_pass_11 : decode prog_3_method_4_code 11 = .ok (.aload_n 0, 1) := by decide +kernel
theorem d_pass_12 : decode prog_3_method_4_code 12 = .ok (.getfield 9, 3) := by decide +kernel
theorem d_pass_15 : decode prog_3_method_4_code 15 = .ok (.iload_n 3, 1) := by decide +kernel
theorem d_pass_16 : decode prog_3_method_4_code 16 = .ok (.iaload, 1) := by decide +kernel
theorem d_pass_17 : decode prog_3_method_4_code 17 = .ok (.invokevirtual 51, 3) := by decide +kernel
theorem d_pass_20 : decode prog_3_method_4_code 20 = .ok (.istore 4, 2) := by decide +kernel
theorem d_pass_22 : decode prog_3_method_4_code 22 = .ok (.aload_n 0, 1) := by decide +kernel
theorem d_pass_23 : decode prog_3_method_4_code 23 = .ok (.getfield 15, 3) := by decide +kernel
theorem d_pass_26 : decode prog_3_method_4_code 26 = .ok (.iload_n 3, 1) := by decide +kernel
theorem d_pass_27 : decode prog_3_method_4_code 27 = .ok (.iload 4, 2) := by decide +kernel
theorem d_pass_29 : decode prog_3_method_4_code 29 = .ok (.iastore, 1) := by decide +kernel
theorem d_pass_30 : decode prog_3_method_4_code 30 = .ok (.aload_n 0, 1) := by decide +kernel
theorem d_pass_31 : decode prog_3_method_4_code 31 = .ok (.aload_n 1, 1) := by decide +kernel
theorem d_pass_32 : decode prog_3_method_4_code 32 = .ok (.aload_n 1, 1) := by decide +kernel
theorem d_pass_33 : decode prog_3_method_4_code 33 = .ok (.iload_n 3, 1) := by decide +kernel
theorem d_pass_34 : decode prog_3_method_4_code 34 = .ok (.invokevirtual 57, 3) := by decide +kernel
theorem d_pass_37 : decode prog_3_method_4_code 37 = .ok (.iload 4, 2) := by decide +kernel
theorem d_pass_39 : decode prog_3_method_4_code 39 = .ok (.invokevirtual 61, 3) := by decide +kernel
theorem d_pass_42 : decode prog_3_method_4_code 42 = .ok (.aload_n 0, 1) := by decide +kernel
theorem d_pass_43 : decode prog_3_method_4_code 43 = .ok (.aload_n 1, 1) := by decide +kernel
theorem d_pass_44 : decode prog_3_method_4_code 44 = .ok (.aload_n 1, 1) := by decide +kernel
theorem d_pass_45 : decode prog_3_method_4_code 45 = .ok (.iload_n 3, 1) := by decide +kernel
theorem d_pass_46 : decode prog_3_method_4_code 46 = .ok (.invokevirtual 64, 3) := by decide +kernel
theorem d_pass_49 : decode prog_3_method_4_code 49 = .ok (.iload 4, 2) := by decide +kernel
theorem d_pass_51 : decode prog_3_method_4_code 51 = .ok (.invokevirtual 61, 3) := by decide +kernel
theorem d_pass_54 : decode prog_3_method_4_code 54 = .ok (.return_, 1) := by decide +kernel
theorem d_follow_0 : decode prog_3_method_3_code 0 = .ok (.aload_n 0, 1) := by decide +kernel
theorem d_follow_1 : decode prog_3_method_3_code 1 = .ok (.getfield 9, 3) := by decide +kernel
theorem d_follow_4 : decode prog_3_method_3_code 4 = .ok (.iconst 0, 1) := by decide +kernel
theorem d_follow_5 : decode prog_3_method_3_code 5 = .ok (.invokestatic 29, 3) := by decide +kernel
theorem d_follow_8 : decode prog_3_method_3_code 8 = .ok (.aload_n 0, 1) := by decide +kernel
theorem d_follow_9 : decode prog_3_method_3_code 9 = .ok (.getfield 15, 3) := by decide +kernel
theorem d_follow_12 : decode prog_3_method_3_code 12 = .ok (.iconst 0, 1) := by decide +kernel
theorem d_follow_13 : decode prog_3_method_3_code 13 = .ok (.invokestatic 29, 3) := by decide +kernel
theorem d_follow_16 : decode prog_3_method_3_code 16 = .ok (.aload_n 0, 1) := by decide +kernel
theorem d_follow_17 : decode prog_3_method_3_code 17 = .ok (.getfield 21, 3) := by decide +kernel
theorem d_follow_20 : decode prog_3_method_3_code 20 = .ok (.iload_n 2, 1) := by decide +kernel
theorem d_follow_21 : decode prog_3_method_3_code 21 = .ok (.invokevirtual 35, 3) := by decide +kernel
theorem d_follow_24 : decode prog_3_method_3_code 24 = .ok (.iconst 0, 1) := by decide +kernel
theorem d_follow_25 : decode prog_3_method_3_code 25 = .ok (.istore_n 3, 1) := by decide +kernel
theorem d_follow_26 : decode prog_3_method_3_code 26 = .ok (.iload_n 3, 1) := by decide +kernel
theorem d_follow_27 : decode prog_3_method_3_code 27 = .ok (.sipush 1920, 3) := by decide +kernel
theorem d_follow_30 : decode prog_3_method_3_code 30 = .ok (.if_icmp .gt 32, 3) := by decide +kernel
theorem d_follow_33 : decode prog_3_method_3_code 33 = .ok (.aload_n 0, 1) := by decide +kernel
theorem d_follow_34 : decode prog_3_method_3_code 34 = .ok (.getfield 21, 3) := by decide +kernel
theorem d_follow_37 : decode prog_3_method_3_code 37 = .ok (.invokevirtual 39, 3) := by decide +kernel
theorem d_follow_40 : decode prog_3_method_3_code 40 = .ok (.ifCond .ne 22, 3) := by decide +kernel
theorem d_follow_43 : decode prog_3_method_3_code 43 = .ok (.aload_n 0, 1) := by decide +kernel
theorem d_follow_44 : decode prog_3_method_3_code 44 = .ok (.aload_n 1, 1) := by decide +kernel
theorem d_follow_45 : decode prog_3_method_3_code 45 = .ok (.iload_n 2, 1) := by decide +kernel
theorem d_follow_46 : decode prog_3_method_3_code 46 = .ok (.aload_n 0, 1) := by decide +kernel
theorem d_follow_47 : decode prog_3_method_3_code 47 = .ok (.getfield 21, 3) := by decide +kernel
theorem d_follow_50 : decode prog_3_method_3_code 50 = .ok (.invokevirtual 43, 3) := by decide +kernel
theorem d_follow_53 : decode prog_3_method_3_code 53 = .ok (.invokevirtual 47, 3) := by decide +kernel
theorem d_follow_56 : decode prog_3_method_3_code 56 = .ok (.iinc 3 1, 3) := by decide +kernel
theorem d_follow_59 : decode prog_3_method_3_code 59 = .ok (.goto (-33), 3) := by decide +kernel
theorem d_follow_62 : decode prog_3_method_3_code 62 = .ok (.return_, 1) := by decide +kernel
end
section
def lf_hbehind (hh : (Nat → Int32) × (Nat → Int32)) (p0 : Int32) : Int32 := ld_lt (lf_isIndex p0) (fun r_1 => if r_1 = 0 then 0 else hh.2 p0.toNatClampNeg)
set_option maxHeartbeats 4000000 in
set_option maxRecDepth 100000 in
theorem lc_hbehind (l : Launch) (D : va_G) (cI cZ cJ : ClassId) (a : Nat → Nat) (hh : (Nat → Int32) × (Nat → Int32)) (p0 : Int32) (R : Int32) (h : lf_hbehind hh p0 = R) : Met l y_hbehind (Cond.code y_hbehind prog_3_method_2_code 2 (some .int) :: bgT) ({ frames := 1, cells := 0, slots := 0, locals := 20 }) (ld_PR D cI cZ cJ (ld_hW a cI hh) [.ref (a 15), .int p0]) (vp_Si (fun z => z = R)) 0 0 (fun _ => False) := by
  refine Met.ofW (cc := prog_3_method_2_code) (maxL := 2) (ret := (some .int)) (by decide) rfl ?_
  intro p e s m args below meth c s₁ B hml hv
  obtain ⟨rfl, hP, hK, hN⟩ := hv
  have hx := B.exec
  have hb := B.bytes
  have hr := B.returns
  have hg : ∀ w ∈ bgT, w.before _ s = true := fun w h => atoms_spec (ws := (Cond.code y_hbehind prog_3_method_2_code 2 (some .int) :: bgT)) B.pre w (List.mem_cons_of_mem _ h)
  have hown : s.vm.findClass "LoanDesk$Holding" = some m.cls := findClass_of_methodNamed B.named
  have hlocks := B.notSynchronized
  have hl := lv_entry ([.ref (a 15), .int p0]) (n := 2) (Nat.le_of_ble_eq_true rfl)
  rw [lg_entry_eq]
  generalize (lg_sl ([.ref (a 15), .int p0]) ++ List.replicate (2 - (lg_sl ([.ref (a 15), .int p0])).length) Slot.unset).toArray = ls at hl ⊢
  have hl : lv_has ls 2 [(0, .ref (a 15)), (1, .int p0)] := hl
  refine lv_iload_n hx hb d_hbehind_0 rfl (lv_at hl 1 rfl) ?_
  obtain ⟨r_1, e_1, h⟩ := ld_nm h
  refine ld_rd ((va_runSN (As := [.int p0]) (rest := []) ⟨hx, hb, hml, hown, hg⟩ (lc_isIndex l D cI cZ cJ p0 r_1 e_1) ⟨va_cnB 1 hg (ld_gd k_161) rfl rfl rfl (hN _ (ld_nwm 10 rfl)) (hg _ k_23) hd_isIndex ⟨Nat.le_of_ble_eq_true rfl, Nat.le_of_ble_eq_true rfl⟩, hg _ k_160, trivial⟩ (ld_preR hP hK hN [] rfl) rfl rfl hl.1 rfl (lv_room (Nat.le_of_ble_eq_true rfl)) d_hbehind_1 ⟨Nat.zero_le _, Nat.zero_le _⟩).run) ?_
  refine lv_if_eq (tgt := 16) hx hb d_hbehind_4 (by decide) (fun c_2 => ?_) (fun c_2 => ?_)
  · have h := (if_pos c_2).symm.trans h
    refine lv_iconst (v := 0) hx hb d_hbehind_16 (by decide) ?_
    exact W.iret (v := 0) hx hb hr (fun t ht hW => ⟨_, rfl, h, ht⟩) (fun _ q => by cases q) d_hbehind_17
  · have h := (if_neg c_2).symm.trans h
    refine lv_aload_n hx hb d_hbehind_7 rfl (lv_at hl 0 rfl) ?_
    refine va_get (D := D) (ci := 4) (v := .ref (a 17)) (C := "LoanDesk$Holding") (T := T_Holding) (N := 3) hx hb hg u_Holding hown hK hP 0 rfl rfl 1 (by decide) (hg _ k_96) (fun _ h9 => h9) rfl d_hbehind_8 ?_
    refine lv_iload_n hx hb d_hbehind_11 rfl (lv_at hl 1 rfl) ?_
    refine va_iald hx hb hK hP 2 0 rfl rfl (i := p0) (ld_ix e_1 c_2) d_hbehind_12 ?_
    refine lv_goto (tgt := 17) hx hb d_hbehind_13 (by decide) ?_
    exact W.iret (v := hh.2 p0.toNatClampNeg) hx hb hr (fun t ht hW => ⟨_, rfl, h, ht⟩) (fun _ q => by cases q) d_hbehind_17
def lf_handOn (G : ld_gT) (hh : (Nat → Int32) × (Nat → Int32)) (qq : ld_pT) (p0 : Int32) (p1 : Int32) : ((Nat → Int32) × (Nat → Int32)) × ld_pT := ld_lt (lf_isPoint G p0) (fun r_1 => if r_1 = 0 then (hh, qq) else if ((hh.1 p0.toNatClampNeg) ||| p1) = (hh.1 p0.toNatClampNeg) then (hh, qq) else ld_lt (lf_put qq p0) (fun r_4 => ((upd hh.1 p0.toNatClampNeg ((hh.1 p0.toNatClampNeg) ||| p1), hh.2), r_4)))
set_option maxHeartbeats 4000000 in
set_option maxRecDepth 100000 in
theorem lc_handOn (l : Launch) (D : va_G) (cI cZ cJ : ClassId) (a : Nat → Nat) (G : ld_gT) (hh : (Nat → Int32) × (Nat → Int32)) (qq : ld_pT) (p0 : Int32) (p1 : Int32) (sz : Nat) (R : ((Nat → Int32) × (Nat → Int32)) × ld_pT) (h : lf_handOn G hh qq p0 p1 = R) : Met l y_handOn (Cond.code y_handOn prog_3_method_5_code 5 none :: bgT) ({ frames := 2, cells := 0, slots := 0, locals := 41 }) (ld_PM D cI cZ cJ (ld_gW a cI G ++ ld_hW a cI hh ++ ld_pW (a 18) (a 19) (a 20) cI cZ qq) sz [.ref (a 15), .ref (a 1), .int p0, .int p1]) (ld_QV D (ld_gW a cI G ++ ld_hW a cI R.1 ++ ld_pW (a 18) (a 19) (a 20) cI cZ R.2) (va_A (ld_gW a cI G ++ ld_hW a cI hh ++ ld_pW (a 18) (a 19) (a 20) cI cZ qq) sz)) 0 0 ((va_A (ld_gW a cI G ++ ld_hW a cI hh ++ ld_pW (a 18) (a 19) (a 20) cI cZ qq) sz)) := by
  refine Met.ofW (cc := prog_3_method_5_code) (maxL := 5) (ret := none) (by decide) rfl ?_
  intro p e s m args below meth c s₁ B hml hv
  obtain ⟨rfl, hsz, hP, hK, hD0, hN⟩ := hv
  have hx := B.exec
  have hb := B.bytes
  have hr := B.returns
  have hg : ∀ w ∈ bgT, w.before _ s = true := fun w h => atoms_spec (ws := (Cond.code y_handOn prog_3_method_5_code 5 none :: bgT)) B.pre w (List.mem_cons_of_mem _ h)
  have hown : s.vm.findClass "LoanDesk$Holding" = some m.cls := findClass_of_methodNamed B.named
  have hlocks := B.notSynchronized
  subst hsz
  have hD := hD0.self (sz := s.heap.size)
  generalize hAe : va_A (ld_gW a cI G ++ ld_hW a cI hh ++ ld_pW (a 18) (a 19) (a 20) cI cZ qq) s.heap.size = A at hD ⊢
  have hA : ∀ q : Nat, s.heap.size ≤ q → A q := fun q h => by rw [← hAe]; exact Or.inr h
  have hS : va_S A s.heap s.heap [] := va_S.rf
  have hl := lv_entry ([.ref (a 15), .ref (a 1), .int p0, .int p1]) (n := 5) (Nat.le_of_ble_eq_true rfl)
  rw [lg_entry_eq]
  generalize (lg_sl ([.ref (a 15), .ref (a 1), .int p0, .int p1]) ++ List.replicate (5 - (lg_sl ([.ref (a 15), .ref (a 1), .int p0, .int p1])).length) Slot.unset).toArray = ls at hl ⊢
  have hl : lv_has ls 5 [(0, .ref (a 15)), (1, .ref (a 1)), (2, .int p0), (3, .int p1)] := hl
  refine lv_aload_n hx hb d_handOn_0 rfl (lv_at hl 1 rfl) ?_
  refine lv_iload_n hx hb d_handOn_1 rfl (lv_at hl 2 rfl) ?_
  obtain ⟨r_1, e_1, h⟩ := ld_nm h
  refine ld_rd (W.runV (As := [.int p0]) (rest := []) ⟨hx, hb, hml, hown, hg⟩ (lc_isPoint l D cI cZ cJ a G p0 r_1 e_1) ⟨callB_of 1 hg (ld_gd k_155) rfl rfl rfl (hg _ k_24) (hg _ k_265) hd_isPoint ⟨Nat.le_of_ble_eq_true rfl, Nat.le_of_ble_eq_true rfl⟩, hg _ k_153, hg _ k_154⟩ (ld_preRV hP hK hN [0, 1, 2, 3, 4, 5, 6] rfl 0 0 rfl rfl) rfl rfl hl.1 rfl (lv_room (Nat.le_of_ble_eq_true rfl)) d_handOn_2 ⟨Nat.zero_le _, Nat.zero_le _⟩) ?_
  refine lv_if_ne (tgt := 9) hx hb d_handOn_5 (by decide) (fun c_2 => ?_) (fun c_2 => ?_)
  · have h := (if_neg c_2).symm.trans h
    refine lv_aload_n hx hb d_handOn_9 rfl (lv_at hl 0 rfl) ?_
    refine va_get (D := D) (ci := 4) (v := .ref (a 16)) (C := "LoanDesk$Holding") (T := T_Holding) (N := 3) hx hb hg u_Holding hown hK hP 7 rfl rfl 0 (by decide) (hg _ k_95) (fun _ h9 => h9) rfl d_handOn_10 ?_
    refine lv_iload_n hx hb d_handOn_13 rfl (lv_at hl 2 rfl) ?_
    refine va_iald hx hb hK hP 8 0 rfl rfl (i := p0) (ld_pt e_1 c_2) d_handOn_14 ?_
    refine lv_iload_n hx hb d_handOn_15 rfl (lv_at hl 3 rfl) ?_
    refine lv_ior hx hb d_handOn_16 ?_
    refine lv_istore (lv' := [(4, .int ((hh.1 p0.toNatClampNeg) ||| p1)), (0, .ref (a 15)), (1, .ref (a 1)), (2, .int p0), (3, .int p1)]) hx hb d_handOn_17 hl (by decide) rfl (fun ls hl => ?_)
    refine lv_iload hx hb d_handOn_19 (lv_at hl 0 rfl) ?_
    refine lv_aload_n hx hb d_handOn_21 rfl (lv_at hl 1 rfl) ?_
    refine va_get (D := D) (ci := 4) (v := .ref (a 16)) (C := "LoanDesk$Holding") (T := T_Holding) (N := 3) hx hb hg u_Holding hown hK hP 7 rfl rfl 0 (by decide) (hg _ k_95) (fun _ h9 => h9) rfl d_handOn_22 ?_
    refine lv_iload_n hx hb d_handOn_25 rfl (lv_at hl 3 rfl) ?_
    refine va_iald hx hb hK hP 8 0 rfl rfl (i := p0) (ld_pt e_1 c_2) d_handOn_26 ?_
    refine lv_icmp_eq (tgt := 46) hx hb d_handOn_27 (by decide) (fun c_3 => ?_) (fun c_3 => ?_)
    · have h := (if_pos c_3).symm.trans h
      subst h
      exact W.vret hx hb hr (fun t ht hW => ⟨⟨(), rfl, trivial, by rw [ht]; exact hP, hD⟩, hS.F ht⟩) hS.2.2 d_handOn_46
    · have h := (if_neg c_3).symm.trans h
      refine lv_aload_n hx hb d_handOn_30 rfl (lv_at hl 1 rfl) ?_
      refine va_get (D := D) (ci := 4) (v := .ref (a 16)) (C := "LoanDesk$Holding") (T := T_Holding) (N := 3) hx hb hg u_Holding hown hK hP 7 rfl rfl 0 (by decide) (hg _ k_95) (fun _ h9 => h9) rfl d_handOn_31 ?_
      refine lv_iload_n hx hb d_handOn_34 rfl (lv_at hl 3 rfl) ?_
      refine lv_iload hx hb d_handOn_35 (lv_at hl 0 rfl) ?_
      refine va_iast hx hb hK hP hD hS 8 0 rfl rfl (i := p0) (ld_pt e_1 c_2) d_handOn_37 (fun H locs hP hD hS => ?_)
      have hP : va_P D vwCl (ld_gW a cI G ++ ld_hW a cI (upd hh.1 p0.toNatClampNeg ((hh.1 p0.toNatClampNeg) ||| p1), hh.2) ++ ld_pW (a 18) (a 19) (a 20) cI cZ qq) H := hP
      have hD : va_D A (ld_gW a cI G ++ ld_hW a cI (upd hh.1 p0.toNatClampNeg ((hh.1 p0.toNatClampNeg) ||| p1), hh.2) ++ ld_pW (a 18) (a 19) (a 20) cI cZ qq) := hD
      refine lv_aload_n hx hb d_handOn_38 rfl (lv_at hl 1 rfl) ?_
      refine va_get (D := D) (ci := 4) (v := .ref (a 18)) (C := "LoanDesk$Holding") (T := T_Holding) (N := 3) hx hb hg u_Holding hown hK hP 7 rfl rfl 2 (by decide) (hg _ k_97) (fun _ h9 => h9) rfl d_handOn_39 ?_
      refine lv_iload_n hx hb d_handOn_42 rfl (lv_at hl 3 rfl) ?_
      obtain ⟨r_4, e_4, h⟩ := ld_nm h
      refine ld_mv (wr := ([0, 1, 2, 3, 4, 5, 6, 7, 8, 9] : List Nat).filterMap (fun i => (ld_gW a cI G ++ ld_hW a cI (upd hh.1 p0.toNatClampNeg ((hh.1 p0.toNatClampNeg) ||| p1), hh.2) ++ ld_pW (a 18) (a 19) (a 20) cI cZ qq)[i]?)) (ws2 := ld_gW a cI G ++ ld_hW a cI (upd hh.1 p0.toNatClampNeg ((hh.1 p0.toNatClampNeg) ||| p1), hh.2) ++ ld_pW (a 18) (a 19) (a 20) cI cZ r_4) (va_runV (As := [.int p0]) (rest := []) ⟨hx, hb, hml, hown, hg⟩ (lc_put l D cI cZ cJ (a 18) (a 19) (a 20) qq p0 _ r_4 e_4) ⟨callB_of 1 hg (ld_gd k_192) rfl rfl rfl (hg _ k_26) (hg _ k_248) hd_put ⟨Nat.le_of_ble_eq_true rfl, Nat.le_of_ble_eq_true rfl⟩, hg _ k_190, hg _ k_191⟩ (ld_preMV hP hK hN hD [10, 11, 12] (by decide) rfl 1 0 rfl rfl) rfl rfl hl.1 rfl (lv_room (Nat.le_of_ble_eq_true rfl)) d_handOn_43 ⟨Nat.zero_le _, Nat.zero_le _⟩) hP hD hS hA [10, 11, 12] [0, 1, 2, 3, 4, 5, 6, 7, 8, 9] [0, 1, 2, 3, 4, 5, 6, 7, 8, 9, 10, 11, 12] rfl rfl (by decide) (by decide) (by decide) rfl (fun H locs hP hD hS => ?_)
      subst h
      exact W.vret hx hb hr (fun t ht hW => ⟨⟨(), rfl, trivial, by rw [ht]; exact hP, hD⟩, hS.F ht⟩) hS.2.2 d_handOn_46
  · have h := (if_pos c_2).symm.trans h
    subst h
    exact W.vret hx hb hr (fun t ht hW => ⟨⟨(), rfl, trivial, by rw [ht]; exact hP, hD⟩, hS.F ht⟩) hS.2.2 d_handOn_8
def lf_pass (G : ld_gT) (hh : (Nat → Int32) × (Nat → Int32)) (qq : ld_pT) (p0 : Int32) (p1 : Int32) : ((Nat → Int32) × (Nat → Int32)) × ld_pT := ld_lt (lf_isIndex p1) (fun r_1 => if r_1 = 0 then (hh, qq) else ld_lt (lf_heldBehind G p1 p0 (hh.1 p1.toNatClampNeg)) (fun r_3 => ld_lt (lf_firstNext G p1) (fun r_4 => ld_lt (lf_handOn G (hh.1, upd hh.2 p1.toNatClampNeg r_3) qq r_4 r_3) (fun r_5 => ld_lt (lf_secondNext G p1) (fun r_6 => ld_lt (lf_handOn G r_5.1 r_5.2 r_6 r_3) (fun r_7 => (r_7.1, r_7.2)))))))
set_option maxHeartbeats 4000000 in
set_option maxRecDepth 100000 in
theorem lc_pass (l : Launch) (D : va_G) (cI cZ cJ : ClassId) (a : Nat → Nat) (G : ld_gT) (hh : (Nat → Int32) × (Nat → Int32)) (qq : ld_pT) (p0 : Int32) (p1 : Int32) (sz : Nat) (R : ((Nat → Int32) × (Nat → Int32)) × ld_pT) (h : lf_pass G hh qq p0 p1 = R) : Met l y_pass (Cond.code y_pass prog_3_method_4_code 5 none :: bgT) ({ frames := 3, cells := 0, slots := 0, locals := 65 }) (ld_PM D cI cZ cJ (ld_gW a cI G ++ ld_hW a cI hh ++ ld_pW (a 18) (a 19) (a 20) cI cZ qq) sz [.ref (a 15), .ref (a 1), .int p0, .int p1]) (ld_QV D (ld_gW a cI G ++ ld_hW a cI R.1 ++ ld_pW (a 18) (a 19) (a 20) cI cZ R.2) (va_A (ld_gW a cI G ++ ld_hW a cI hh ++ ld_pW (a 18) (a 19) (a 20) cI cZ qq) sz)) 0 0 ((va_A (ld_gW a cI G ++ ld_hW a cI hh ++ ld_pW (a 18) (a 19) (a 20) cI cZ qq) sz)) := by
  refine Met.ofW (cc := prog_3_method_4_code) (maxL := 5) (ret := none) (by decide) rfl ?_
  intro p e s m args below meth c s₁ B hml hv
  obtain ⟨rfl, hsz, hP, hK, hD0, hN⟩ := hv
  have hx := B.exec
  have hb := B.bytes
  have hr := B.returns
  have hg : ∀ w ∈ bgT, w.before _ s = true := fun w h => atoms_spec (ws := (Cond.code y_pass prog_3_method_4_code 5 none :: bgT)) B.pre w (List.mem_cons_of_mem _ h)
  have hown : s.vm.findClass "LoanDesk$Holding" = some m.cls := findClass_of_methodNamed B.named
  have hlocks := B.notSynchronized
  subst hsz
  have hD := hD0.self (sz := s.heap.size)
  generalize hAe : va_A (ld_gW a cI G ++ ld_hW a cI hh ++ ld_pW (a 18) (a 19) (a 20) cI cZ qq) s.heap.size = A at hD ⊢
  have hA : ∀ q : Nat, s.heap.size ≤ q → A q := fun q h => by rw [← hAe]; exact Or.inr h
  have hS : va_S A s.heap s.heap [] := va_S.rf
  have hl := lv_entry ([.ref (a 15), .ref (a 1), .int p0, .int p1]) (n := 5) (Nat.le_of_ble_eq_true rfl)
  rw [lg_entry_eq]
  generalize (lg_sl ([.ref (a 15), .ref (a 1), .int p0, .int p1]) ++ List.replicate (5 - (lg_sl ([.ref (a 15), .ref (a 1), .int p0, .int p1])).length) Slot.unset).toArray = ls at hl ⊢
  have hl : lv_has ls 5 [(0, .ref (a 15)), (1, .ref (a 1)), (2, .int p0), (3, .int p1)] := hl
  refine lv_iload_n hx hb d_pass_0 rfl (lv_at hl 3 rfl) ?_
  obtain ⟨r_1, e_1, h⟩ := ld_nm h
  refine ld_rd ((va_runSN (As := [.int p1]) (rest := []) ⟨hx, hb, hml, hown, hg⟩ (lc_isIndex l D cI cZ cJ p1 r_1 e_1) ⟨va_cnB 1 hg (ld_gd k_161) rfl rfl rfl (hN _ (ld_nwm 10 rfl)) (hg _ k_23) hd_isIndex ⟨Nat.le_of_ble_eq_true rfl, Nat.le_of_ble_eq_true rfl⟩, hg _ k_160, trivial⟩ (ld_preR hP hK hN [] rfl) rfl rfl hl.1 rfl (lv_room (Nat.le_of_ble_eq_true rfl)) d_pass_1 ⟨Nat.zero_le _, Nat.zero_le _⟩).run) ?_
  refine lv_if_ne (tgt := 8) hx hb d_pass_4 (by decide) (fun c_2 => ?_) (fun c_2 => ?_)
  · have h := (if_neg c_2).symm.trans h
    refine lv_aload_n hx hb d_pass_8 rfl (lv_at hl 1 rfl) ?_
    refine lv_iload_n hx hb d_pass_9 rfl (lv_at hl 3 rfl) ?_
    refine lv_iload_n hx hb d_pass_10 rfl (lv_at hl 2 rfl) ?_
    refine lv_aload_n hx hb d_pass_11 rfl (lv_at hl 0 rfl) ?_
    refine va_get (D := D) (ci := 4) (v := .ref (a 16)) (C := "LoanDesk$Holding") (T := T_Holding) (N := 3) hx hb hg u_Holding hown hK hP 7 rfl rfl 0 (by decide) (hg _ k_95) (fun _ h9 => h9) rfl d_pass_12 ?_
    refine lv_iload_n hx hb d_pass_15 rfl (lv_at hl 3 rfl) ?_
    refine va_iald hx hb hK hP 8 0 rfl rfl (i := p1) (ld_ix e_1 c_2) d_pass_16 ?_
    obtain ⟨r_3, e_3, h⟩ := ld_nm h
    refine ld_rd (W.runV (As := [.int p1, .int p0, .int (hh.1 p1.toNatClampNeg)]) (rest := []) ⟨hx, hb, hml, hown, hg⟩ (lc_heldBehind l D cI cZ cJ a G p1 p0 (hh.1 p1.toNatClampNeg) r_3 e_3) ⟨callB_of 3 hg (ld_gd k_257) rfl rfl rfl (hg _ k_24) (hg _ k_254) hd_heldBehind ⟨Nat.le_of_ble_eq_true rfl, Nat.le_of_ble_eq_true rfl⟩, hg _ k_255, hg _ k_256⟩ (ld_preRV hP hK hN [0, 1, 2, 3, 4, 5, 6] rfl 0 0 rfl rfl) rfl rfl hl.1 rfl (lv_room (Nat.le_of_ble_eq_true rfl)) d_pass_17 ⟨Nat.zero_le _, Nat.zero_le _⟩) ?_
    refine lv_istore (lv' := [(4, .int r_3), (0, .ref (a 15)), (1, .ref (a 1)), (2, .int p0), (3, .int p1)]) hx hb d_pass_20 hl (by decide) rfl (fun ls hl => ?_)
    refine lv_aload_n hx hb d_pass_22 rfl (lv_at hl 1 rfl) ?_
    refine va_get (D := D) (ci := 4) (v := .ref (a 17)) (C := "LoanDesk$Holding") (T := T_Holding) (N := 3) hx hb hg u_Holding hown hK hP 7 rfl rfl 1 (by decide) (hg _ k_96) (fun _ h9 => h9) rfl d_pass_23 ?_
    refine lv_iload_n hx hb d_pass_26 rfl (lv_at hl 4 rfl) ?_
    refine lv_iload hx hb d_pass_27 (lv_at hl 0 rfl) ?_
    refine va_iast hx hb hK hP hD hS 9 0 rfl rfl (i := p1) (ld_ix e_1 c_2) d_pass_29 (fun H locs hP hD hS => ?_)
    have hP : va_P D vwCl (ld_gW a cI G ++ ld_hW a cI (hh.1, upd hh.2 p1.toNatClampNeg r_3) ++ ld_pW (a 18) (a 19) (a 20) cI cZ qq) H := hP
    have hD : va_D A (ld_gW a cI G ++ ld_hW a cI (hh.1, upd hh.2 p1.toNatClampNeg r_3) ++ ld_pW (a 18) (a 19) (a 20) cI cZ qq) := hD
    refine lv_aload_n hx hb d_pass_30 rfl (lv_at hl 1 rfl) ?_
    refine lv_aload_n hx hb d_pass_31 rfl (lv_at hl 2 rfl) ?_
    refine lv_aload_n hx hb d_pass_32 rfl (lv_at hl 2 rfl) ?_
    refine lv_iload_n hx hb d_pass_33 rfl (lv_at hl 4 rfl) ?_
    obtain ⟨r_4, e_4, h⟩ := ld_nm h
    refine ld_rd (W.runV (As := [.int p1]) (rest := [.ref (a 1), .ref (a 15)]) ⟨hx, hb, hml, hown, hg⟩ (lc_firstNext l D cI cZ cJ a G p1 r_4 e_4) ⟨callB_of 1 hg (ld_gd k_204) rfl rfl rfl (hg _ k_24) (hg _ k_261) hd_firstNext ⟨Nat.le_of_ble_eq_true rfl, Nat.le_of_ble_eq_true rfl⟩, hg _ k_202, hg _ k_203⟩ (ld_preRV hP hK hN [0, 1, 2, 3, 4, 5, 6] rfl 0 0 rfl rfl) rfl rfl hl.1 rfl (lv_room (Nat.le_of_ble_eq_true rfl)) d_pass_34 ⟨Nat.zero_le _, Nat.zero_le _⟩) ?_
    refine lv_iload hx hb d_pass_37 (lv_at hl 0 rfl) ?_
    obtain ⟨r_5, e_5, h⟩ := ld_nm h
    refine ld_mv (wr := ([] : List Nat).filterMap (fun i => (ld_gW a cI G ++ ld_hW a cI (hh.1, upd hh.2 p1.toNatClampNeg r_3) ++ ld_pW (a 18) (a 19) (a 20) cI cZ qq)[i]?)) (ws2 := ld_gW a cI G ++ ld_hW a cI r_5.1 ++ ld_pW (a 18) (a 19) (a 20) cI cZ r_5.2) (va_runV (As := [.ref (a 1), .int r_4, .int r_3]) (rest := []) ⟨hx, hb, hml, hown, hg⟩ (lc_handOn l D cI cZ cJ a G (hh.1, upd hh.2 p1.toNatClampNeg r_3) qq r_4 r_3 _ r_5 e_5) ⟨callB_of 3 hg (ld_gd k_264) rfl rfl rfl (hg _ k_28) (hg _ k_262) hd_handOn ⟨Nat.le_of_ble_eq_true rfl, Nat.le_of_ble_eq_true rfl⟩, hg _ k_263, hg _ k_5⟩ (ld_preMV hP hK hN hD [0, 1, 2, 3, 4, 5, 6, 7, 8, 9, 10, 11, 12] (by decide) rfl 4 7 rfl rfl) rfl rfl hl.1 rfl (lv_room (Nat.le_of_ble_eq_true rfl)) d_pass_39 ⟨Nat.zero_le _, Nat.zero_le _⟩) hP hD hS hA [0, 1, 2, 3, 4, 5, 6, 7, 8, 9, 10, 11, 12] [] [0, 1, 2, 3, 4, 5, 6, 7, 8, 9, 10, 11, 12] rfl rfl (by decide) (by decide) (by decide) rfl (fun H locs hP hD hS => ?_)
    refine lv_aload_n hx hb d_pass_42 rfl (lv_at hl 1 rfl) ?_
    refine lv_aload_n hx hb d_pass_43 rfl (lv_at hl 2 rfl) ?_
    refine lv_aload_n hx hb d_pass_44 rfl (lv_at hl 2 rfl) ?_
    refine lv_iload_n hx hb d_pass_45 rfl (lv_at hl 4 rfl) ?_
    obtain ⟨r_6, e_6, h⟩ := ld_nm h
    refine ld_rd (W.runV (As := [.int p1]) (rest := [.ref (a 1), .ref (a 15)]) ⟨hx, hb, hml, hown, hg⟩ (lc_secondNext l D cI cZ cJ a G p1 r_6 e_6) ⟨callB_of 1 hg (ld_gd k_208) rfl rfl rfl (hg _ k_24) (hg _ k_266) hd_secondNext ⟨Nat.le_of_ble_eq_true rfl, Nat.le_of_ble_eq_true rfl⟩, hg _ k_206, hg _ k_207⟩ (ld_preRV hP hK hN [0, 1, 2, 3, 4, 5, 6] rfl 0 0 rfl rfl) rfl rfl hl.1 rfl (lv_room (Nat.le_of_ble_eq_true rfl)) d_pass_46 ⟨Nat.zero_le _, Nat.zero_le _⟩) ?_
    refine lv_iload hx hb d_pass_49 (lv_at hl 0 rfl) ?_
    obtain ⟨r_7, e_7, h⟩ := ld_nm h
    refine ld_mv (wr := ([] : List Nat).filterMap (fun i => (ld_gW a cI G ++ ld_hW a cI r_5.1 ++ ld_pW (a 18) (a 19) (a 20) cI cZ r_5.2)[i]?)) (ws2 := ld_gW a cI G ++ ld_hW a cI r_7.1 ++ ld_pW (a 18) (a 19) (a 20) cI cZ r_7.2) (va_runV (As := [.ref (a 1), .int r_6, .int r_3]) (rest := []) ⟨hx, hb, hml, hown, hg⟩ (lc_handOn l D cI cZ cJ a G r_5.1 r_5.2 r_6 r_3 _ r_7 e_7) ⟨callB_of 3 hg (ld_gd k_264) rfl rfl rfl (hg _ k_28) (hg _ k_262) hd_handOn ⟨Nat.le_of_ble_eq_true rfl, Nat.le_of_ble_eq_true rfl⟩, hg _ k_263, hg _ k_5⟩ (ld_preMV hP hK hN hD [0, 1, 2, 3, 4, 5, 6, 7, 8, 9, 10, 11, 12] (by decide) rfl 4 7 rfl rfl) rfl rfl hl.1 rfl (lv_room (Nat.le_of_ble_eq_true rfl)) d_pass_51 ⟨Nat.zero_le _, Nat.zero_le _⟩) hP hD hS hA [0, 1, 2, 3, 4, 5, 6, 7, 8, 9, 10, 11, 12] [] [0, 1, 2, 3, 4, 5, 6, 7, 8, 9, 10, 11, 12] rfl rfl (by decide) (by decide) (by decide) rfl (fun H locs hP hD hS => ?_)
    subst h
    exact W.vret hx hb hr (fun t ht hW => ⟨⟨(), rfl, trivial, by rw [ht]; exact hP, hD⟩, hS.F ht⟩) hS.2.2 d_pass_54
  · have h := (if_pos c_2).symm.trans h
    subst h
    exact W.vret hx hb hr (fun t ht hW => ⟨⟨(), rfl, trivial, by rw [ht]; exact hP, hD⟩, hS.F ht⟩) hS.2.2 d_pass_7
def ls_follow_1 (G : ld_gT) (p0 : Int32) (v1 : Int32 × ((Nat → Int32) × (Nat → Int32)) × ld_pT) : Option ((Int32 × ((Nat → Int32) × (Nat → Int32)) × ld_pT) ⊕ (Int32 × ((Nat → Int32) × (Nat → Int32)) × ld_pT)) := if 1920 < v1.1 then some (.inr (v1.1, v1.2.1, v1.2.2)) else ld_lt (lf_pEmpty v1.2.2) (fun r_3 => if r_3 = 0 then ld_lt (lf_take v1.2.2) (fun r_5 => ld_lt (lf_pass G v1.2.1 r_5.2 p0 r_5.1) (fun r_6 => some (.inl (v1.1 + 1, r_6.1, r_6.2)))) else some (.inr (v1.1, v1.2.1, v1.2.2)))
def lm_follow (N : Nat) (G : ld_gT) (hh : (Nat → Int32) × (Nat → Int32)) (qq : ld_pT) (p0 : Int32) : Option (((Nat → Int32) × (Nat → Int32)) × ld_pT) := ld_lt (lf_put qq p0) (fun r_1 => Option.bind (ld_it (ls_follow_1 G p0) N (0, (ld_fl 120 0 hh.1, ld_fl 120 0 hh.2), r_1)) (fun Y1 => some (Y1.2.1, Y1.2.2)))
set_option maxHeartbeats 4000000 in
set_option maxRecDepth 100000 in
theorem lc_follow (l : Launch) (D : va_G) (cI cZ cJ : ClassId) (a : Nat → Nat) (G : ld_gT) (hh : (Nat → Int32) × (Nat → Int32)) (qq : ld_pT) (p0 : Int32) (sz : Nat) (N : Nat) (R : ((Nat → Int32) × (Nat → Int32)) × ld_pT) (h : lm_follow N G hh qq p0 = some R) : Met l y_follow (Cond.code y_follow prog_3_method_3_code 4 none :: bgT) ({ frames := 4, cells := 0, slots := 0, locals := 89 }) (ld_PM D cI cZ cJ (ld_gW a cI G ++ ld_hW a cI hh ++ ld_pW (a 18) (a 19) (a 20) cI cZ qq) sz [.ref (a 15), .ref (a 1), .int p0]) (ld_QV D (ld_gW a cI G ++ ld_hW a cI R.1 ++ ld_pW (a 18) (a 19) (a 20) cI cZ R.2) (va_A (ld_gW a cI G ++ ld_hW a cI hh ++ ld_pW (a 18) (a 19) (a 20) cI cZ qq) sz)) 0 0 ((va_A (ld_gW a cI G ++ ld_hW a cI hh ++ ld_pW (a 18) (a 19) (a 20) cI cZ qq) sz)) := by
  refine Met.ofW (cc := prog_3_method_3_code) (maxL := 4) (ret := none) (by decide) rfl ?_
  intro p e s m args below meth c s₁ B hml hv
  obtain ⟨rfl, hsz, hP, hK, hD0, hN⟩ := hv
  have hx := B.exec
  have hb := B.bytes
  have hr := B.returns
  have hg : ∀ w ∈ bgT, w.before _ s = true := fun w h => atoms_spec (ws := (Cond.code y_follow prog_3_method_3_code 4 none :: bgT)) B.pre w (List.mem_cons_of_mem _ h)
  have hown : s.vm.findClass "LoanDesk$Holding" = some m.cls := findClass_of_methodNamed B.named
  have hlocks := B.notSynchronized
  subst hsz
  have hD := hD0.self (sz := s.heap.size)
  generalize hAe : va_A (ld_gW a cI G ++ ld_hW a cI hh ++ ld_pW (a 18) (a 19) (a 20) cI cZ qq) s.heap.size = A at hD ⊢
  have hA : ∀ q : Nat, s.heap.size ≤ q → A q := fun q h => by rw [← hAe]; exact Or.inr h
  have hS : va_S A s.heap s.heap [] := va_S.rf
  have hl := lv_entry ([.ref (a 15), .ref (a 1), .int p0]) (n := 4) (Nat.le_of_ble_eq_true rfl)
  rw [lg_entry_eq]
  generalize (lg_sl ([.ref (a 15), .ref (a 1), .int p0]) ++ List.replicate (4 - (lg_sl ([.ref (a 15), .ref (a 1), .int p0])).length) Slot.unset).toArray = ls at hl ⊢
  have hl : lv_has ls 4 [(0, .ref (a 15)), (1, .ref (a 1)), (2, .int p0)] := hl
  refine lv_aload_n hx hb d_follow_0 rfl (lv_at hl 0 rfl) ?_
  refine va_get (D := D) (ci := 4) (v := .ref (a 16)) (C := "LoanDesk$Holding") (T := T_Holding) (N := 3) hx hb hg u_Holding hown hK hP 7 rfl rfl 0 (by decide) (hg _ k_95) (fun _ h9 => h9) rfl d_follow_1 ?_
  refine lv_iconst (v := 0) hx hb d_follow_4 (by decide) ?_
  refine ld_mv (wr := ([0, 1, 2, 3, 4, 5, 6, 7, 9, 10, 11, 12] : List Nat).filterMap (fun i => (ld_gW a cI G ++ ld_hW a cI hh ++ ld_pW (a 18) (a 19) (a 20) cI cZ qq)[i]?)) (ws2 := ld_gW a cI G ++ ld_hW a cI (ld_fl 120 0 hh.1, hh.2) ++ ld_pW (a 18) (a 19) (a 20) cI cZ qq) (va_runS (As := [.ref (a 16), .int 0]) (rest := []) ⟨hx, hb, hml, hown, hg⟩ (lc_fillI l D cI cZ cJ (a 16) 120 (by decide) hh.1 0 _) ⟨callB_of 2 hg (ld_gd k_180) rfl rfl rfl (hg _ k_31) (hg _ k_247) hd_fillI ⟨Nat.le_of_ble_eq_true rfl, Nat.le_of_ble_eq_true rfl⟩, hg _ k_179⟩ (ld_preM hP hK hN hD [8] (by decide) rfl) rfl rfl hl.1 rfl (lv_room (Nat.le_of_ble_eq_true rfl)) d_follow_5 ⟨Nat.zero_le _, Nat.zero_le _⟩) hP hD hS hA [8] [0, 1, 2, 3, 4, 5, 6, 7, 9, 10, 11, 12] [0, 1, 2, 3, 4, 5, 6, 7, 12, 8, 9, 10, 11] rfl rfl (by decide) (by decide) (by decide) rfl (fun H locs hP hD hS => ?_)
  refine lv_aload_n hx hb d_follow_8 rfl (lv_at hl 0 rfl) ?_
  refine va_get (D := D) (ci := 4) (v := .ref (a 17)) (C := "LoanDesk$Holding") (T := T_Holding) (N := 3) hx hb hg u_Holding hown hK hP 7 rfl rfl 1 (by decide) (hg _ k_96) (fun _ h9 => h9) rfl d_follow_9 ?_
  refine lv_iconst (v := 0) hx hb d_follow_12 (by decide) ?_
  refine ld_mv (wr := ([0, 1, 2, 3, 4, 5, 6, 7, 8, 10, 11, 12] : List Nat).filterMap (fun i => (ld_gW a cI G ++ ld_hW a cI (ld_fl 120 0 hh.1, hh.2) ++ ld_pW (a 18) (a 19) (a 20) cI cZ qq)[i]?)) (ws2 := ld_gW a cI G ++ ld_hW a cI (ld_fl 120 0 hh.1, ld_fl 120 0 hh.2) ++ ld_pW (a 18) (a 19) (a 20) cI cZ qq) (va_runS (As := [.ref (a 17), .int 0]) (rest := []) ⟨hx, hb, hml, hown, hg⟩ (lc_fillI l D cI cZ cJ (a 17) 120 (by decide) hh.2 0 _) ⟨callB_of 2 hg (ld_gd k_180) rfl rfl rfl (hg _ k_31) (hg _ k_247) hd_fillI ⟨Nat.le_of_ble_eq_true rfl, Nat.le_of_ble_eq_true rfl⟩, hg _ k_179⟩ (ld_preM hP hK hN hD [9] (by decide) rfl) rfl rfl hl.1 rfl (lv_room (Nat.le_of_ble_eq_true rfl)) d_follow_13 ⟨Nat.zero_le _, Nat.zero_le _⟩) hP hD hS hA [9] [0, 1, 2, 3, 4, 5, 6, 7, 8, 10, 11, 12] [0, 1, 2, 3, 4, 5, 6, 7, 8, 12, 9, 10, 11] rfl rfl (by decide) (by decide) (by decide) rfl (fun H locs hP hD hS => ?_)
  refine lv_aload_n hx hb d_follow_16 rfl (lv_at hl 0 rfl) ?_
  refine va_get (D := D) (ci := 4) (v := .ref (a 18)) (C := "LoanDesk$Holding") (T := T_Holding) (N := 3) hx hb hg u_Holding hown hK hP 7 rfl rfl 2 (by decide) (hg _ k_97) (fun _ h9 => h9) rfl d_follow_17 ?_
  refine lv_iload_n hx hb d_follow_20 rfl (lv_at hl 2 rfl) ?_
  obtain ⟨r_1, e_1, h⟩ := ld_nm h
  refine ld_mv (wr := ([0, 1, 2, 3, 4, 5, 6, 7, 8, 9] : List Nat).filterMap (fun i => (ld_gW a cI G ++ ld_hW a cI (ld_fl 120 0 hh.1, ld_fl 120 0 hh.2) ++ ld_pW (a 18) (a 19) (a 20) cI cZ qq)[i]?)) (ws2 := ld_gW a cI G ++ ld_hW a cI (ld_fl 120 0 hh.1, ld_fl 120 0 hh.2) ++ ld_pW (a 18) (a 19) (a 20) cI cZ r_1) (va_runV (As := [.int p0]) (rest := []) ⟨hx, hb, hml, hown, hg⟩ (lc_put l D cI cZ cJ (a 18) (a 19) (a 20) qq p0 _ r_1 e_1) ⟨callB_of 1 hg (ld_gd k_192) rfl rfl rfl (hg _ k_26) (hg _ k_248) hd_put ⟨Nat.le_of_ble_eq_true rfl, Nat.le_of_ble_eq_true rfl⟩, hg _ k_190, hg _ k_191⟩ (ld_preMV hP hK hN hD [10, 11, 12] (by decide) rfl 1 0 rfl rfl) rfl rfl hl.1 rfl (lv_room (Nat.le_of_ble_eq_true rfl)) d_follow_21 ⟨Nat.zero_le _, Nat.zero_le _⟩) hP hD hS hA [10, 11, 12] [0, 1, 2, 3, 4, 5, 6, 7, 8, 9] [0, 1, 2, 3, 4, 5, 6, 7, 8, 9, 10, 11, 12] rfl rfl (by decide) (by decide) (by decide) rfl (fun H locs hP hD hS => ?_)
  refine lv_iconst (v := 0) hx hb d_follow_24 (by decide) ?_
  refine lv_istore_n (lv' := [(3, .int 0), (0, .ref (a 15)), (1, .ref (a 1)), (2, .int p0)]) hx hb d_follow_25 rfl hl (by decide) rfl (fun ls hl => ?_)
  obtain ⟨Y1, eY1, h⟩ := ld_ob h
  have kont1 : ∀ (H : Heap) (locs : List Loc) (ls : Array Slot), va_P D vwCl (ld_gW a cI G ++ ld_hW a cI Y1.2.1 ++ ld_pW (a 18) (a 19) (a 20) cI cZ Y1.2.2) H → va_D A (ld_gW a cI G ++ ld_hW a cI Y1.2.1 ++ ld_pW (a 18) (a 19) (a 20) cI cZ Y1.2.2) → va_S A s.heap H locs → lv_has ls 4 [] → W p l e (headSpec (Cond.code y_follow prog_3_method_3_code 4 none :: bgT) ({ frames := 4, cells := 0, slots := 0, locals := 89 })).room s m ([.ref (a 15), .ref (a 1), .int p0] : List Value).toArray below meth c H locs 0 0 (MQ below (ld_QV D (ld_gW a cI G ++ ld_hW a cI R.1 ++ ld_pW (a 18) (a 19) (a 20) cI cZ R.2) A) ([.ref (a 15), .ref (a 1), .int p0] : List Value).toArray s 0 0 (A)) (F0 m 62 ls []) := by
    intro H locs ls hP hD hS hl
    have h := Option.some.inj h
    subst h
    exact W.vret hx hb hr (fun t ht hW => ⟨⟨(), rfl, trivial, by rw [ht]; exact hP, hD⟩, hS.F ht⟩) hS.2.2 d_follow_62
  have key1 : ∀ (n : Nat) (v1 : Int32 × ((Nat → Int32) × (Nat → Int32)) × ld_pT) (H : Heap) (locs : List Loc) (ls : Array Slot), ld_it (ls_follow_1 G p0) n v1 = some Y1 → va_P D vwCl (ld_gW a cI G ++ ld_hW a cI v1.2.1 ++ ld_pW (a 18) (a 19) (a 20) cI cZ v1.2.2) H → va_D A (ld_gW a cI G ++ ld_hW a cI v1.2.1 ++ ld_pW (a 18) (a 19) (a 20) cI cZ v1.2.2) → va_S A s.heap H locs → lv_has ls 4 [(0, .ref (a 15)), (1, .ref (a 1)), (2, .int p0), (3, .int v1.1)] → W p l e (headSpec (Cond.code y_follow prog_3_method_3_code 4 none :: bgT) ({ frames := 4, cells := 0, slots := 0, locals := 89 })).room s m ([.ref (a 15), .ref (a 1), .int p0] : List Value).toArray below meth c H locs 0 0 (MQ below (ld_QV D (ld_gW a cI G ++ ld_hW a cI R.1 ++ ld_pW (a 18) (a 19) (a 20) cI cZ R.2) A) ([.ref (a 15), .ref (a 1), .int p0] : List Value).toArray s 0 0 (A)) (F0 m 26 ls []) := by
    intro n
    induction n with
    | zero => intro v1 H locs ls g1 hP hD hS hl; cases g1
    | succ n ih1 =>
      intro v1 H locs ls g1 hP hD hS hl
      obtain ⟨z1, hy1, g1⟩ := ld_its g1
      refine lv_iload_n hx hb d_follow_26 rfl (lv_at hl 3 rfl) ?_
      refine lv_sipush (v := 1920) hx hb d_follow_27 (by decide) ?_
      refine lv_icmp_gt (tgt := 62) hx hb d_follow_30 (by decide) (fun c_2 => ?_) (fun c_2 => ?_)
      · have hy1 := (if_pos c_2).symm.trans hy1
        obtain rfl := Option.some.inj hy1
        obtain rfl := Option.some.inj g1
        exact kont1 _ _ _ hP hD hS (lv_sub hl [] rfl)
      · have hy1 := (if_neg c_2).symm.trans hy1
        refine lv_aload_n hx hb d_follow_33 rfl (lv_at hl 0 rfl) ?_
        refine va_get (D := D) (ci := 4) (v := .ref (a 18)) (C := "LoanDesk$Holding") (T := T_Holding) (N := 3) hx hb hg u_Holding hown hK hP 7 rfl rfl 2 (by decide) (hg _ k_97) (fun _ h9 => h9) rfl d_follow_34 ?_
        obtain ⟨r_3, e_3, hy1⟩ := ld_nm hy1
        refine ld_rd (W.runV (As := []) (rest := []) ⟨hx, hb, hml, hown, hg⟩ (lc_pEmpty l D cI cZ cJ (a 18) (a 19) (a 20) v1.2.2 r_3 e_3) ⟨callB_of 0 hg (ld_gd k_196) rfl rfl rfl (hg _ k_26) (hg _ k_249) hd_pEmpty ⟨Nat.le_of_ble_eq_true rfl, Nat.le_of_ble_eq_true rfl⟩, hg _ k_194, hg _ k_195⟩ (ld_preRV hP hK hN [10, 11, 12] rfl 1 0 rfl rfl) rfl rfl hl.1 rfl (lv_room (Nat.le_of_ble_eq_true rfl)) d_follow_37 ⟨Nat.zero_le _, Nat.zero_le _⟩) ?_
        refine lv_if_ne (tgt := 62) hx hb d_follow_40 (by decide) (fun c_4 => ?_) (fun c_4 => ?_)
        · have hy1 := (if_neg c_4).symm.trans hy1
          obtain rfl := Option.some.inj hy1
          obtain rfl := Option.some.inj g1
          exact kont1 _ _ _ hP hD hS (lv_sub hl [] rfl)
        · have hy1 := (if_pos c_4).symm.trans hy1
          refine lv_aload_n hx hb d_follow_43 rfl (lv_at hl 0 rfl) ?_
          refine lv_aload_n hx hb d_follow_44 rfl (lv_at hl 1 rfl) ?_
          refine lv_iload_n hx hb d_follow_45 rfl (lv_at hl 2 rfl) ?_
          refine lv_aload_n hx hb d_follow_46 rfl (lv_at hl 0 rfl) ?_
          refine va_get (D := D) (ci := 4) (v := .ref (a 18)) (C := "LoanDesk$Holding") (T := T_Holding) (N := 3) hx hb hg u_Holding hown hK hP 7 rfl rfl 2 (by decide) (hg _ k_97) (fun _ h9 => h9) rfl d_follow_47 ?_
          obtain ⟨r_5, e_5, hy1⟩ := ld_nm hy1
          refine ld_mi (wr := ([0, 1, 2, 3, 4, 5, 6, 7, 8, 9] : List Nat).filterMap (fun i => (ld_gW a cI G ++ ld_hW a cI v1.2.1 ++ ld_pW (a 18) (a 19) (a 20) cI cZ v1.2.2)[i]?)) (ws2 := ld_gW a cI G ++ ld_hW a cI v1.2.1 ++ ld_pW (a 18) (a 19) (a 20) cI cZ r_5.2) (va_runV (As := []) (rest := [.int p0, .ref (a 1), .ref (a 15)]) ⟨hx, hb, hml, hown, hg⟩ (lc_take l D cI cZ cJ (a 18) (a 19) (a 20) v1.2.2 _ r_5 e_5) ⟨callB_of 0 hg (ld_gd k_200) rfl rfl rfl (hg _ k_26) (hg _ k_250) hd_take ⟨Nat.le_of_ble_eq_true rfl, Nat.le_of_ble_eq_true rfl⟩, hg _ k_198, hg _ k_199⟩ (ld_preMV hP hK hN hD [10, 11, 12] (by decide) rfl 1 0 rfl rfl) rfl rfl hl.1 rfl (lv_room (Nat.le_of_ble_eq_true rfl)) d_follow_50 ⟨Nat.zero_le _, Nat.zero_le _⟩) hP hD hS hA [10, 11, 12] [0, 1, 2, 3, 4, 5, 6, 7, 8, 9] [0, 1, 2, 3, 4, 5, 6, 7, 8, 9, 10, 11, 12] rfl rfl (by decide) (by decide) (by decide) rfl (fun H locs hP hD hS => ?_)
          obtain ⟨r_6, e_6, hy1⟩ := ld_nm hy1
          refine ld_mv (wr := ([] : List Nat).filterMap (fun i => (ld_gW a cI G ++ ld_hW a cI v1.2.1 ++ ld_pW (a 18) (a 19) (a 20) cI cZ r_5.2)[i]?)) (ws2 := ld_gW a cI G ++ ld_hW a cI r_6.1 ++ ld_pW (a 18) (a 19) (a 20) cI cZ r_6.2) (va_runV (As := [.ref (a 1), .int p0, .int r_5.1]) (rest := []) ⟨hx, hb, hml, hown, hg⟩ (lc_pass l D cI cZ cJ a G v1.2.1 r_5.2 p0 r_5.1 _ r_6 e_6) ⟨callB_of 3 hg (ld_gd k_253) rfl rfl rfl (hg _ k_28) (hg _ k_251) hd_pass ⟨Nat.le_of_ble_eq_true rfl, Nat.le_of_ble_eq_true rfl⟩, hg _ k_252, hg _ k_4⟩ (ld_preMV hP hK hN hD [0, 1, 2, 3, 4, 5, 6, 7, 8, 9, 10, 11, 12] (by decide) rfl 4 7 rfl rfl) rfl rfl hl.1 rfl (lv_room (Nat.le_of_ble_eq_true rfl)) d_follow_53 ⟨Nat.zero_le _, Nat.zero_le _⟩) hP hD hS hA [0, 1, 2, 3, 4, 5, 6, 7, 8, 9, 10, 11, 12] [] [0, 1, 2, 3, 4, 5, 6, 7, 8, 9, 10, 11, 12] rfl rfl (by decide) (by decide) (by decide) rfl (fun H locs hP hD hS => ?_)
          refine lv_iinc (v := v1.1 + 1) (lv' := [(3, .int (v1.1 + 1)), (0, .ref (a 15)), (1, .ref (a 1)), (2, .int p0)]) hx hb d_follow_56 hl (k := 3) rfl rfl (by decide) rfl (fun ls hl => ?_)
          refine lv_goto (tgt := 26) hx hb d_follow_59 (by decide) ?_
          obtain rfl := Option.some.inj hy1
          exact ih1 (v1.1 + 1, r_6.1, r_6.2) _ _ _ g1 hP hD hS (lv_sub hl [1, 2, 3, 0] rfl)
  exact key1 N (0, (ld_fl 120 0 hh.1, ld_fl 120 0 hh.2), r_1) _ _ _ eY1 hP hD hS (lv_sub hl [1, 2, 3, 0] rfl)
end
section
theorem d_mempty_0 : decode prog_4_method_2_code 0 = .ok (.aload_n 0, 1) := by decide +kernel
theorem d_mempty_1 : decode prog_4_method_2_code 1 = .ok (.getfield 9, 3) := by decide +kernel
theorem d_mempty_4 : decode prog_4_method_2_code 4 = .ok (.lconst 0, 1) := by decide +kernel
theorem d_mempty_5 : decode prog_4_method_2_code 5 = .ok (.invokestatic 15, 3) := by decide +kernel
theorem d_mempty_8 : decode prog_4_method_2_code 8 = .ok (.return_, 1) := by decide +kernel
theorem d_madd_0 : decode prog_4_method_3_code 0 = .ok (.iload_n 1, 1) := by decide +kernel
theorem d_madd_1 : decode prog_4_method_3_code 1 = .ok (.invokestatic 21, 3) := by decide +kernel
theorem d_madd_4 : decode prog_4_method_3_code 4 = .ok (.ifCond .eq 32, 3) := by decide +kernel
theorem d_madd_7 : decode prog_4_method_3_code 7 = .ok (.iload_n 2, 1) := by decide +kernel
theorem d_madd_8 : decode prog_4_method_3_code 8 = .ok (.invokestatic 21, 3) := by decide +kernel
theorem d_madd_11 : decode prog_4_method_3_code 11 = .ok (.ifCond .eq 25, 3) := by decide +kernel
theorem d_madd_14 : decode prog_4_method_3_code 14 = .ok (.aload_n 0, 1) := by decide +kernel
theorem d_madd_15 : decode prog_4_method_3_code 15 = .ok (.getfield 9, 3) := by decide +kernel
theorem d_madd_18 : decode prog_4_method_3_code 18 = .ok (.iconst 2, 1) := by decide +kernel
theorem d_madd_19 : decode prog_4_method_3_code 19 = .ok (.iload_n 1, 1) := by decide +kernel
theorem d_madd_20 : decode prog_4_method_3_code 20 = .ok (.imul, 1) := by decide +kernel
theorem d_madd_21 : decode prog_4_method_3_code 21 = .ok (.iload_n 2, 1) := by decide +kernel
theorem d_madd_22 : decode prog_4_method_3_code 22 = .ok (.bipush 64, 2) := by decide +kernel
theorem d_madd_24 : decode prog_4_method_3_code 24 = .ok (.idiv, 1) := by decide +kernel
theorem d_madd_25 : decode prog_4_method_3_code 25 = .ok (.iadd, 1) := by decide +kernel
theorem d_madd_26 : decode prog_4_method_3_code 26 = .ok (.dup2, 1) := by decide +kernel
theorem d_madd_27 : decode prog_4_method_3_code 27 = .ok (.laload, 1) := by decide +kernel
theorem d_madd_28 : decode prog_4_method_3_code 28 = .ok (.lconst 1, 1) := by decide +kernel
theorem d_madd_29 : decode prog_4_method_3_code 29 = .ok (.iload_n 2, 1) := by decide +kernel
theorem d_madd_30 : decode prog_4_method_3_code 30 = .ok (.bipush 64, 2) := by decide +kernel
theorem d_madd_32 : decode prog_4_method_3_code 32 = .ok (.irem, 1) := by decide +kernel
theorem d_madd_33 : decode prog_4_method_3_code 33 = .ok (.lshl, 1) := by decide +kernel
theorem d_madd_34 : decode prog_4_method_3_code 34 = .ok (.lor, 1) := by decide +kernel
theorem d_madd_35 : decode prog_4_method_3_code 35 = .ok (.lastore, 1) := by decide +kernel
theorem d_madd_36 : decode prog_4_method_3_code 36 = .ok (.return_, 1) := by decide +kernel
theorem d_isAnyAt_0 : decode prog_4_method_7_code 0 = .ok (.iload_n 1, 1) := by decide +kernel
theorem d_isAnyAt_1 : decode prog_4_method_7_code 1 = .ok (.invokestatic 21, 3) := by decide +kernel
theorem d_isAnyAt_4 : decode prog_4_method_7_code 4 = .ok (.ifCond .eq 31, 3) := by decide +kernel
theorem d_isAnyAt_7 : decode prog_4_method_7_code 7 = .ok (.aload_n 0, 1) := by decide +kernel
theorem d_isAnyAt_8 : decode prog_4_method_7_code 8 = .ok (.getfield 9, 3) := by decide +kernel
theorem d_isAnyAt_11 : decode prog_4_method_7_code 11 = .ok (.iconst 2, 1) := by decide +kernel
theorem d_isAnyAt_12 : decode prog_4_method_7_code 12 = .ok (.iload_n 1, 1) := by decide +kernel
theorem d_isAnyAt_13 : decode prog_4_method_7_code 13 = .ok (.imul, 1) := by decide +kernel
theorem d_isAnyAt_14 : decode prog_4_method_7_code 14 = .ok (.laload, 1) := by decide +kernel
theorem d_isAnyAt_15 : decode prog_4_method_7_code 15 = .ok (.aload_n 0, 1) := by decide +kernel
theorem d_isAnyAt_16 : decode prog_4_method_7_code 16 = .ok (.getfield 9, 3) := by decide +kernel
theorem d_isAnyAt_19 : decode prog_4_method_7_code 19 = .ok (.iconst 2, 1) := by decide +kernel
theorem d_isAnyAt_20 : decode prog_4_method_7_code 20 = .ok (.iload_n 1, 1) := by decide +kernel
theorem d_isAnyAt_21 : decode prog_4_method_7_code 21 = .ok (.imul, 1) := by decide +kernel
theorem d_isAnyAt_22 : decode prog_4_method_7_code 22 = .ok (.iconst 1, 1) := by decide +kernel
theorem d_isAnyAt_23 : decode prog_4_method_7_code 23 = .ok (.iadd, 1) := by decide +kernel
theorem d_isAnyAt_24 : decode prog_4_method_7_code 24 = .ok (.laload, 1) := by decide +kernel
theorem d_isAnyAt_25 : decode prog_4_method_7_code 25 = .ok (.lor, 1) := by decide +kernel
theorem d_isAnyAt_26 : decode prog_4_method_7_code 26 = .ok (.lconst 0, 1) := by decide +kernel
theorem d_isAnyAt_27 : decode prog_4_method_7_code 27 = .ok (.lcmp, 1) := by decide +kernel
theorem d_isAnyAt_28 : decode prog_4_method_7_code 28 = .ok (.ifCond .eq 7, 3) := by decide +kernel
theorem d_isAnyAt_31 : decode prog_4_method_7_code 31 = .ok (.iconst 1, 1) := by decide +kernel
theorem d_isAnyAt_32 : decode prog_4_method_7_code 32 = .ok (.goto 4, 3) := by decide +kernel
theorem d_isAnyAt_35 : decode prog_4_method_7_code 35 = .ok (.iconst 0, 1) := by decide +kernel
theorem d_isAnyAt_36 : decode prog_4_method_7_code 36 = .ok (.ireturn, 1) := by decide +kernel
theorem d_isAt_0 : decode prog_4_method_8_code 0 = .ok (.iload_n 1, 1) := by decide +kernel
theorem d_isAt_1 : decode prog_4_method_8_code 1 = .ok (.invokestatic 21, 3) := by decide +kernel
theorem d_isAt_4 : decode prog_4_method_8_code 4 = .ok (.ifCond .eq 39, 3) := by decide +kernel
theorem d_isAt_7 : decode prog_4_method_8_code 7 = .ok (.iload_n 2, 1) := by decide +kernel
theorem d_isAt_8 : decode prog_4_method_8_code 8 = .ok (.invokestatic 21, 3) := by decide +kernel
theorem d_isAt_11 : decode prog_4_method_8_code 11 = .ok (.ifCond .eq 32, 3) := by decide +kernel
theorem d_isAt_14 : decode prog_4_method_8_code 14 = .ok (.aload_n 0, 1) := by decide +kernel
theorem d_isAt_15 : decode prog_4_method_8_code 15 = .ok (.getfield 9, 3) := by decide +kernel
theorem d_isAt_18 : decode prog_4_method_8_code 18 = .ok (.iconst 2, 1) := by decide +kernel
theorem d_isAt_19 : decode prog_4_method_8_code 19 = .ok (.iload_n 1, 1) := by decide +kernel
theorem d_isAt_20 : decode prog_4_method_8_code 20 = .ok (.imul, 1) := by decide +kernel
theorem d_isAt_21 : decode prog_4_method_8_code 21 = .ok (.iload_n 2, 1) := by decide +kernel
theorem d_isAt_22 : decode prog_4_method_8_code 22 = .ok (.bipush 64, 2) := by decide +kernel
theorem d_isAt_24 : decode prog_4_method_8_code 24 = .ok (.idiv, 1) := by decide +kernel
theorem d_isAt_25 : decode prog_4_method_8_code 25 = .ok (.iadd, 1) := by decide +kernel
theorem d_isAt_26 : decode prog_4_method_8_code 26 = .ok (.laload, 1) := by decide +kernel
theorem d_isAt_27 : decode prog_4_method_8_code 27 = .ok (.iload_n 2, 1) := by decide +kernel
theorem d_isAt_28 : decode prog_4_method_8_code 28 = .ok (.bipush 64, 2) := by decide +kernel
theorem d_isAt_30 : decode prog_4_method_8_code 30 = .ok (.irem, 1) := by decide +kernel
theorem d_isAt_31 : decode prog_4_method_8_code 31 = .ok (.lushr, 1) := by decide +kernel
theorem d_isAt_32 : decode prog_4_method_8_code 32 = .ok (.lconst 1, 1) := by decide +kernel
theorem d_isAt_33 : decode prog_4_method_8_code 33 = .ok (.land, 1) := by decide +kernel
theorem d_isAt_34 : decode prog_4_method_8_code 34 = .ok (.lconst 1, 1) := by decide +kernel
theorem d_isAt_35 : decode prog_4_method_8_code 35 = .ok (.lcmp, 1) := by decide +kernel
theorem d_isAt_36 : decode prog_4_method_8_code 36 = .ok (.ifCond .ne 7, 3) := by decide +kernel
theorem d_isAt_39 : decode prog_4_method_8_code 39 = .ok (.iconst 1, 1) := by decide +kernel
theorem d_isAt_40 : decode prog_4_method_8_code 40 = .ok (.goto 4, 3) := by decide +kernel
theorem d_isAt_43 : decode prog_4_method_8_code 43 = .ok (.iconst 0, 1) := by decide +kernel
theorem d_isAt_44 : decode prog_4_method_8_code 44 = .ok (.ireturn, 1) := by decide +kernel
theorem d_mcount_0 : decode prog_4_method_4_code 0 = .ok (.iconst 0, 1) := by decide +kernel
theorem d_mcount_1 : decode prog_4_method_4_code 1 = .ok (.istore_n 1, 1) := by decide +kernel
theorem d_mcount_2 : decode prog_4_method_4_code 2 = .ok (.iconst 0, 1) := by decide +kernel
theorem d_mcount_3 : decode prog_4_method_4_code 3 = .ok (.istore_n 2, 1) := by decide +kernel
theorem d_mcount_4 : decode prog_4_method_4_code 4 = .ok (.iload_n 2, 1) := by decide +kernel
theorem d_mcount_5 : decode prog_4_method_4_code 5 = .ok (.bipush 120, 2) := by decide +kernel
theorem d_mcount_7 : decode prog_4_method_4_code 7 = .ok (.if_icmp .ge 20, 3) := by decide +kernel
theorem d_mcount_10 : decode prog_4_method_4_code 10 = .ok (.aload_n 0, 1) := by decide +kernel
theorem d_mcount_11 : decode prog_4_method_4_code 11 = .ok (.iload_n 2, 1) := by decide +kernel
theorem d_mcount_12 : decode prog_4_method_4_code 12 = .ok (.invokevirtual 25, 3) := by decide +kernel
theorem d_mcount_15 : decode prog_4_method_4_code 15 = .ok (.ifCond .eq 6, 3) := by decide +kernel
theorem d_mcount_18 : decode prog_4_method_4_code 18 = .ok (.iinc 1 1, 3) := by decide +kernel
theorem d_mcount_21 : decode prog_4_method_4_code 21 = .ok (.iinc 2 1, 3) := by decide +kernel
theorem d_mcount_24 : decode prog_4_method_4_code 24 = .ok (.goto (-20), 3) := by decide +kernel
theorem d_mcount_27 : decode prog_4_method_4_code 27 = .ok (.iload_n 1, 1) := by decide +kernel
theorem d_mcount_28 : decode prog_4_method_4_code 28 = .ok (.ireturn, 1) := by decide +kernel
theorem d_mfirst_0 : decode prog_4_method_5_code 0 = .ok (.iconst 0, 1) := by decide +kernel
theorem d_mfirst_1 : decode prog_4_method_5_code 1 = .ok (.istore_n 1, 1) := by decide +kernel
theorem d_mfirst_2 : decode prog_4_method_5_code 2 = .ok (.iload_n 1, 1) := by decide +kernel
theorem d_mfirst_3 : decode prog_4_method_5_code 3 = .ok (.bipush 120, 2) := by decide +kernel
theorem d_mfirst_5 : decode prog_4_method_5_code 5 = .ok (.if_icmp .ge 19, 3) := by decide +kernel
theorem d_mfirst_8 : decode prog_4_method_5_code 8 = .ok (.aload_n 0, 1) := by decide +kernel
theorem d_mfirst_9 : decode prog_4_method_5_code 9 = .ok (.iload_n 1, 1) := by decide +kernel
theorem d_mfirst_10 : decode prog_4_method_5_code 10 = .ok (.invokevirtual 25, 3) := by decide +kernel
theorem d_mfirst_13 : decode prog_4_method_5_code 13 = .ok (.ifCond .eq 5, 3) := by decide +kernel
theorem d_mfirst_16 : decode prog_4_method_5_code 16 = .ok (.iload_n 1, 1) := by decide +kernel
theorem d_mfirst_17 : decode prog_4_method_5_code 17 = .ok (.ireturn, 1) := by decide +kernel
theorem d_mfirst_18 : decode prog_4_method_5_code 18 = .ok (.iinc 1 1, 3) := by decide +kernel
theorem d_mfirst_21 : decode prog_4_method_5_code 21 = .ok (.goto (-19), 3) := by decide +kernel
theorem d_mfirst_24 : decode prog_4_method_5_code 24 = .ok (.iconst (-1), 1) := by decide +kernel
theorem d_mfirst_25 : decode prog_4_method_5_code 25 = .ok (.ireturn, 1) := by decide +kernel
theorem d_least_0 : decode prog_4_method_6_code 0 = .ok (.iconst 0, 1) := by decide +kernel
theorem d_least_1 : decode prog_4_method_6_code 1 = .ok (.istore_n 3, 1) := by decide +kernel
theorem d_least_2 : decode prog_4_method_6_code 2 = .ok (.iload_n 3, 1) := by decide +kernel
theorem d_least_3 : decode prog_4_method_6_code 3 = .ok (.bipush 120, 2) := by decide +kernel
theorem d_least_5 : decode prog_4_method_6_code 5 = .ok (.if_icmp .ge 25, 3) := by decide +kernel
theorem d_least_8 : decode prog_4_method_6_code 8 = .ok (.iload_n 3, 1) := by decide +kernel
theorem d_least_9 : decode prog_4_method_6_code 9 = .ok (.iload_n 2, 1) := by decide +kernel
theorem d_least_10 : decode prog_4_method_6_code 10 = .ok (.if_icmp .le 14, 3) := by decide +kernel
theorem d_least_13 : decode prog_4_method_6_code 13 = .ok (.aload_n 0, 1) := by decide +kernel
theorem d_least_14 : decode prog_4_method_6_code 14 = .ok (.iload_n 1, 1) := by decide +kernel
theorem d_least_15 : decode prog_4_method_6_code 15 = .ok (.iload_n 3, 1) := by decide +kernel
theorem d_least_16 : decode prog_4_method_6_code 16 = .ok (.invokevirtual 28, 3) := by decide +kernel
theorem d_least_19 : decode prog_4_method_6_code 19 = .ok (.ifCond .eq 5, 3) := by decide +kernel
theorem d_least_22 : decode prog_4_method_6_code 22 = .ok (.iload_n 3, 1) := by decide +kernel
theorem d_least_23 : decode prog_4_method_6_code 23 = .ok (.ireturn, 1) := by decide +kernel
theorem d_least_24 : decode prog_4_method_6_code 24 = .ok (.iinc 3 1, 3) := by decide +kernel
theorem d_least_27 : decode prog_4_method_6_code 27 = .ok (.goto (-25), 3) := by decide +kernel
theorem d_least_30 : decode prog_4_method_6_code 30 = .ok (.iconst (-1), 1) := by decide +kernel
theorem d_least_31 : decode prog_4_method_6_code 31 = .ok (.ireturn, 1) := by decide +kernel
end
section
theorem ld_w2 {x r : Int32} (h : lf_isIndex x = r) (c : ¬ r = 0) : vp_in (2 * x) 240 := by
  obtain ⟨j, hj, rfl⟩ := vp_in_of (ld_ix h c) (by omega)
  have e : (2 : Int32) * nI j = nI (2 * j) := pk_mul 2 j
  rw [e]
  exact vp_in_nI (by omega) (by omega)
theorem ld_w3 {x r : Int32} (h : lf_isIndex x = r) (c : ¬ r = 0) : vp_in (2 * x + 1) 240 := by
  obtain ⟨j, hj, rfl⟩ := vp_in_of (ld_ix h c) (by omega)
  have e : (2 : Int32) * nI j + 1 = nI (2 * j + 1) := by rw [show (2 : Int32) * nI j = nI (2 * j) from pk_mul 2 j, nI_1]
  rw [e]
  exact vp_in_nI (by omega) (by omega)
theorem ld_w1e {j i : Nat} (hi : i < 120) : (2 : Int32) * nI j + nI i / 64 = nI (2 * j + i / 64) := by
  rw [show (2 : Int32) * nI j = nI (2 * j) from pk_mul 2 j, show nI i / (64 : Int32) = nI (i / 64) from pk_div (d := 64) (by omega) (by omega) (by omega), nI_add]
theorem ld_w1 {x y r r' : Int32} (h : lf_isIndex x = r) (c : ¬ r = 0) (h' : lf_isIndex y = r') (c' : ¬ r' = 0) : vp_in (2 * x + y / 64) 240 := by
  obtain ⟨j, hj, rfl⟩ := vp_in_of (ld_ix h c) (by omega)
  obtain ⟨i, hi, rfl⟩ := vp_in_of (ld_ix h' c') (by omega)
  rw [ld_w1e hi]
  exact vp_in_nI (by omega) (by omega)
def lf_mempty (mw : Nat → Int64) : (Nat → Int64) := (ld_flL 240 0 mw)
set_option maxHeartbeats 4000000 in
set_option maxRecDepth 100000 in
theorem lc_mempty (l : Launch) (D : va_G) (cI cZ cJ : ClassId) (a : Nat → Nat) (mw : Nat → Int64) (sz : Nat) (R : (Nat → Int64)) (h : lf_mempty mw = R) : Met l y_mempty (Cond.code y_mempty prog_4_method_2_code 1 none :: bgT) ({ frames := 1, cells := 0, slots := 0, locals := 24 }) (ld_PM D cI cZ cJ (ld_mW a cJ mw) sz [.ref (a 21)]) (ld_QV D (ld_mW a cJ R) (va_A (ld_mW a cJ mw) sz)) 0 0 ((va_A (ld_mW a cJ mw) sz)) := by
  refine Met.ofW (cc := prog_4_method_2_code) (maxL := 1) (ret := none) (by decide) rfl ?_
  intro p e s m args below meth c s₁ B hml hv
  obtain ⟨rfl, hsz, hP, hK, hD0, hN⟩ := hv
  have hx := B.exec
  have hb := B.bytes
  have hr := B.returns
  have hg : ∀ w ∈ bgT, w.before _ s = true := fun w h => atoms_spec (ws := (Cond.code y_mempty prog_4_method_2_code 1 none :: bgT)) B.pre w (List.mem_cons_of_mem _ h)
  have hown : s.vm.findClass "LoanDesk$Meetings" = some m.cls := findClass_of_methodNamed B.named
  have hlocks := B.notSynchronized
  subst hsz
  have hD := hD0.self (sz := s.heap.size)
  generalize hAe : va_A (ld_mW a cJ mw) s.heap.size = A at hD ⊢
  have hA : ∀ q : Nat, s.heap.size ≤ q → A q := fun q h => by rw [← hAe]; exact Or.inr h
  have hS : va_S A s.heap s.heap [] := va_S.rf
  have hl := lv_entry ([.ref (a 21)]) (n := 1) (Nat.le_of_ble_eq_true rfl)
  rw [lg_entry_eq]
  generalize (lg_sl ([.ref (a 21)]) ++ List.replicate (1 - (lg_sl ([.ref (a 21)])).length) Slot.unset).toArray = ls at hl ⊢
  have hl : lv_has ls 1 [(0, .ref (a 21))] := hl
  refine lv_aload_n hx hb d_mempty_0 rfl (lv_at hl 0 rfl) ?_
  refine va_get (D := D) (ci := 5) (v := .ref (a 22)) (C := "LoanDesk$Meetings") (T := T_Meetings) (N := 1) hx hb hg u_Meetings hown hK hP 0 rfl rfl 0 (by decide) (hg _ k_106) (fun _ h9 => h9) rfl d_mempty_1 ?_
  refine lv_lconst (v := 0) hx hb d_mempty_4 (by decide) ?_
  refine ld_mv (wr := ([0] : List Nat).filterMap (fun i => (ld_mW a cJ mw)[i]?)) (ws2 := ld_mW a cJ (ld_flL 240 0 mw)) (va_runS (As := [.ref (a 22), .long 0]) (rest := []) ⟨hx, hb, hml, hown, hg⟩ (lc_fillJ l D cI cZ cJ (a 22) 240 (by decide) mw 0 _) ⟨callB_of 2 hg (ld_gd k_295) rfl rfl rfl (hg _ k_31) (hg _ k_293) hd_fillJ ⟨Nat.le_of_ble_eq_true rfl, Nat.le_of_ble_eq_true rfl⟩, hg _ k_294⟩ (ld_preM hP hK hN hD [1] (by decide) rfl) rfl rfl hl.1 rfl (lv_room (Nat.le_of_ble_eq_true rfl)) d_mempty_5 ⟨Nat.zero_le _, Nat.zero_le _⟩) hP hD hS hA [1] [0] [0, 1] rfl rfl (by decide) (by decide) (by decide) rfl (fun H locs hP hD hS => ?_)
  subst h
  exact W.vret hx hb hr (fun t ht hW => ⟨⟨(), rfl, trivial, by rw [ht]; exact hP, hD⟩, hS.F ht⟩) hS.2.2 d_mempty_8
def lf_madd (mw : Nat → Int64) (p0 : Int32) (p1 : Int32) : (Nat → Int64) := ld_lt (lf_isIndex p0) (fun r_1 => if r_1 = 0 then mw else ld_lt (lf_isIndex p1) (fun r_3 => if r_3 = 0 then mw else (vp_updL mw (((2 * p0) + (p1 / 64)).toNatClampNeg) ((mw ((2 * p0) + (p1 / 64)).toNatClampNeg) ||| ((1 : Int64) <<< ((p1 - p1 / 64 * 64).toInt64 &&& 63))))))
set_option maxHeartbeats 4000000 in
set_option maxRecDepth 100000 in
theorem lc_madd (l : Launch) (D : va_G) (cI cZ cJ : ClassId) (a : Nat → Nat) (mw : Nat → Int64) (p0 : Int32) (p1 : Int32) (sz : Nat) (R : (Nat → Int64)) (h : lf_madd mw p0 p1 = R) : Met l y_madd (Cond.code y_madd prog_4_method_3_code 3 none :: bgT) ({ frames := 1, cells := 0, slots := 0, locals := 20 }) (ld_PM D cI cZ cJ (ld_mW a cJ mw) sz [.ref (a 21), .int p0, .int p1]) (ld_QV D (ld_mW a cJ R) (va_A (ld_mW a cJ mw) sz)) 0 0 ((va_A (ld_mW a cJ mw) sz)) := by
  refine Met.ofW (cc := prog_4_method_3_code) (maxL := 3) (ret := none) (by decide) rfl ?_
  intro p e s m args below meth c s₁ B hml hv
  obtain ⟨rfl, hsz, hP, hK, hD0, hN⟩ := hv
  have hx := B.exec
  have hb := B.bytes
  have hr := B.returns
  have hg : ∀ w ∈ bgT, w.before _ s = true := fun w h => atoms_spec (ws := (Cond.code y_madd prog_4_method_3_code 3 none :: bgT)) B.pre w (List.mem_cons_of_mem _ h)
  have hown : s.vm.findClass "LoanDesk$Meetings" = some m.cls := findClass_of_methodNamed B.named
  have hlocks := B.notSynchronized
  subst hsz
  have hD := hD0.self (sz := s.heap.size)
  generalize hAe : va_A (ld_mW a cJ mw) s.heap.size = A at hD ⊢
  have hA : ∀ q : Nat, s.heap.size ≤ q → A q := fun q h => by rw [← hAe]; exact Or.inr h
  have hS : va_S A s.heap s.heap [] := va_S.rf
  have hl := lv_entry ([.ref (a 21), .int p0, .int p1]) (n := 3) (Nat.le_of_ble_eq_true rfl)
  rw [lg_entry_eq]
  generalize (lg_sl ([.ref (a 21), .int p0, .int p1]) ++ List.replicate (3 - (lg_sl ([.ref (a 21), .int p0, .int p1])).length) Slot.unset).toArray = ls at hl ⊢
  have hl : lv_has ls 3 [(0, .ref (a 21)), (1, .int p0), (2, .int p1)] := hl
  refine lv_iload_n hx hb d_madd_0 rfl (lv_at hl 1 rfl) ?_
  obtain ⟨r_1, e_1, h⟩ := ld_nm h
  refine ld_rd ((va_runSN (As := [.int p0]) (rest := []) ⟨hx, hb, hml, hown, hg⟩ (lc_isIndex l D cI cZ cJ p0 r_1 e_1) ⟨va_cnB 1 hg (ld_gd k_161) rfl rfl rfl (hN _ (ld_nwm 11 rfl)) (hg _ k_23) hd_isIndex ⟨Nat.le_of_ble_eq_true rfl, Nat.le_of_ble_eq_true rfl⟩, hg _ k_160, trivial⟩ (ld_preR hP hK hN [] rfl) rfl rfl hl.1 rfl (lv_room (Nat.le_of_ble_eq_true rfl)) d_madd_1 ⟨Nat.zero_le _, Nat.zero_le _⟩).run) ?_
  refine lv_if_eq (tgt := 36) hx hb d_madd_4 (by decide) (fun c_2 => ?_) (fun c_2 => ?_)
  · have h := (if_pos c_2).symm.trans h
    subst h
    exact W.vret hx hb hr (fun t ht hW => ⟨⟨(), rfl, trivial, by rw [ht]; exact hP, hD⟩, hS.F ht⟩) hS.2.2 d_madd_36
  · have h := (if_neg c_2).symm.trans h
    refine lv_iload_n hx hb d_madd_7 rfl (lv_at hl 2 rfl) ?_
    obtain ⟨r_3, e_3, h⟩ := ld_nm h
    refine ld_rd ((va_runSN (As := [.int p1]) (rest := []) ⟨hx, hb, hml, hown, hg⟩ (lc_isIndex l D cI cZ cJ p1 r_3 e_3) ⟨va_cnB 1 hg (ld_gd k_161) rfl rfl rfl (hN _ (ld_nwm 11 rfl)) (hg _ k_23) hd_isIndex ⟨Nat.le_of_ble_eq_true rfl, Nat.le_of_ble_eq_true rfl⟩, hg _ k_160, trivial⟩ (ld_preR hP hK hN [] rfl) rfl rfl hl.1 rfl (lv_room (Nat.le_of_ble_eq_true rfl)) d_madd_8 ⟨Nat.zero_le _, Nat.zero_le _⟩).run) ?_
    refine lv_if_eq (tgt := 36) hx hb d_madd_11 (by decide) (fun c_4 => ?_) (fun c_4 => ?_)
    · have h := (if_pos c_4).symm.trans h
      subst h
      exact W.vret hx hb hr (fun t ht hW => ⟨⟨(), rfl, trivial, by rw [ht]; exact hP, hD⟩, hS.F ht⟩) hS.2.2 d_madd_36
    · have h := (if_neg c_4).symm.trans h
      refine lv_aload_n hx hb d_madd_14 rfl (lv_at hl 0 rfl) ?_
      refine va_get (D := D) (ci := 5) (v := .ref (a 22)) (C := "LoanDesk$Meetings") (T := T_Meetings) (N := 1) hx hb hg u_Meetings hown hK hP 0 rfl rfl 0 (by decide) (hg _ k_106) (fun _ h9 => h9) rfl d_madd_15 ?_
      refine lv_iconst (v := 2) hx hb d_madd_18 (by decide) ?_
      refine lv_iload_n hx hb d_madd_19 rfl (lv_at hl 1 rfl) ?_
      refine lv_imul hx hb d_madd_20 ?_
      refine lv_iload_n hx hb d_madd_21 rfl (lv_at hl 2 rfl) ?_
      refine lv_bipush (v := 64) hx hb d_madd_22 (by decide) ?_
      refine lv_idiv hx hb d_madd_24 (by decide) ?_
      refine lv_iadd hx hb d_madd_25 ?_
      refine lv_dup2_11 hx hb d_madd_26 rfl rfl ?_
      refine va_lald hx hb hK hP 1 2 rfl rfl (i := (2 * p0) + (p1 / 64)) (ld_w1 e_1 c_2 e_3 c_4) d_madd_27 ?_
      refine lv_lconst (v := 1) hx hb d_madd_28 (by decide) ?_
      refine lv_iload_n hx hb d_madd_29 rfl (lv_at hl 2 rfl) ?_
      refine lv_bipush (v := 64) hx hb d_madd_30 (by decide) ?_
      refine lv_irem hx hb d_madd_32 (by decide) ?_
      refine lv_lshl (v := (1 : Int64) <<< ((p1 - p1 / 64 * 64).toInt64 &&& 63)) hx hb d_madd_33 rfl ?_
      refine lv_lor hx hb d_madd_34 ?_
      refine va_last hx hb hK hP hD hS 1 2 rfl rfl (i := (2 * p0) + (p1 / 64)) (ld_w1 e_1 c_2 e_3 c_4) d_madd_35 (fun H locs hP hD hS => ?_)
      have hP : va_P D vwCl (ld_mW a cJ (vp_updL mw (((2 * p0) + (p1 / 64)).toNatClampNeg) ((mw ((2 * p0) + (p1 / 64)).toNatClampNeg) ||| ((1 : Int64) <<< ((p1 - p1 / 64 * 64).toInt64 &&& 63))))) H := hP
      have hD : va_D A (ld_mW a cJ (vp_updL mw (((2 * p0) + (p1 / 64)).toNatClampNeg) ((mw ((2 * p0) + (p1 / 64)).toNatClampNeg) ||| ((1 : Int64) <<< ((p1 - p1 / 64 * 64).toInt64 &&& 63))))) := hD
      subst h
      exact W.vret hx hb hr (fun t ht hW => ⟨⟨(), rfl, trivial, by rw [ht]; exact hP, hD⟩, hS.F ht⟩) hS.2.2 d_madd_36
def lf_isAnyAt (mw : Nat → Int64) (p0 : Int32) : Int32 := ld_lt (lf_isIndex p0) (fun r_1 => if r_1 = 0 then 0 else if (lg_cmp ((mw (2 * p0).toNatClampNeg) ||| (mw ((2 * p0) + 1).toNatClampNeg)) 0) = 0 then 0 else 1)
set_option maxHeartbeats 4000000 in
set_option maxRecDepth 100000 in
theorem lc_isAnyAt (l : Launch) (D : va_G) (cI cZ cJ : ClassId) (a : Nat → Nat) (mw : Nat → Int64) (p0 : Int32) (R : Int32) (h : lf_isAnyAt mw p0 = R) : Met l y_isAnyAt (Cond.code y_isAnyAt prog_4_method_7_code 2 (some .boolean) :: bgT) ({ frames := 1, cells := 0, slots := 0, locals := 20 }) (ld_PR D cI cZ cJ (ld_mW a cJ mw) [.ref (a 21), .int p0]) (vp_Si (fun z => z = R)) 0 0 (fun _ => False) := by
  refine Met.ofW (cc := prog_4_method_7_code) (maxL := 2) (ret := (some .boolean)) (by decide) rfl ?_
  intro p e s m args below meth c s₁ B hml hv
  obtain ⟨rfl, hP, hK, hN⟩ := hv
  have hx := B.exec
  have hb := B.bytes
  have hr := B.returns
  have hg : ∀ w ∈ bgT, w.before _ s = true := fun w h => atoms_spec (ws := (Cond.code y_isAnyAt prog_4_method_7_code 2 (some .boolean) :: bgT)) B.pre w (List.mem_cons_of_mem _ h)
  have hown : s.vm.findClass "LoanDesk$Meetings" = some m.cls := findClass_of_methodNamed B.named
  have hlocks := B.notSynchronized
  have hl := lv_entry ([.ref (a 21), .int p0]) (n := 2) (Nat.le_of_ble_eq_true rfl)
  rw [lg_entry_eq]
  generalize (lg_sl ([.ref (a 21), .int p0]) ++ List.replicate (2 - (lg_sl ([.ref (a 21), .int p0])).length) Slot.unset).toArray = ls at hl ⊢
  have hl : lv_has ls 2 [(0, .ref (a 21)), (1, .int p0)] := hl
  refine lv_iload_n hx hb d_isAnyAt_0 rfl (lv_at hl 1 rfl) ?_
  obtain ⟨r_1, e_1, h⟩ := ld_nm h
  refine ld_rd ((va_runSN (As := [.int p0]) (rest := []) ⟨hx, hb, hml, hown, hg⟩ (lc_isIndex l D cI cZ cJ p0 r_1 e_1) ⟨va_cnB 1 hg (ld_gd k_161) rfl rfl rfl (hN _ (ld_nwm 11 rfl)) (hg _ k_23) hd_isIndex ⟨Nat.le_of_ble_eq_true rfl, Nat.le_of_ble_eq_true rfl⟩, hg _ k_160, trivial⟩ (ld_preR hP hK hN [] rfl) rfl rfl hl.1 rfl (lv_room (Nat.le_of_ble_eq_true rfl)) d_isAnyAt_1 ⟨Nat.zero_le _, Nat.zero_le _⟩).run) ?_
  refine lv_if_eq (tgt := 35) hx hb d_isAnyAt_4 (by decide) (fun c_2 => ?_) (fun c_2 => ?_)
  · have h := (if_pos c_2).symm.trans h
    refine lv_iconst (v := 0) hx hb d_isAnyAt_35 (by decide) ?_
    exact W.zret (v := 0) hx hb hr rfl (fun t ht hW => ⟨_, rfl, h, ht⟩) (fun _ q => by cases q) d_isAnyAt_36
  · have h := (if_neg c_2).symm.trans h
    refine lv_aload_n hx hb d_isAnyAt_7 rfl (lv_at hl 0 rfl) ?_
    refine va_get (D := D) (ci := 5) (v := .ref (a 22)) (C := "LoanDesk$Meetings") (T := T_Meetings) (N := 1) hx hb hg u_Meetings hown hK hP 0 rfl rfl 0 (by decide) (hg _ k_106) (fun _ h9 => h9) rfl d_isAnyAt_8 ?_
    refine lv_iconst (v := 2) hx hb d_isAnyAt_11 (by decide) ?_
    refine lv_iload_n hx hb d_isAnyAt_12 rfl (lv_at hl 1 rfl) ?_
    refine lv_imul hx hb d_isAnyAt_13 ?_
    refine va_lald hx hb hK hP 1 2 rfl rfl (i := 2 * p0) (ld_w2 e_1 c_2) d_isAnyAt_14 ?_
    refine lv_aload_n hx hb d_isAnyAt_15 rfl (lv_at hl 0 rfl) ?_
    refine va_get (D := D) (ci := 5) (v := .ref (a 22)) (C := "LoanDesk$Meetings") (T := T_Meetings) (N := 1) hx hb hg u_Meetings hown hK hP 0 rfl rfl 0 (by decide) (hg _ k_106) (fun _ h9 => h9) rfl d_isAnyAt_16 ?_
    refine lv_iconst (v := 2) hx hb d_isAnyAt_19 (by decide) ?_
    refine lv_iload_n hx hb d_isAnyAt_20 rfl (lv_at hl 1 rfl) ?_
    refine lv_imul hx hb d_isAnyAt_21 ?_
    refine lv_iconst (v := 1) hx hb d_isAnyAt_22 (by decide) ?_
    refine lv_iadd hx hb d_isAnyAt_23 ?_
    refine va_lald hx hb hK hP 1 2 rfl rfl (i := (2 * p0) + 1) (ld_w3 e_1 c_2) d_isAnyAt_24 ?_
    refine lv_lor hx hb d_isAnyAt_25 ?_
    refine lv_lconst (v := 0) hx hb d_isAnyAt_26 (by decide) ?_
    refine W.lcmp hx hb d_isAnyAt_27 ?_
    refine lv_if_eq (tgt := 35) hx hb d_isAnyAt_28 (by decide) (fun c_3 => ?_) (fun c_3 => ?_)
    · have h := (if_pos c_3).symm.trans h
      refine lv_iconst (v := 0) hx hb d_isAnyAt_35 (by decide) ?_
      exact W.zret (v := 0) hx hb hr rfl (fun t ht hW => ⟨_, rfl, h, ht⟩) (fun _ q => by cases q) d_isAnyAt_36
    · have h := (if_neg c_3).symm.trans h
      refine lv_iconst (v := 1) hx hb d_isAnyAt_31 (by decide) ?_
      refine lv_goto (tgt := 36) hx hb d_isAnyAt_32 (by decide) ?_
      exact W.zret (v := 1) hx hb hr rfl (fun t ht hW => ⟨_, rfl, h, ht⟩) (fun _ q => by cases q) d_isAnyAt_36
def lf_isAt (mw : Nat → Int64) (p0 : Int32) (p1 : Int32) : Int32 := ld_lt (lf_isIndex p0) (fun r_1 => if r_1 = 0 then 0 else ld_lt (lf_isIndex p1) (fun r_3 => if r_3 = 0 then 0 else if (lg_cmp ((((mw ((2 * p0) + (p1 / 64)).toNatClampNeg).toUInt64 >>> ((p1 - p1 / 64 * 64).toInt64.toUInt64 &&& Int64.toUInt64 63)).toInt64) &&& 1) 1) = 0 then 1 else 0))
set_option maxHeartbeats 4000000 in
set_option maxRecDepth 100000 in
theorem lc_isAt (l : Launch) (D : va_G) (cI cZ cJ : ClassId) (a : Nat → Nat) (mw : Nat → Int64) (p0 : Int32) (p1 : Int32) (R : Int32) (h : lf_isAt mw p0 p1 = R) : Met l y_isAt (Cond.code y_isAt prog_4_method_8_code 3 (some .boolean) :: bgT) ({ frames := 1, cells := 0, slots := 0, locals := 20 }) (ld_PR D cI cZ cJ (ld_mW a cJ mw) [.ref (a 21), .int p0, .int p1]) (vp_Si (fun z => z = R)) 0 0 (fun _ => False) := by
  refine Met.ofW (cc := prog_4_method_8_code) (maxL := 3) (ret := (some .boolean)) (by decide) rfl ?_
  intro p e s m args below meth c s₁ B hml hv
  obtain ⟨rfl, hP, hK, hN⟩ := hv
  have hx := B.exec
  have hb := B.bytes
  have hr := B.returns
  have hg : ∀ w ∈ bgT, w.before _ s = true := fun w h => atoms_spec (ws := (Cond.code y_isAt prog_4_method_8_code 3 (some .boolean) :: bgT)) B.pre w (List.mem_cons_of_mem _ h)
  have hown : s.vm.findClass "LoanDesk$Meetings" = some m.cls := findClass_of_methodNamed B.named
  have hlocks := B.notSynchronized
  have hl := lv_entry ([.ref (a 21), .int p0, .int p1]) (n := 3) (Nat.le_of_ble_eq_true rfl)
  rw [lg_entry_eq]
  generalize (lg_sl ([.ref (a 21), .int p0, .int p1]) ++ List.replicate (3 - (lg_sl ([.ref (a 21), .int p0, .int p1])).length) Slot.unset).toArray = ls at hl ⊢
  have hl : lv_has ls 3 [(0, .ref (a 21)), (1, .int p0), (2, .int p1)] := hl
  refine lv_iload_n hx hb d_isAt_0 rfl (lv_at hl 1 rfl) ?_
  obtain ⟨r_1, e_1, h⟩ := ld_nm h
  refine ld_rd ((va_runSN (As := [.int p0]) (rest := []) ⟨hx, hb, hml, hown, hg⟩ (lc_isIndex l D cI cZ cJ p0 r_1 e_1) ⟨va_cnB 1 hg (ld_gd k_161) rfl rfl rfl (hN _ (ld_nwm 11 rfl)) (hg _ k_23) hd_isIndex ⟨Nat.le_of_ble_eq_true rfl, Nat.le_of_ble_eq_true rfl⟩, hg _ k_160, trivial⟩ (ld_preR hP hK hN [] rfl) rfl rfl hl.1 rfl (lv_room (Nat.le_of_ble_eq_true rfl)) d_isAt_1 ⟨Nat.zero_le _, Nat.zero_le _⟩).run) ?_
  refine lv_if_eq (tgt := 43) hx hb d_isAt_4 (by decide) (fun c_2 => ?_) (fun c_2 => ?_)
  · have h := (if_pos c_2).symm.trans h
    refine lv_iconst (v := 0) hx hb d_isAt_43 (by decide) ?_
    exact W.zret (v := 0) hx hb hr rfl (fun t ht hW => ⟨_, rfl, h, ht⟩) (fun _ q => by cases q) d_isAt_44
  · have h := (if_neg c_2).symm.trans h
    refine lv_iload_n hx hb d_isAt_7 rfl (lv_at hl 2 rfl) ?_
    obtain ⟨r_3, e_3, h⟩ := ld_nm h
    refine ld_rd ((va_runSN (As := [.int p1]) (rest := []) ⟨hx, hb, hml, hown, hg⟩ (lc_isIndex l D cI cZ cJ p1 r_3 e_3) ⟨va_cnB 1 hg (ld_gd k_161) rfl rfl rfl (hN _ (ld_nwm 11 rfl)) (hg _ k_23) hd_isIndex ⟨Nat.le_of_ble_eq_true rfl, Nat.le_of_ble_eq_true rfl⟩, hg _ k_160, trivial⟩ (ld_preR hP hK hN [] rfl) rfl rfl hl.1 rfl (lv_room (Nat.le_of_ble_eq_true rfl)) d_isAt_8 ⟨Nat.zero_le _, Nat.zero_le _⟩).run) ?_
    refine lv_if_eq (tgt := 43) hx hb d_isAt_11 (by decide) (fun c_4 => ?_) (fun c_4 => ?_)
    · have h := (if_pos c_4).symm.trans h
      refine lv_iconst (v := 0) hx hb d_isAt_43 (by decide) ?_
      exact W.zret (v := 0) hx hb hr rfl (fun t ht hW => ⟨_, rfl, h, ht⟩) (fun _ q => by cases q) d_isAt_44
    · have h := (if_neg c_4).symm.trans h
      refine lv_aload_n hx hb d_isAt_14 rfl (lv_at hl 0 rfl) ?_
      refine va_get (D := D) (ci := 5) (v := .ref (a 22)) (C := "LoanDesk$Meetings") (T := T_Meetings) (N := 1) hx hb hg u_Meetings hown hK hP 0 rfl rfl 0 (by decide) (hg _ k_106) (fun _ h9 => h9) rfl d_isAt_15 ?_
      refine lv_iconst (v := 2) hx hb d_isAt_18 (by decide) ?_
      refine lv_iload_n hx hb d_isAt_19 rfl (lv_at hl 1 rfl) ?_
      refine lv_imul hx hb d_isAt_20 ?_
      refine lv_iload_n hx hb d_isAt_21 rfl (lv_at hl 2 rfl) ?_
      refine lv_bipush (v := 64) hx hb d_isAt_22 (by decide) ?_
      refine lv_idiv hx hb d_isAt_24 (by decide) ?_
      refine lv_iadd hx hb d_isAt_25 ?_
      refine va_lald hx hb hK hP 1 2 rfl rfl (i := (2 * p0) + (p1 / 64)) (ld_w1 e_1 c_2 e_3 c_4) d_isAt_26 ?_
      refine lv_iload_n hx hb d_isAt_27 rfl (lv_at hl 2 rfl) ?_
      refine lv_bipush (v := 64) hx hb d_isAt_28 (by decide) ?_
      refine lv_irem hx hb d_isAt_30 (by decide) ?_
      refine lv_lushr (v := ((mw ((2 * p0) + (p1 / 64)).toNatClampNeg).toUInt64 >>> ((p1 - p1 / 64 * 64).toInt64.toUInt64 &&& Int64.toUInt64 63)).toInt64) hx hb d_isAt_31 rfl ?_
      refine lv_lconst (v := 1) hx hb d_isAt_32 (by decide) ?_
      refine lv_land hx hb d_isAt_33 ?_
      refine lv_lconst (v := 1) hx hb d_isAt_34 (by decide) ?_
      refine W.lcmp hx hb d_isAt_35 ?_
      refine lv_if_ne (tgt := 43) hx hb d_isAt_36 (by decide) (fun c_5 => ?_) (fun c_5 => ?_)
      · have h := (if_neg c_5).symm.trans h
        refine lv_iconst (v := 0) hx hb d_isAt_43 (by decide) ?_
        exact W.zret (v := 0) hx hb hr rfl (fun t ht hW => ⟨_, rfl, h, ht⟩) (fun _ q => by cases q) d_isAt_44
      · have h := (if_pos c_5).symm.trans h
        refine lv_iconst (v := 1) hx hb d_isAt_39 (by decide) ?_
        refine lv_goto (tgt := 44) hx hb d_isAt_40 (by decide) ?_
        exact W.zret (v := 1) hx hb hr rfl (fun t ht hW => ⟨_, rfl, h, ht⟩) (fun _ q => by cases q) d_isAt_44
def ls_mcount_1 (mw : Nat → Int64) (v1 : Int32 × Int32) : Option ((Int32 × Int32) ⊕ (Int32 × Int32)) := if 120 ≤ v1.2 then some (.inr (v1.1, v1.2)) else ld_lt (lf_isAnyAt mw v1.2) (fun r_2 => if r_2 = 0 then some (.inl (v1.1, v1.2 + 1)) else some (.inl (v1.1 + 1, v1.2 + 1)))
def lm_mcount (N : Nat) (mw : Nat → Int64) : Option (Int32) := Option.bind (ld_it (ls_mcount_1 mw) N (0, 0)) (fun Y1 => some Y1.1)
set_option maxHeartbeats 4000000 in
set_option maxRecDepth 100000 in
theorem lc_mcount (l : Launch) (D : va_G) (cI cZ cJ : ClassId) (a : Nat → Nat) (mw : Nat → Int64) (N : Nat) (R : Int32) (h : lm_mcount N mw = some R) : Met l y_mcount (Cond.code y_mcount prog_4_method_4_code 3 (some .int) :: bgT) ({ frames := 2, cells := 0, slots := 0, locals := 41 }) (ld_PR D cI cZ cJ (ld_mW a cJ mw) [.ref (a 21)]) (vp_Si (fun z => z = R)) 0 0 (fun _ => False) := by
  refine Met.ofW (cc := prog_4_method_4_code) (maxL := 3) (ret := (some .int)) (by decide) rfl ?_
  intro p e s m args below meth c s₁ B hml hv
  obtain ⟨rfl, hP, hK, hN⟩ := hv
  have hx := B.exec
  have hb := B.bytes
  have hr := B.returns
  have hg : ∀ w ∈ bgT, w.before _ s = true := fun w h => atoms_spec (ws := (Cond.code y_mcount prog_4_method_4_code 3 (some .int) :: bgT)) B.pre w (List.mem_cons_of_mem _ h)
  have hown : s.vm.findClass "LoanDesk$Meetings" = some m.cls := findClass_of_methodNamed B.named
  have hlocks := B.notSynchronized
  have hl := lv_entry ([.ref (a 21)]) (n := 3) (Nat.le_of_ble_eq_true rfl)
  rw [lg_entry_eq]
  generalize (lg_sl ([.ref (a 21)]) ++ List.replicate (3 - (lg_sl ([.ref (a 21)])).length) Slot.unset).toArray = ls at hl ⊢
  have hl : lv_has ls 3 [(0, .ref (a 21))] := hl
  refine lv_iconst (v := 0) hx hb d_mcount_0 (by decide) ?_
  refine lv_istore_n (lv' := [(1, .int 0), (0, .ref (a 21))]) hx hb d_mcount_1 rfl hl (by decide) rfl (fun ls hl => ?_)
  refine lv_iconst (v := 0) hx hb d_mcount_2 (by decide) ?_
  refine lv_istore_n (lv' := [(2, .int 0), (1, .int 0), (0, .ref (a 21))]) hx hb d_mcount_3 rfl hl (by decide) rfl (fun ls hl => ?_)
  obtain ⟨Y1, eY1, h⟩ := ld_ob h
  have kont1 : ∀ (ls : Array Slot), lv_has ls 3 [(1, .int Y1.1)] → W p l e (headSpec (Cond.code y_mcount prog_4_method_4_code 3 (some .int) :: bgT) ({ frames := 2, cells := 0, slots := 0, locals := 41 })).room s m ([.ref (a 21)] : List Value).toArray below meth c s.heap [] 0 0 (MQ below (vp_Si (fun z => z = R)) ([.ref (a 21)] : List Value).toArray s 0 0 (fun _ => False)) (F0 m 27 ls []) := by
    intro ls hl
    refine lv_iload_n hx hb d_mcount_27 rfl (lv_at hl 0 rfl) ?_
    have h := Option.some.inj h
    exact W.iret (v := Y1.1) hx hb hr (fun t ht hW => ⟨_, rfl, h, ht⟩) (fun _ q => by cases q) d_mcount_28
  have key1 : ∀ (n : Nat) (v1 : Int32 × Int32) (ls : Array Slot), ld_it (ls_mcount_1 mw) n v1 = some Y1 → lv_has ls 3 [(0, .ref (a 21)), (1, .int v1.1), (2, .int v1.2)] → W p l e (headSpec (Cond.code y_mcount prog_4_method_4_code 3 (some .int) :: bgT) ({ frames := 2, cells := 0, slots := 0, locals := 41 })).room s m ([.ref (a 21)] : List Value).toArray below meth c s.heap [] 0 0 (MQ below (vp_Si (fun z => z = R)) ([.ref (a 21)] : List Value).toArray s 0 0 (fun _ => False)) (F0 m 4 ls []) := by
    intro n
    induction n with
    | zero => intro v1 ls g1 hl; cases g1
    | succ n ih1 =>
      intro v1 ls g1 hl
      obtain ⟨z1, hy1, g1⟩ := ld_its g1
      refine lv_iload_n hx hb d_mcount_4 rfl (lv_at hl 2 rfl) ?_
      refine lv_bipush (v := 120) hx hb d_mcount_5 (by decide) ?_
      refine lv_icmp_ge (tgt := 27) hx hb d_mcount_7 (by decide) (fun c_1 => ?_) (fun c_1 => ?_)
      · have hy1 := (if_pos c_1).symm.trans hy1
        obtain rfl := Option.some.inj hy1
        obtain rfl := Option.some.inj g1
        exact kont1 _ (lv_sub hl [1] rfl)
      · have hy1 := (if_neg c_1).symm.trans hy1
        refine lv_aload_n hx hb d_mcount_10 rfl (lv_at hl 0 rfl) ?_
        refine lv_iload_n hx hb d_mcount_11 rfl (lv_at hl 2 rfl) ?_
        obtain ⟨r_2, e_2, hy1⟩ := ld_nm hy1
        refine ld_rd (W.runV (As := [.int v1.2]) (rest := []) ⟨hx, hb, hml, hown, hg⟩ (lc_isAnyAt l D cI cZ cJ a mw v1.2 r_2 e_2) ⟨callB_of 1 hg (ld_gd k_347) rfl rfl rfl (hg _ k_29) (hg _ k_345) hd_isAnyAt ⟨Nat.le_of_ble_eq_true rfl, Nat.le_of_ble_eq_true rfl⟩, hg _ k_346, hg _ k_11⟩ (ld_preRV hP hK hN [0, 1] rfl 5 0 rfl rfl) rfl rfl hl.1 rfl (lv_room (Nat.le_of_ble_eq_true rfl)) d_mcount_12 ⟨Nat.zero_le _, Nat.zero_le _⟩) ?_
        refine lv_if_eq (tgt := 21) hx hb d_mcount_15 (by decide) (fun c_3 => ?_) (fun c_3 => ?_)
        · have hy1 := (if_pos c_3).symm.trans hy1
          refine lv_iinc (v := v1.2 + 1) (lv' := [(2, .int (v1.2 + 1)), (0, .ref (a 21)), (1, .int v1.1)]) hx hb d_mcount_21 hl (k := 2) rfl rfl (by decide) rfl (fun ls hl => ?_)
          refine lv_goto (tgt := 4) hx hb d_mcount_24 (by decide) ?_
          obtain rfl := Option.some.inj hy1
          exact ih1 (v1.1, v1.2 + 1) _ g1 (lv_sub hl [1, 2, 0] rfl)
        · have hy1 := (if_neg c_3).symm.trans hy1
          refine lv_iinc (v := v1.1 + 1) (lv' := [(1, .int (v1.1 + 1)), (0, .ref (a 21)), (2, .int v1.2)]) hx hb d_mcount_18 hl (k := 1) rfl rfl (by decide) rfl (fun ls hl => ?_)
          refine lv_iinc (v := v1.2 + 1) (lv' := [(2, .int (v1.2 + 1)), (1, .int (v1.1 + 1)), (0, .ref (a 21))]) hx hb d_mcount_21 hl (k := 2) rfl rfl (by decide) rfl (fun ls hl => ?_)
          refine lv_goto (tgt := 4) hx hb d_mcount_24 (by decide) ?_
          obtain rfl := Option.some.inj hy1
          exact ih1 (v1.1 + 1, v1.2 + 1) _ g1 (lv_sub hl [2, 1, 0] rfl)
  exact key1 N (0, 0) _ eY1 (lv_sub hl [2, 1, 0] rfl)
def ls_mfirst_1 (mw : Nat → Int64) (v1 : Int32) : Option ((Int32) ⊕ ((Int32) ⊕ (Int32))) := if 120 ≤ v1 then some (.inr (.inl v1)) else ld_lt (lf_isAnyAt mw v1) (fun r_2 => if r_2 = 0 then some (.inl (v1 + 1)) else some (.inr (.inr v1)))
def lm_mfirst (N : Nat) (mw : Nat → Int64) : Option (Int32) := Option.bind (ld_it (ls_mfirst_1 mw) N 0) (fun Y1 => ld_ex Y1 (fun y1 => some (-1)) (fun R9 => some R9))
set_option maxHeartbeats 4000000 in
set_option maxRecDepth 100000 in
theorem lc_mfirst (l : Launch) (D : va_G) (cI cZ cJ : ClassId) (a : Nat → Nat) (mw : Nat → Int64) (N : Nat) (R : Int32) (h : lm_mfirst N mw = some R) : Met l y_mfirst (Cond.code y_mfirst prog_4_method_5_code 2 (some .int) :: bgT) ({ frames := 2, cells := 0, slots := 0, locals := 41 }) (ld_PR D cI cZ cJ (ld_mW a cJ mw) [.ref (a 21)]) (vp_Si (fun z => z = R)) 0 0 (fun _ => False) := by
  refine Met.ofW (cc := prog_4_method_5_code) (maxL := 2) (ret := (some .int)) (by decide) rfl ?_
  intro p e s m args below meth c s₁ B hml hv
  obtain ⟨rfl, hP, hK, hN⟩ := hv
  have hx := B.exec
  have hb := B.bytes
  have hr := B.returns
  have hg : ∀ w ∈ bgT, w.before _ s = true := fun w h => atoms_spec (ws := (Cond.code y_mfirst prog_4_method_5_code 2 (some .int) :: bgT)) B.pre w (List.mem_cons_of_mem _ h)
  have hown : s.vm.findClass "LoanDesk$Meetings" = some m.cls := findClass_of_methodNamed B.named
  have hlocks := B.notSynchronized
  have hl := lv_entry ([.ref (a 21)]) (n := 2) (Nat.le_of_ble_eq_true rfl)
  rw [lg_entry_eq]
  generalize (lg_sl ([.ref (a 21)]) ++ List.replicate (2 - (lg_sl ([.ref (a 21)])).length) Slot.unset).toArray = ls at hl ⊢
  have hl : lv_has ls 2 [(0, .ref (a 21))] := hl
  refine lv_iconst (v := 0) hx hb d_mfirst_0 (by decide) ?_
  refine lv_istore_n (lv' := [(1, .int 0), (0, .ref (a 21))]) hx hb d_mfirst_1 rfl hl (by decide) rfl (fun ls hl => ?_)
  obtain ⟨Y1, eY1, h⟩ := ld_ob h
  have kont1 : ∀ (y1 : Int32) (ls : Array Slot), Y1 = .inl y1 → lv_has ls 2 [] → W p l e (headSpec (Cond.code y_mfirst prog_4_method_5_code 2 (some .int) :: bgT) ({ frames := 2, cells := 0, slots := 0, locals := 41 })).room s m ([.ref (a 21)] : List Value).toArray below meth c s.heap [] 0 0 (MQ below (vp_Si (fun z => z = R)) ([.ref (a 21)] : List Value).toArray s 0 0 (fun _ => False)) (F0 m 24 ls []) := by
    intro y1 ls eq1 hl
    subst eq1
    refine lv_iconst (v := (-1)) hx hb d_mfirst_24 (by decide) ?_
    have h := Option.some.inj h
    exact W.iret (v := (-1)) hx hb hr (fun t ht hW => ⟨_, rfl, h, ht⟩) (fun _ q => by cases q) d_mfirst_25
  have key1 : ∀ (n : Nat) (v1 : Int32) (ls : Array Slot), ld_it (ls_mfirst_1 mw) n v1 = some Y1 → lv_has ls 2 [(0, .ref (a 21)), (1, .int v1)] → W p l e (headSpec (Cond.code y_mfirst prog_4_method_5_code 2 (some .int) :: bgT) ({ frames := 2, cells := 0, slots := 0, locals := 41 })).room s m ([.ref (a 21)] : List Value).toArray below meth c s.heap [] 0 0 (MQ below (vp_Si (fun z => z = R)) ([.ref (a 21)] : List Value).toArray s 0 0 (fun _ => False)) (F0 m 2 ls []) := by
    intro n
    induction n with
    | zero => intro v1 ls g1 hl; cases g1
    | succ n ih1 =>
      intro v1 ls g1 hl
      obtain ⟨z1, hy1, g1⟩ := ld_its g1
      refine lv_iload_n hx hb d_mfirst_2 rfl (lv_at hl 1 rfl) ?_
      refine lv_bipush (v := 120) hx hb d_mfirst_3 (by decide) ?_
      refine lv_icmp_ge (tgt := 24) hx hb d_mfirst_5 (by decide) (fun c_1 => ?_) (fun c_1 => ?_)
      · have hy1 := (if_pos c_1).symm.trans hy1
        obtain rfl := Option.some.inj hy1
        exact kont1 v1 _ (Option.some.inj g1).symm (lv_sub hl [] rfl)
      · have hy1 := (if_neg c_1).symm.trans hy1
        refine lv_aload_n hx hb d_mfirst_8 rfl (lv_at hl 0 rfl) ?_
        refine lv_iload_n hx hb d_mfirst_9 rfl (lv_at hl 1 rfl) ?_
        obtain ⟨r_2, e_2, hy1⟩ := ld_nm hy1
        refine ld_rd (W.runV (As := [.int v1]) (rest := []) ⟨hx, hb, hml, hown, hg⟩ (lc_isAnyAt l D cI cZ cJ a mw v1 r_2 e_2) ⟨callB_of 1 hg (ld_gd k_347) rfl rfl rfl (hg _ k_29) (hg _ k_345) hd_isAnyAt ⟨Nat.le_of_ble_eq_true rfl, Nat.le_of_ble_eq_true rfl⟩, hg _ k_346, hg _ k_11⟩ (ld_preRV hP hK hN [0, 1] rfl 5 0 rfl rfl) rfl rfl hl.1 rfl (lv_room (Nat.le_of_ble_eq_true rfl)) d_mfirst_10 ⟨Nat.zero_le _, Nat.zero_le _⟩) ?_
        refine lv_if_eq (tgt := 18) hx hb d_mfirst_13 (by decide) (fun c_3 => ?_) (fun c_3 => ?_)
        · have hy1 := (if_pos c_3).symm.trans hy1
          refine lv_iinc (v := v1 + 1) (lv' := [(1, .int (v1 + 1)), (0, .ref (a 21))]) hx hb d_mfirst_18 hl (k := 1) rfl rfl (by decide) rfl (fun ls hl => ?_)
          refine lv_goto (tgt := 2) hx hb d_mfirst_21 (by decide) ?_
          obtain rfl := Option.some.inj hy1
          exact ih1 (v1 + 1) _ g1 (lv_sub hl [1, 0] rfl)
        · have hy1 := (if_neg c_3).symm.trans hy1
          refine lv_iload_n hx hb d_mfirst_16 rfl (lv_at hl 1 rfl) ?_
          obtain rfl := Option.some.inj hy1
          obtain rfl := Option.some.inj g1
          have h := Option.some.inj h
          exact W.iret (v := v1) hx hb hr (fun t ht hW => ⟨_, rfl, h, ht⟩) (fun _ q => by cases q) d_mfirst_17
  exact key1 N 0 _ eY1 (lv_sub hl [1, 0] rfl)
def ls_least_1 (mw : Nat → Int64) (p0 : Int32) (p1 : Int32) (v1 : Int32) : Option ((Int32) ⊕ ((Int32) ⊕ (Int32))) := if 120 ≤ v1 then some (.inr (.inl v1)) else if v1 ≤ p1 then some (.inl (v1 + 1)) else ld_lt (lf_isAt mw p0 v1) (fun r_3 => if r_3 = 0 then some (.inl (v1 + 1)) else some (.inr (.inr v1)))
def lm_least (N : Nat) (mw : Nat → Int64) (p0 : Int32) (p1 : Int32) : Option (Int32) := Option.bind (ld_it (ls_least_1 mw p0 p1) N 0) (fun Y1 => ld_ex Y1 (fun y1 => some (-1)) (fun R9 => some R9))
set_option maxHeartbeats 4000000 in
set_option maxRecDepth 100000 in
theorem lc_least (l : Launch) (D : va_G) (cI cZ cJ : ClassId) (a : Nat → Nat) (mw : Nat → Int64) (p0 : Int32) (p1 : Int32) (N : Nat) (R : Int32) (h : lm_least N mw p0 p1 = some R) : Met l y_least (Cond.code y_least prog_4_method_6_code 4 (some .int) :: bgT) ({ frames := 2, cells := 0, slots := 0, locals := 42 }) (ld_PR D cI cZ cJ (ld_mW a cJ mw) [.ref (a 21), .int p0, .int p1]) (vp_Si (fun z => z = R)) 0 0 (fun _ => False) := by
  refine Met.ofW (cc := prog_4_method_6_code) (maxL := 4) (ret := (some .int)) (by decide) rfl ?_
  intro p e s m args below meth c s₁ B hml hv
  obtain ⟨rfl, hP, hK, hN⟩ := hv
  have hx := B.exec
  have hb := B.bytes
  have hr := B.returns
  have hg : ∀ w ∈ bgT, w.before _ s = true := fun w h => atoms_spec (ws := (Cond.code y_least prog_4_method_6_code 4 (some .int) :: bgT)) B.pre w (List.mem_cons_of_mem _ h)
  have hown : s.vm.findClass "LoanDesk$Meetings" = some m.cls := findClass_of_methodNamed B.named
  have hlocks := B.notSynchronized
  have hl := lv_entry ([.ref (a 21), .int p0, .int p1]) (n := 4) (Nat.le_of_ble_eq_true rfl)
  rw [lg_entry_eq]
  generalize (lg_sl ([.ref (a 21), .int p0, .int p1]) ++ List.replicate (4 - (lg_sl ([.ref (a 21), .int p0, .int p1])).length) Slot.unset).toArray = ls at hl ⊢
  have hl : lv_has ls 4 [(0, .ref (a 21)), (1, .int p0), (2, .int p1)] := hl
  refine lv_iconst (v := 0) hx hb d_least_0 (by decide) ?_
  refine lv_istore_n (lv' := [(3, .int 0), (0, .ref (a 21)), (1, .int p0), (2, .int p1)]) hx hb d_least_1 rfl hl (by decide) rfl (fun ls hl => ?_)
  obtain ⟨Y1, eY1, h⟩ := ld_ob h
  have kont1 : ∀ (y1 : Int32) (ls : Array Slot), Y1 = .inl y1 → lv_has ls 4 [] → W p l e (headSpec (Cond.code y_least prog_4_method_6_code 4 (some .int) :: bgT) ({ frames := 2, cells := 0, slots := 0, locals := 42 })).room s m ([.ref (a 21), .int p0, .int p1] : List Value).toArray below meth c s.heap [] 0 0 (MQ below (vp_Si (fun z => z = R)) ([.ref (a 21), .int p0, .int p1] : List Value).toArray s 0 0 (fun _ => False)) (F0 m 30 ls []) := by
    intro y1 ls eq1 hl
    subst eq1
    refine lv_iconst (v := (-1)) hx hb d_least_30 (by decide) ?_
    have h := Option.some.inj h
    exact W.iret (v := (-1)) hx hb hr (fun t ht hW => ⟨_, rfl, h, ht⟩) (fun _ q => by cases q) d_least_31
  have key1 : ∀ (n : Nat) (v1 : Int32) (ls : Array Slot), ld_it (ls_least_1 mw p0 p1) n v1 = some Y1 → lv_has ls 4 [(0, .ref (a 21)), (1, .int p0), (2, .int p1), (3, .int v1)] → W p l e (headSpec (Cond.code y_least prog_4_method_6_code 4 (some .int) :: bgT) ({ frames := 2, cells := 0, slots := 0, locals := 42 })).room s m ([.ref (a 21), .int p0, .int p1] : List Value).toArray below meth c s.heap [] 0 0 (MQ below (vp_Si (fun z => z = R)) ([.ref (a 21), .int p0, .int p1] : List Value).toArray s 0 0 (fun _ => False)) (F0 m 2 ls []) := by
    intro n
    induction n with
    | zero => intro v1 ls g1 hl; cases g1
    | succ n ih1 =>
      intro v1 ls g1 hl
      obtain ⟨z1, hy1, g1⟩ := ld_its g1
      refine lv_iload_n hx hb d_least_2 rfl (lv_at hl 3 rfl) ?_
      refine lv_bipush (v := 120) hx hb d_least_3 (by decide) ?_
      refine lv_icmp_ge (tgt := 30) hx hb d_least_5 (by decide) (fun c_1 => ?_) (fun c_1 => ?_)
      · have hy1 := (if_pos c_1).symm.trans hy1
        obtain rfl := Option.some.inj hy1
        exact kont1 v1 _ (Option.some.inj g1).symm (lv_sub hl [] rfl)
      · have hy1 := (if_neg c_1).symm.trans hy1
        refine lv_iload_n hx hb d_least_8 rfl (lv_at hl 3 rfl) ?_
        refine lv_iload_n hx hb d_least_9 rfl (lv_at hl 2 rfl) ?_
        refine lv_icmp_le (tgt := 24) hx hb d_least_10 (by decide) (fun c_2 => ?_) (fun c_2 => ?_)
        · have hy1 := (if_pos c_2).symm.trans hy1
          refine lv_iinc (v := v1 + 1) (lv' := [(3, .int (v1 + 1)), (0, .ref (a 21)), (1, .int p0), (2, .int p1)]) hx hb d_least_24 hl (k := 3) rfl rfl (by decide) rfl (fun ls hl => ?_)
          refine lv_goto (tgt := 2) hx hb d_least_27 (by decide) ?_
          obtain rfl := Option.some.inj hy1
          exact ih1 (v1 + 1) _ g1 (lv_sub hl [1, 2, 3, 0] rfl)
        · have hy1 := (if_neg c_2).symm.trans hy1
          refine lv_aload_n hx hb d_least_13 rfl (lv_at hl 0 rfl) ?_
          refine lv_iload_n hx hb d_least_14 rfl (lv_at hl 1 rfl) ?_
          refine lv_iload_n hx hb d_least_15 rfl (lv_at hl 3 rfl) ?_
          obtain ⟨r_3, e_3, hy1⟩ := ld_nm hy1
          refine ld_rd (W.runV (As := [.int p0, .int v1]) (rest := []) ⟨hx, hb, hml, hown, hg⟩ (lc_isAt l D cI cZ cJ a mw p0 v1 r_3 e_3) ⟨callB_of 2 hg (ld_gd k_332) rfl rfl rfl (hg _ k_29) (hg _ k_330) hd_isAt ⟨Nat.le_of_ble_eq_true rfl, Nat.le_of_ble_eq_true rfl⟩, hg _ k_331, hg _ k_10⟩ (ld_preRV hP hK hN [0, 1] rfl 5 0 rfl rfl) rfl rfl hl.1 rfl (lv_room (Nat.le_of_ble_eq_true rfl)) d_least_16 ⟨Nat.zero_le _, Nat.zero_le _⟩) ?_
          refine lv_if_eq (tgt := 24) hx hb d_least_19 (by decide) (fun c_4 => ?_) (fun c_4 => ?_)
          · have hy1 := (if_pos c_4).symm.trans hy1
            refine lv_iinc (v := v1 + 1) (lv' := [(3, .int (v1 + 1)), (0, .ref (a 21)), (1, .int p0), (2, .int p1)]) hx hb d_least_24 hl (k := 3) rfl rfl (by decide) rfl (fun ls hl => ?_)
            refine lv_goto (tgt := 2) hx hb d_least_27 (by decide) ?_
            obtain rfl := Option.some.inj hy1
            exact ih1 (v1 + 1) _ g1 (lv_sub hl [1, 2, 3, 0] rfl)
          · have hy1 := (if_neg c_4).symm.trans hy1
            refine lv_iload_n hx hb d_least_22 rfl (lv_at hl 3 rfl) ?_
            obtain rfl := Option.some.inj hy1
            obtain rfl := Option.some.inj g1
            have h := Option.some.inj h
            exact W.iret (v := v1) hx hb hr (fun t ht hW => ⟨_, rfl, h, ht⟩) (fun _ q => by cases q) d_least_23
  exact key1 N 0 _ eY1 (lv_sub hl [1, 2, 3, 0] rfl)
end
section
theorem d_forget_0 : decode prog_1_method_16_code 0 = .ok (.aload_n 0, 1) := by decide +kernel
theorem d_forget_1 : decode prog_1_method_16_code 1 = .ok (.iconst 0, 1) := by decide +kernel
theorem d_forget_2 : decode prog_1_method_16_code 2 = .ok (.putfield 44, 3) := by decide +kernel
theorem d_forget_5 : decode prog_1_method_16_code 5 = .ok (.aload_n 0, 1) := by decide +kernel
theorem d_forget_6 : decode prog_1_method_16_code 6 = .ok (.iconst 0, 1) := by decide +kernel
theorem d_forget_7 : decode prog_1_method_16_code 7 = .ok (.putfield 48, 3) := by decide +kernel
theorem d_forget_10 : decode prog_1_method_16_code 10 = .ok (.return_, 1) := by decide +kernel
theorem d_findWays_0 : decode prog_1_method_17_code 0 = .ok (.aload_n 0, 1) := by decide +kernel
theorem d_findWays_1 : decode prog_1_method_17_code 1 = .ok (.getfield 44, 3) := by decide +kernel
theorem d_findWays_4 : decode prog_1_method_17_code 4 = .ok (.ifCond .eq 4, 3) := by decide +kernel
theorem d_findWays_7 : decode prog_1_method_17_code 7 = .ok (.return_, 1) := by decide +kernel
theorem d_findWays_8 : decode prog_1_method_17_code 8 = .ok (.aload_n 0, 1) := by decide +kernel
theorem d_findWays_9 : decode prog_1_method_17_code 9 = .ok (.getfield 19, 3) := by decide +kernel
theorem d_findWays_12 : decode prog_1_method_17_code 12 = .ok (.aload_n 0, 1) := by decide +kernel
theorem d_findWays_13 : decode prog_1_method_17_code 13 = .ok (.getfield 10, 3) := by decide +kernel
theorem d_findWays_16 : decode prog_1_method_17_code 16 = .ok (.invokevirtual 134, 3) := by decide +kernel
theorem d_findWays_19 : decode prog_1_method_17_code 19 = .ok (.aload_n 0, 1) := by decide +kernel
theorem d_findWays_20 : decode prog_1_method_17_code 20 = .ok (.getfield 26, 3) := by decide +kernel
theorem d_findWays_23 : decode prog_1_method_17_code 23 = .ok (.aload_n 0, 1) := by decide +kernel
theorem d_findWays_24 : decode prog_1_method_17_code 24 = .ok (.getfield 10, 3) := by decide +kernel
theorem d_findWays_27 : decode prog_1_method_17_code 27 = .ok (.invokevirtual 138, 3) := by decide +kernel
theorem d_findWays_30 : decode prog_1_method_17_code 30 = .ok (.aload_n 0, 1) := by decide +kernel
theorem d_findWays_31 : decode prog_1_method_17_code 31 = .ok (.iconst 1, 1) := by decide +kernel
theorem d_findWays_32 : decode prog_1_method_17_code 32 = .ok (.putfield 44, 3) := by decide +kernel
theorem d_findWays_35 : decode prog_1_method_17_code 35 = .ok (.return_, 1) := by decide +kernel
theorem d_addMeet_0 : decode prog_1_method_19_code 0 = .ok (.iconst 0, 1) := by decide +kernel
theorem d_addMeet_1 : decode prog_1_method_19_code 1 = .ok (.istore_n 2, 1) := by decide +kernel
theorem d_addMeet_2 : decode prog_1_method_19_code 2 = .ok (.iload_n 2, 1) := by decide +kernel
theorem d_addMeet_3 : decode prog_1_method_19_code 3 = .ok (.aload_n 0, 1) := by decide +kernel
theorem d_addMeet_4 : decode prog_1_method_19_code 4 = .ok (.getfield 10, 3) := by decide +kernel
theorem d_addMeet_7 : decode prog_1_method_19_code 7 = .ok (.invokevirtual 108, 3) := by decide +kernel
theorem d_addMeet_10 : decode prog_1_method_19_code 10 = .ok (.if_icmp .ge 63, 3) := by decide +kernel
theorem d_addMeet_13 : decode prog_1_method_19_code 13 = .ok (.aload_n 0, 1) := by decide +kernel
theorem d_addMeet_14 : decode prog_1_method_19_code 14 = .ok (.getfield 33, 3) := by decide +kernel
theorem d_addMeet_17 : decode prog_1_method_19_code 17 = .ok (.iload_n 2, 1) := by decide +kernel
theorem d_addMeet_18 : decode prog_1_method_19_code 18 = .ok (.invokevirtual 90, 3) := by decide +kernel
theorem d_addMeet_21 : decode prog_1_method_19_code 21 = .ok (.aload_n 0, 1) := by decide +kernel
theorem d_addMeet_22 : decode prog_1_method_19_code 22 = .ok (.getfield 26, 3) := by decide +kernel
theorem d_addMeet_25 : decode prog_1_method_19_code 25 = .ok (.iload_n 2, 1) := by decide +kernel
theorem d_addMeet_26 : decode prog_1_method_19_code 26 = .ok (.invokevirtual 94, 3) := by decide +kernel
theorem d_addMeet_29 : decode prog_1_method_19_code 29 = .ok (.iand, 1) := by decide +kernel
theorem d_addMeet_30 : decode prog_1_method_19_code 30 = .ok (.aload_n 0, 1) := by decide +kernel
theorem d_addMeet_31 : decode prog_1_method_19_code 31 = .ok (.getfield 10, 3) := by decide +kernel
theorem d_addMeet_34 : decode prog_1_method_19_code 34 = .ok (.iload_n 2, 1) := by decide +kernel
theorem d_addMeet_35 : decode prog_1_method_19_code 35 = .ok (.invokevirtual 144, 3) := by decide +kernel
theorem d_addMeet_38 : decode prog_1_method_19_code 38 = .ok (.iconst (-1), 1) := by decide +kernel
theorem d_addMeet_39 : decode prog_1_method_19_code 39 = .ok (.ixor, 1) := by decide +kernel
theorem d_addMeet_40 : decode prog_1_method_19_code 40 = .ok (.iand, 1) := by decide +kernel
theorem d_addMeet_41 : decode prog_1_method_19_code 41 = .ok (.istore_n 3, 1) := by decide +kernel
theorem d_addMeet_42 : decode prog_1_method_19_code 42 = .ok (.iload_n 3, 1) := by decide +kernel
theorem d_addMeet_43 : decode prog_1_method_19_code 43 = .ok (.ifCond .eq 24, 3) := by decide +kernel
theorem d_addMeet_46 : decode prog_1_method_19_code 46 = .ok (.aload_n 0, 1) := by decide +kernel
theorem d_addMeet_47 : decode prog_1_method_19_code 47 = .ok (.getfield 10, 3) := by decide +kernel
theorem d_addMeet_50 : decode prog_1_method_19_code 50 = .ok (.iload_n 2, 1) := by decide +kernel
theorem d_addMeet_51 : decode prog_1_method_19_code 51 = .ok (.iload_n 1, 1) := by decide +kernel
theorem d_addMeet_52 : decode prog_1_method_19_code 52 = .ok (.invokevirtual 147, 3) := by decide +kernel
theorem d_addMeet_55 : decode prog_1_method_19_code 55 = .ok (.ifCond .eq 12, 3) := by decide +kernel
theorem d_addMeet_58 : decode prog_1_method_19_code 58 = .ok (.aload_n 0, 1) := by decide +kernel
theorem d_addMeet_59 : decode prog_1_method_19_code 59 = .ok (.getfield 40, 3) := by decide +kernel
theorem d_addMeet_62 : decode prog_1_method_19_code 62 = .ok (.iload_n 2, 1) := by decide +kernel
theorem d_addMeet_63 : decode prog_1_method_19_code 63 = .ok (.iload_n 1, 1) := by decide +kernel
theorem d_addMeet_64 : decode prog_1_method_19_code 64 = .ok (.invokevirtual 151, 3) := by decide +kernel
theorem d_addMeet_67 : decode prog_1_method_19_code 67 = .ok (.iinc 2 1, 3) := by decide +kernel
theorem d_addMeet_70 : decode prog_1_method_19_code 70 = .ok (.goto (-68), 3) := by decide +kernel
theorem d_addMeet_73 : decode prog_1_method_19_code 73 = .ok (.return_, 1) := by decide +kernel
theorem d_findMeet_0 : decode prog_1_method_18_code 0 = .ok (.aload_n 0, 1) := by decide +kernel
theorem d_findMeet_1 : decode prog_1_method_18_code 1 = .ok (.getfield 48, 3) := by decide +kernel
theorem d_findMeet_4 : decode prog_1_method_18_code 4 = .ok (.ifCond .eq 4, 3) := by decide +kernel
theorem d_findMeet_7 : decode prog_1_method_18_code 7 = .ok (.return_, 1) := by decide +kernel
theorem d_findMeet_8 : decode prog_1_method_18_code 8 = .ok (.aload_n 0, 1) := by decide +kernel
theorem d_findMeet_9 : decode prog_1_method_18_code 9 = .ok (.invokevirtual 77, 3) := by decide +kernel
theorem d_findMeet_12 : decode prog_1_method_18_code 12 = .ok (.aload_n 0, 1) := by decide +kernel
theorem d_findMeet_13 : decode prog_1_method_18_code 13 = .ok (.getfield 40, 3) := by decide +kernel
theorem d_findMeet_16 : decode prog_1_method_18_code 16 = .ok (.invokevirtual 139, 3) := by decide +kernel
theorem d_findMeet_19 : decode prog_1_method_18_code 19 = .ok (.iconst 0, 1) := by decide +kernel
theorem d_findMeet_20 : decode prog_1_method_18_code 20 = .ok (.istore_n 1, 1) := by decide +kernel
theorem d_findMeet_21 : decode prog_1_method_18_code 21 = .ok (.iload_n 1, 1) := by decide +kernel
theorem d_findMeet_22 : decode prog_1_method_18_code 22 = .ok (.aload_n 0, 1) := by decide +kernel
theorem d_findMeet_23 : decode prog_1_method_18_code 23 = .ok (.getfield 10, 3) := by decide +kernel
theorem d_findMeet_26 : decode prog_1_method_18_code 26 = .ok (.invokevirtual 108, 3) := by decide +kernel
theorem d_findMeet_29 : decode prog_1_method_18_code 29 = .ok (.if_icmp .ge 48, 3) := by decide +kernel
theorem d_findMeet_32 : decode prog_1_method_18_code 32 = .ok (.aload_n 0, 1) := by decide +kernel
theorem d_findMeet_33 : decode prog_1_method_18_code 33 = .ok (.getfield 10, 3) := by decide +kernel
theorem d_findMeet_36 : decode prog_1_method_18_code 36 = .ok (.iload_n 1, 1) := by decide +kernel
theorem d_findMeet_37 : decode prog_1_method_18_code 37 = .ok (.invokevirtual 83, 3) := by decide +kernel
theorem d_findMeet_40 : decode prog_1_method_18_code 40 = .ok (.ifCond .eq 31, 3) := by decide +kernel
theorem d_findMeet_43 : decode prog_1_method_18_code 43 = .ok (.aload_n 0, 1) := by decide +kernel
theorem d_findMeet_44 : decode prog_1_method_18_code 44 = .ok (.getfield 19, 3) := by decide +kernel
theorem d_findMeet_47 : decode prog_1_method_18_code 47 = .ok (.iload_n 1, 1) := by decide +kernel
theorem d_findMeet_48 : decode prog_1_method_18_code 48 = .ok (.invokevirtual 80, 3) := by decide +kernel
theorem d_findMeet_51 : decode prog_1_method_18_code 51 = .ok (.ifCond .eq 20, 3) := by decide +kernel
theorem d_findMeet_54 : decode prog_1_method_18_code 54 = .ok (.aload_n 0, 1) := by decide +kernel
theorem d_findMeet_55 : decode prog_1_method_18_code 55 = .ok (.getfield 33, 3) := by decide +kernel
theorem d_findMeet_58 : decode prog_1_method_18_code 58 = .ok (.aload_n 0, 1) := by decide +kernel
theorem d_findMeet_59 : decode prog_1_method_18_code 59 = .ok (.getfield 10, 3) := by decide +kernel
theorem d_findMeet_62 : decode prog_1_method_18_code 62 = .ok (.iload_n 1, 1) := by decide +kernel
theorem d_findMeet_63 : decode prog_1_method_18_code 63 = .ok (.invokevirtual 86, 3) := by decide +kernel
theorem d_findMeet_66 : decode prog_1_method_18_code 66 = .ok (.aload_n 0, 1) := by decide +kernel
theorem d_findMeet_67 : decode prog_1_method_18_code 67 = .ok (.iload_n 1, 1) := by decide +kernel
theorem d_findMeet_68 : decode prog_1_method_18_code 68 = .ok (.invokevirtual 140, 3) := by decide +kernel
theorem d_findMeet_71 : decode prog_1_method_18_code 71 = .ok (.iinc 1 1, 3) := by decide +kernel
theorem d_findMeet_74 : decode prog_1_method_18_code 74 = .ok (.goto (-53), 3) := by decide +kernel
theorem d_findMeet_77 : decode prog_1_method_18_code 77 = .ok (.aload_n 0, 1) := by decide +kernel
theorem d_findMeet_78 : decode prog_1_method_18_code 78 = .ok (.iconst 1, 1) := by decide +kernel
theorem d_findMeet_79 : decode prog_1_method_18_code 79 = .ok (.putfield 48, 3) := by decide +kernel
theorem d_findMeet_82 : decode prog_1_method_18_code 82 = .ok (.return_, 1) := by decide +kernel
end
section
def lf_forget (dk : Int32 × Int32) : (Int32 × Int32) := (0, 0)
set_option maxHeartbeats 4000000 in
set_option maxRecDepth 100000 in
theorem lc_forget (l : Launch) (D : va_G) (cI cZ cJ : ClassId) (a : Nat → Nat) (dk : Int32 × Int32) (sz : Nat) (R : (Int32 × Int32)) (h : lf_forget dk = R) : Met l y_forget (Cond.code y_forget prog_1_method_16_code 1 none :: bgT) ({ frames := 0, cells := 0, slots := 0, locals := 0 }) (ld_PM D cI cZ cJ (ld_dW a dk) sz [.ref (a 0)]) (ld_QV D (ld_dW a R) (va_A (ld_dW a dk) sz)) 0 0 ((va_A (ld_dW a dk) sz)) := by
  refine Met.ofW (cc := prog_1_method_16_code) (maxL := 1) (ret := none) (by decide) rfl ?_
  intro p e s m args below meth c s₁ B hml hv
  obtain ⟨rfl, hsz, hP, hK, hD0, hN⟩ := hv
  have hx := B.exec
  have hb := B.bytes
  have hr := B.returns
  have hg : ∀ w ∈ bgT, w.before _ s = true := fun w h => atoms_spec (ws := (Cond.code y_forget prog_1_method_16_code 1 none :: bgT)) B.pre w (List.mem_cons_of_mem _ h)
  have hown : s.vm.findClass "LoanDesk" = some m.cls := findClass_of_methodNamed B.named
  have hlocks := B.notSynchronized
  subst hsz
  have hD := hD0.self (sz := s.heap.size)
  generalize hAe : va_A (ld_dW a dk) s.heap.size = A at hD ⊢
  have hA : ∀ q : Nat, s.heap.size ≤ q → A q := fun q h => by rw [← hAe]; exact Or.inr h
  have hS : va_S A s.heap s.heap [] := va_S.rf
  have hl := lv_entry ([.ref (a 0)]) (n := 1) (Nat.le_of_ble_eq_true rfl)
  rw [lg_entry_eq]
  generalize (lg_sl ([.ref (a 0)]) ++ List.replicate (1 - (lg_sl ([.ref (a 0)])).length) Slot.unset).toArray = ls at hl ⊢
  have hl : lv_has ls 1 [(0, .ref (a 0))] := hl
  refine lv_aload_n hx hb d_forget_0 rfl (lv_at hl 0 rfl) ?_
  refine lv_iconst (v := 0) hx hb d_forget_1 (by decide) ?_
  refine va_put (D := D) (ci := 6) (v := .int 0) (ty := .boolean) (C := "LoanDesk") (T := T_Desk) (N := 7) hx hb hg u_Desk t_Desk tk_Desk n_Desk hown hK hP hD hS 0 rfl rfl 5 (by decide) (hg _ k_114) (fun _ h9 => h9) rfl (by decide +kernel) rfl rfl (Nat.le_of_ble_eq_true rfl) d_forget_2 (fun H locs hP hD hS => ?_)
  have hP : va_P D vwCl (ld_dW a (0, dk.2)) H := hP
  have hD : va_D A (ld_dW a (0, dk.2)) := hD
  refine lv_aload_n hx hb d_forget_5 rfl (lv_at hl 0 rfl) ?_
  refine lv_iconst (v := 0) hx hb d_forget_6 (by decide) ?_
  refine va_put (D := D) (ci := 6) (v := .int 0) (ty := .boolean) (C := "LoanDesk") (T := T_Desk) (N := 7) hx hb hg u_Desk t_Desk tk_Desk n_Desk hown hK hP hD hS 0 rfl rfl 6 (by decide) (hg _ k_115) (fun _ h9 => h9) rfl (by decide +kernel) rfl rfl (Nat.le_of_ble_eq_true rfl) d_forget_7 (fun H locs hP hD hS => ?_)
  have hP : va_P D vwCl (ld_dW a (0, 0)) H := hP
  have hD : va_D A (ld_dW a (0, 0)) := hD
  subst h
  exact W.vret hx hb hr (fun t ht hW => ⟨⟨(), rfl, trivial, by rw [ht]; exact hP, hD⟩, hS.F ht⟩) hS.2.2 d_forget_10
def lm_findWays (N : Nat) (dk : Int32 × Int32) (G : ld_gT) (rc : Nat → Int32) (q : ld_pT) (u : Nat → Int32) : Option ((Int32 × Int32) × (Nat → Int32) × ld_pT × (Nat → Int32)) := if dk.1 = 0 then Option.bind (lm_rfind N G rc q) (fun r_2 => Option.bind (lm_ufind N G u) (fun r_3 => some ((1, dk.2), r_2.1, r_2.2, r_3))) else some (dk, rc, q, u)
set_option maxHeartbeats 4000000 in
set_option maxRecDepth 100000 in
theorem lc_findWays (l : Launch) (D : va_G) (cI cZ cJ : ClassId) (a : Nat → Nat) (dk : Int32 × Int32) (G : ld_gT) (rc : Nat → Int32) (q : ld_pT) (u : Nat → Int32) (sz : Nat) (N : Nat) (R : (Int32 × Int32) × (Nat → Int32) × ld_pT × (Nat → Int32)) (h : lm_findWays N dk G rc q u = some R) : Met l y_findWays (Cond.code y_findWays prog_1_method_17_code 1 none :: bgT) ({ frames := 4, cells := 0, slots := 0, locals := 92 }) (ld_PM D cI cZ cJ (ld_dW a dk ++ ld_gW a cI G ++ ld_rW a cI rc ++ ld_pW (a 10) (a 11) (a 12) cI cZ q ++ ld_uW a cI u) sz [.ref (a 0)]) (ld_QV D (ld_dW a R.1 ++ ld_gW a cI G ++ ld_rW a cI R.2.1 ++ ld_pW (a 10) (a 11) (a 12) cI cZ R.2.2.1 ++ ld_uW a cI R.2.2.2) (va_A (ld_dW a dk ++ ld_gW a cI G ++ ld_rW a cI rc ++ ld_pW (a 10) (a 11) (a 12) cI cZ q ++ ld_uW a cI u) sz)) 0 0 ((va_A (ld_dW a dk ++ ld_gW a cI G ++ ld_rW a cI rc ++ ld_pW (a 10) (a 11) (a 12) cI cZ q ++ ld_uW a cI u) sz)) := by
  refine Met.ofW (cc := prog_1_method_17_code) (maxL := 1) (ret := none) (by decide) rfl ?_
  intro p e s m args below meth c s₁ B hml hv
  obtain ⟨rfl, hsz, hP, hK, hD0, hN⟩ := hv
  have hx := B.exec
  have hb := B.bytes
  have hr := B.returns
  have hg : ∀ w ∈ bgT, w.before _ s = true := fun w h => atoms_spec (ws := (Cond.code y_findWays prog_1_method_17_code 1 none :: bgT)) B.pre w (List.mem_cons_of_mem _ h)
  have hown : s.vm.findClass "LoanDesk" = some m.cls := findClass_of_methodNamed B.named
  have hlocks := B.notSynchronized
  subst hsz
  have hD := hD0.self (sz := s.heap.size)
  generalize hAe : va_A (ld_dW a dk ++ ld_gW a cI G ++ ld_rW a cI rc ++ ld_pW (a 10) (a 11) (a 12) cI cZ q ++ ld_uW a cI u) s.heap.size = A at hD ⊢
  have hA : ∀ q : Nat, s.heap.size ≤ q → A q := fun q h => by rw [← hAe]; exact Or.inr h
  have hS : va_S A s.heap s.heap [] := va_S.rf
  have hl := lv_entry ([.ref (a 0)]) (n := 1) (Nat.le_of_ble_eq_true rfl)
  rw [lg_entry_eq]
  generalize (lg_sl ([.ref (a 0)]) ++ List.replicate (1 - (lg_sl ([.ref (a 0)])).length) Slot.unset).toArray = ls at hl ⊢
  have hl : lv_has ls 1 [(0, .ref (a 0))] := hl
  refine lv_aload_n hx hb d_findWays_0 rfl (lv_at hl 0 rfl) ?_
  refine va_get (D := D) (ci := 6) (v := .int dk.1) (C := "LoanDesk") (T := T_Desk) (N := 7) hx hb hg u_Desk hown hK hP 0 rfl rfl 5 (by decide) (hg _ k_114) (fun _ h9 => h9) rfl d_findWays_1 ?_
  refine lv_if_eq (tgt := 8) hx hb d_findWays_4 (by decide) (fun c_1 => ?_) (fun c_1 => ?_)
  · have h := (if_pos c_1).symm.trans h
    refine lv_aload_n hx hb d_findWays_8 rfl (lv_at hl 0 rfl) ?_
    refine va_get (D := D) (ci := 6) (v := .ref (a 8)) (C := "LoanDesk") (T := T_Desk) (N := 7) hx hb hg u_Desk hown hK hP 0 rfl rfl 1 (by decide) (hg _ k_110) (fun _ h9 => h9) rfl d_findWays_9 ?_
    refine lv_aload_n hx hb d_findWays_12 rfl (lv_at hl 0 rfl) ?_
    refine va_get (D := D) (ci := 6) (v := .ref (a 1)) (C := "LoanDesk") (T := T_Desk) (N := 7) hx hb hg u_Desk hown hK hP 0 rfl rfl 0 (by decide) (hg _ k_109) (fun _ h9 => h9) rfl d_findWays_13 ?_
    obtain ⟨r_2, e_2, h⟩ := ld_ob h
    refine ld_mv (wr := ([0, 13, 14] : List Nat).filterMap (fun i => (ld_dW a dk ++ ld_gW a cI G ++ ld_rW a cI rc ++ ld_pW (a 10) (a 11) (a 12) cI cZ q ++ ld_uW a cI u)[i]?)) (ws2 := ld_dW a dk ++ ld_gW a cI G ++ ld_rW a cI r_2.1 ++ ld_pW (a 10) (a 11) (a 12) cI cZ r_2.2 ++ ld_uW a cI u) (va_runV (As := [.ref (a 1)]) (rest := []) ⟨hx, hb, hml, hown, hg⟩ (lc_rfind l D cI cZ cJ a G rc q _ N r_2 e_2) ⟨callB_of 1 hg (ld_gd k_177) rfl rfl rfl (hg _ k_25) (hg _ k_174) hd_rfind ⟨Nat.le_of_ble_eq_true rfl, Nat.le_of_ble_eq_true rfl⟩, hg _ k_175, hg _ k_176⟩ (ld_preMV hP hK hN hD [1, 2, 3, 4, 5, 6, 7, 8, 9, 10, 11, 12] (by decide) rfl 2 7 rfl rfl) rfl rfl hl.1 rfl (lv_room (Nat.le_of_ble_eq_true rfl)) d_findWays_16 ⟨Nat.zero_le _, Nat.zero_le _⟩) hP hD hS hA [1, 2, 3, 4, 5, 6, 7, 8, 9, 10, 11, 12] [0, 13, 14] [0, 3, 4, 5, 6, 7, 8, 9, 10, 11, 12, 13, 14, 1, 2] rfl rfl (by decide) (by decide) (by decide) rfl (fun H locs hP hD hS => ?_)
    refine lv_aload_n hx hb d_findWays_19 rfl (lv_at hl 0 rfl) ?_
    refine va_get (D := D) (ci := 6) (v := .ref (a 13)) (C := "LoanDesk") (T := T_Desk) (N := 7) hx hb hg u_Desk hown hK hP 0 rfl rfl 2 (by decide) (hg _ k_111) (fun _ h9 => h9) rfl d_findWays_20 ?_
    refine lv_aload_n hx hb d_findWays_23 rfl (lv_at hl 0 rfl) ?_
    refine va_get (D := D) (ci := 6) (v := .ref (a 1)) (C := "LoanDesk") (T := T_Desk) (N := 7) hx hb hg u_Desk hown hK hP 0 rfl rfl 0 (by decide) (hg _ k_109) (fun _ h9 => h9) rfl d_findWays_24 ?_
    obtain ⟨r_3, e_3, h⟩ := ld_ob h
    refine ld_mv (wr := ([0, 8, 9, 10, 11, 12] : List Nat).filterMap (fun i => (ld_dW a dk ++ ld_gW a cI G ++ ld_rW a cI r_2.1 ++ ld_pW (a 10) (a 11) (a 12) cI cZ r_2.2 ++ ld_uW a cI u)[i]?)) (ws2 := ld_dW a dk ++ ld_gW a cI G ++ ld_rW a cI r_2.1 ++ ld_pW (a 10) (a 11) (a 12) cI cZ r_2.2 ++ ld_uW a cI r_3) (va_runV (As := [.ref (a 1)]) (rest := []) ⟨hx, hb, hml, hown, hg⟩ (lc_ufind l D cI cZ cJ a G u _ N r_3 e_3) ⟨callB_of 1 hg (ld_gd k_212) rfl rfl rfl (hg _ k_27) (hg _ k_209) hd_ufind ⟨Nat.le_of_ble_eq_true rfl, Nat.le_of_ble_eq_true rfl⟩, hg _ k_210, hg _ k_211⟩ (ld_preMV hP hK hN hD [1, 2, 3, 4, 5, 6, 7, 13, 14] (by decide) rfl 3 7 rfl rfl) rfl rfl hl.1 rfl (lv_room (Nat.le_of_ble_eq_true rfl)) d_findWays_27 ⟨Nat.zero_le _, Nat.zero_le _⟩) hP hD hS hA [1, 2, 3, 4, 5, 6, 7, 13, 14] [0, 8, 9, 10, 11, 12] [0, 6, 7, 8, 9, 10, 11, 12, 1, 2, 3, 4, 5, 13, 14] rfl rfl (by decide) (by decide) (by decide) rfl (fun H locs hP hD hS => ?_)
    refine lv_aload_n hx hb d_findWays_30 rfl (lv_at hl 0 rfl) ?_
    refine lv_iconst (v := 1) hx hb d_findWays_31 (by decide) ?_
    refine va_put (D := D) (ci := 6) (v := .int 1) (ty := .boolean) (C := "LoanDesk") (T := T_Desk) (N := 7) hx hb hg u_Desk t_Desk tk_Desk n_Desk hown hK hP hD hS 0 rfl rfl 5 (by decide) (hg _ k_114) (fun _ h9 => h9) rfl (by decide +kernel) rfl rfl (Nat.le_of_ble_eq_true rfl) d_findWays_32 (fun H locs hP hD hS => ?_)
    have hP : va_P D vwCl (ld_dW a (1, dk.2) ++ ld_gW a cI G ++ ld_rW a cI r_2.1 ++ ld_pW (a 10) (a 11) (a 12) cI cZ r_2.2 ++ ld_uW a cI r_3) H := hP
    have hD : va_D A (ld_dW a (1, dk.2) ++ ld_gW a cI G ++ ld_rW a cI r_2.1 ++ ld_pW (a 10) (a 11) (a 12) cI cZ r_2.2 ++ ld_uW a cI r_3) := hD
    have h := Option.some.inj h
    subst h
    exact W.vret hx hb hr (fun t ht hW => ⟨⟨(), rfl, trivial, by rw [ht]; exact hP, hD⟩, hS.F ht⟩) hS.2.2 d_findWays_35
  · have h := (if_neg c_1).symm.trans h
    have h := Option.some.inj h
    subst h
    exact W.vret hx hb hr (fun t ht hW => ⟨⟨(), rfl, trivial, by rw [ht]; exact hP, hD⟩, hS.F ht⟩) hS.2.2 d_findWays_7
def ls_addMeet_1 (N : Nat) (G : ld_gT) (u : Nat → Int32) (hh : (Nat → Int32) × (Nat → Int32)) (p0 : Int32) (v1 : Int32 × (Nat → Int64)) : Option ((Int32 × (Nat → Int64)) ⊕ (Int32 × (Nat → Int64))) := ld_lt (lf_gsize G) (fun r_1 => if r_1 ≤ v1.1 then some (.inr (v1.1, v1.2)) else ld_lt (lf_hbehind hh v1.1) (fun r_3 => ld_lt (lf_ubehind u v1.1) (fun r_4 => ld_lt (lf_borrowing G v1.1) (fun r_5 => if ((r_3 &&& r_4) &&& (r_5 ^^^ (-1))) = 0 then some (.inl (v1.1 + 1, v1.2)) else Option.bind (lm_touches N G v1.1 p0) (fun r_7 => if r_7 = 0 then some (.inl (v1.1 + 1, v1.2)) else ld_lt (lf_madd v1.2 v1.1 p0) (fun r_9 => some (.inl (v1.1 + 1, r_9))))))))
def lm_addMeet (N : Nat) (dk : Int32 × Int32) (G : ld_gT) (u : Nat → Int32) (hh : (Nat → Int32) × (Nat → Int32)) (mw : Nat → Int64) (p0 : Int32) : Option ((Nat → Int64)) := Option.bind (ld_it (ls_addMeet_1 N G u hh p0) N (0, mw)) (fun Y1 => some Y1.2)
set_option maxHeartbeats 4000000 in
set_option maxRecDepth 100000 in
theorem lc_addMeet (l : Launch) (D : va_G) (cI cZ cJ : ClassId) (a : Nat → Nat) (dk : Int32 × Int32) (G : ld_gT) (u : Nat → Int32) (hh : (Nat → Int32) × (Nat → Int32)) (mw : Nat → Int64) (p0 : Int32) (sz : Nat) (N : Nat) (R : (Nat → Int64)) (h : lm_addMeet N dk G u hh mw p0 = some R) : Met l y_addMeet (Cond.code y_addMeet prog_1_method_19_code 4 none :: bgT) ({ frames := 3, cells := 0, slots := 0, locals := 68 }) (ld_PM D cI cZ cJ (ld_dW a dk ++ ld_gW a cI G ++ ld_uW a cI u ++ ld_hW a cI hh ++ ld_mW a cJ mw) sz [.ref (a 0), .int p0]) (ld_QV D (ld_dW a dk ++ ld_gW a cI G ++ ld_uW a cI u ++ ld_hW a cI hh ++ ld_mW a cJ R) (va_A (ld_dW a dk ++ ld_gW a cI G ++ ld_uW a cI u ++ ld_hW a cI hh ++ ld_mW a cJ mw) sz)) 0 0 ((va_A (ld_dW a dk ++ ld_gW a cI G ++ ld_uW a cI u ++ ld_hW a cI hh ++ ld_mW a cJ mw) sz)) := by
  refine Met.ofW (cc := prog_1_method_19_code) (maxL := 4) (ret := none) (by decide) rfl ?_
  intro p e s m args below meth c s₁ B hml hv
  obtain ⟨rfl, hsz, hP, hK, hD0, hN⟩ := hv
  have hx := B.exec
  have hb := B.bytes
  have hr := B.returns
  have hg : ∀ w ∈ bgT, w.before _ s = true := fun w h => atoms_spec (ws := (Cond.code y_addMeet prog_1_method_19_code 4 none :: bgT)) B.pre w (List.mem_cons_of_mem _ h)
  have hown : s.vm.findClass "LoanDesk" = some m.cls := findClass_of_methodNamed B.named
  have hlocks := B.notSynchronized
  subst hsz
  have hD := hD0.self (sz := s.heap.size)
  generalize hAe : va_A (ld_dW a dk ++ ld_gW a cI G ++ ld_uW a cI u ++ ld_hW a cI hh ++ ld_mW a cJ mw) s.heap.size = A at hD ⊢
  have hA : ∀ q : Nat, s.heap.size ≤ q → A q := fun q h => by rw [← hAe]; exact Or.inr h
  have hS : va_S A s.heap s.heap [] := va_S.rf
  have hl := lv_entry ([.ref (a 0), .int p0]) (n := 4) (Nat.le_of_ble_eq_true rfl)
  rw [lg_entry_eq]
  generalize (lg_sl ([.ref (a 0), .int p0]) ++ List.replicate (4 - (lg_sl ([.ref (a 0), .int p0])).length) Slot.unset).toArray = ls at hl ⊢
  have hl : lv_has ls 4 [(0, .ref (a 0)), (1, .int p0)] := hl
  refine lv_iconst (v := 0) hx hb d_addMeet_0 (by decide) ?_
  refine lv_istore_n (lv' := [(2, .int 0), (0, .ref (a 0)), (1, .int p0)]) hx hb d_addMeet_1 rfl hl (by decide) rfl (fun ls hl => ?_)
  obtain ⟨Y1, eY1, h⟩ := ld_ob h
  have kont1 : ∀ (H : Heap) (locs : List Loc) (ls : Array Slot), va_P D vwCl (ld_dW a dk ++ ld_gW a cI G ++ ld_uW a cI u ++ ld_hW a cI hh ++ ld_mW a cJ Y1.2) H → va_D A (ld_dW a dk ++ ld_gW a cI G ++ ld_uW a cI u ++ ld_hW a cI hh ++ ld_mW a cJ Y1.2) → va_S A s.heap H locs → lv_has ls 4 [] → W p l e (headSpec (Cond.code y_addMeet prog_1_method_19_code 4 none :: bgT) ({ frames := 3, cells := 0, slots := 0, locals := 68 })).room s m ([.ref (a 0), .int p0] : List Value).toArray below meth c H locs 0 0 (MQ below (ld_QV D (ld_dW a dk ++ ld_gW a cI G ++ ld_uW a cI u ++ ld_hW a cI hh ++ ld_mW a cJ R) A) ([.ref (a 0), .int p0] : List Value).toArray s 0 0 (A)) (F0 m 73 ls []) := by
    intro H locs ls hP hD hS hl
    have h := Option.some.inj h
    subst h
    exact W.vret hx hb hr (fun t ht hW => ⟨⟨(), rfl, trivial, by rw [ht]; exact hP, hD⟩, hS.F ht⟩) hS.2.2 d_addMeet_73
  have key1 : ∀ (n : Nat) (v1 : Int32 × (Nat → Int64)) (H : Heap) (locs : List Loc) (ls : Array Slot), ld_it (ls_addMeet_1 N G u hh p0) n v1 = some Y1 → va_P D vwCl (ld_dW a dk ++ ld_gW a cI G ++ ld_uW a cI u ++ ld_hW a cI hh ++ ld_mW a cJ v1.2) H → va_D A (ld_dW a dk ++ ld_gW a cI G ++ ld_uW a cI u ++ ld_hW a cI hh ++ ld_mW a cJ v1.2) → va_S A s.heap H locs → lv_has ls 4 [(0, .ref (a 0)), (1, .int p0), (2, .int v1.1)] → W p l e (headSpec (Cond.code y_addMeet prog_1_method_19_code 4 none :: bgT) ({ frames := 3, cells := 0, slots := 0, locals := 68 })).room s m ([.ref (a 0), .int p0] : List Value).toArray below meth c H locs 0 0 (MQ below (ld_QV D (ld_dW a dk ++ ld_gW a cI G ++ ld_uW a cI u ++ ld_hW a cI hh ++ ld_mW a cJ R) A) ([.ref (a 0), .int p0] : List Value).toArray s 0 0 (A)) (F0 m 2 ls []) := by
    intro n
    induction n with
    | zero => intro v1 H locs ls g1 hP hD hS hl; cases g1
    | succ n ih1 =>
      intro v1 H locs ls g1 hP hD hS hl
      obtain ⟨z1, hy1, g1⟩ := ld_its g1
      refine lv_iload_n hx hb d_addMeet_2 rfl (lv_at hl 2 rfl) ?_
      refine lv_aload_n hx hb d_addMeet_3 rfl (lv_at hl 0 rfl) ?_
      refine va_get (D := D) (ci := 6) (v := .ref (a 1)) (C := "LoanDesk") (T := T_Desk) (N := 7) hx hb hg u_Desk hown hK hP 0 rfl rfl 0 (by decide) (hg _ k_109) (fun _ h9 => h9) rfl d_addMeet_4 ?_
      obtain ⟨r_1, e_1, hy1⟩ := ld_nm hy1
      refine ld_rd (W.runV (As := []) (rest := [.int v1.1]) ⟨hx, hb, hml, hown, hg⟩ (lc_gsize l D cI cZ cJ a G r_1 e_1) ⟨callB_of 0 hg (ld_gd k_220) rfl rfl rfl (hg _ k_24) (hg _ k_296) hd_gsize ⟨Nat.le_of_ble_eq_true rfl, Nat.le_of_ble_eq_true rfl⟩, hg _ k_218, hg _ k_219⟩ (ld_preRV hP hK hN [1, 2, 3, 4, 5, 6, 7] rfl 0 0 rfl rfl) rfl rfl hl.1 rfl (lv_room (Nat.le_of_ble_eq_true rfl)) d_addMeet_7 ⟨Nat.zero_le _, Nat.zero_le _⟩) ?_
      refine lv_icmp_ge (tgt := 73) hx hb d_addMeet_10 (by decide) (fun c_2 => ?_) (fun c_2 => ?_)
      · have hy1 := (if_pos c_2).symm.trans hy1
        obtain rfl := Option.some.inj hy1
        obtain rfl := Option.some.inj g1
        exact kont1 _ _ _ hP hD hS (lv_sub hl [] rfl)
      · have hy1 := (if_neg c_2).symm.trans hy1
        refine lv_aload_n hx hb d_addMeet_13 rfl (lv_at hl 0 rfl) ?_
        refine va_get (D := D) (ci := 6) (v := .ref (a 15)) (C := "LoanDesk") (T := T_Desk) (N := 7) hx hb hg u_Desk hown hK hP 0 rfl rfl 3 (by decide) (hg _ k_112) (fun _ h9 => h9) rfl d_addMeet_14 ?_
        refine lv_iload_n hx hb d_addMeet_17 rfl (lv_at hl 2 rfl) ?_
        obtain ⟨r_3, e_3, hy1⟩ := ld_nm hy1
        refine ld_rd (W.runV (As := [.int v1.1]) (rest := []) ⟨hx, hb, hml, hown, hg⟩ (lc_hbehind l D cI cZ cJ a hh v1.1 r_3 e_3) ⟨callB_of 1 hg (ld_gd k_270) rfl rfl rfl (hg _ k_28) (hg _ k_267) hd_hbehind ⟨Nat.le_of_ble_eq_true rfl, Nat.le_of_ble_eq_true rfl⟩, hg _ k_268, hg _ k_269⟩ (ld_preRV hP hK hN [10, 11, 12] rfl 4 0 rfl rfl) rfl rfl hl.1 rfl (lv_room (Nat.le_of_ble_eq_true rfl)) d_addMeet_18 ⟨Nat.zero_le _, Nat.zero_le _⟩) ?_
        refine lv_aload_n hx hb d_addMeet_21 rfl (lv_at hl 0 rfl) ?_
        refine va_get (D := D) (ci := 6) (v := .ref (a 13)) (C := "LoanDesk") (T := T_Desk) (N := 7) hx hb hg u_Desk hown hK hP 0 rfl rfl 2 (by decide) (hg _ k_111) (fun _ h9 => h9) rfl d_addMeet_22 ?_
        refine lv_iload_n hx hb d_addMeet_25 rfl (lv_at hl 2 rfl) ?_
        obtain ⟨r_4, e_4, hy1⟩ := ld_nm hy1
        refine ld_rd (W.runV (As := [.int v1.1]) (rest := [.int r_3]) ⟨hx, hb, hml, hown, hg⟩ (lc_ubehind l D cI cZ cJ a u v1.1 r_4 e_4) ⟨callB_of 1 hg (ld_gd k_229) rfl rfl rfl (hg _ k_27) (hg _ k_275) hd_ubehind ⟨Nat.le_of_ble_eq_true rfl, Nat.le_of_ble_eq_true rfl⟩, hg _ k_227, hg _ k_228⟩ (ld_preRV hP hK hN [8, 9] rfl 3 0 rfl rfl) rfl rfl hl.1 rfl (lv_room (Nat.le_of_ble_eq_true rfl)) d_addMeet_26 ⟨Nat.zero_le _, Nat.zero_le _⟩) ?_
        refine lv_iand hx hb d_addMeet_29 ?_
        refine lv_aload_n hx hb d_addMeet_30 rfl (lv_at hl 0 rfl) ?_
        refine va_get (D := D) (ci := 6) (v := .ref (a 1)) (C := "LoanDesk") (T := T_Desk) (N := 7) hx hb hg u_Desk hown hK hP 0 rfl rfl 0 (by decide) (hg _ k_109) (fun _ h9 => h9) rfl d_addMeet_31 ?_
        refine lv_iload_n hx hb d_addMeet_34 rfl (lv_at hl 2 rfl) ?_
        obtain ⟨r_5, e_5, hy1⟩ := ld_nm hy1
        refine ld_rd (W.runV (As := [.int v1.1]) (rest := [.int (r_3 &&& r_4)]) ⟨hx, hb, hml, hown, hg⟩ (lc_borrowing l D cI cZ cJ a G v1.1 r_5 e_5) ⟨callB_of 1 hg (ld_gd k_303) rfl rfl rfl (hg _ k_24) (hg _ k_300) hd_borrowing ⟨Nat.le_of_ble_eq_true rfl, Nat.le_of_ble_eq_true rfl⟩, hg _ k_301, hg _ k_302⟩ (ld_preRV hP hK hN [1, 2, 3, 4, 5, 6, 7] rfl 0 0 rfl rfl) rfl rfl hl.1 rfl (lv_room (Nat.le_of_ble_eq_true rfl)) d_addMeet_35 ⟨Nat.zero_le _, Nat.zero_le _⟩) ?_
        refine lv_iconst (v := (-1)) hx hb d_addMeet_38 (by decide) ?_
        refine lv_ixor hx hb d_addMeet_39 ?_
        refine lv_iand hx hb d_addMeet_40 ?_
        refine lv_istore_n (lv' := [(3, .int ((r_3 &&& r_4) &&& (r_5 ^^^ (-1)))), (0, .ref (a 0)), (1, .int p0), (2, .int v1.1)]) hx hb d_addMeet_41 rfl hl (by decide) rfl (fun ls hl => ?_)
        refine lv_iload_n hx hb d_addMeet_42 rfl (lv_at hl 0 rfl) ?_
        refine lv_if_eq (tgt := 67) hx hb d_addMeet_43 (by decide) (fun c_6 => ?_) (fun c_6 => ?_)
        · have hy1 := (if_pos c_6).symm.trans hy1
          refine lv_iinc (v := v1.1 + 1) (lv' := [(2, .int (v1.1 + 1)), (3, .int ((r_3 &&& r_4) &&& (r_5 ^^^ (-1)))), (0, .ref (a 0)), (1, .int p0)]) hx hb d_addMeet_67 hl (k := 3) rfl rfl (by decide) rfl (fun ls hl => ?_)
          refine lv_goto (tgt := 2) hx hb d_addMeet_70 (by decide) ?_
          obtain rfl := Option.some.inj hy1
          exact ih1 (v1.1 + 1, v1.2) _ _ _ g1 hP hD hS (lv_sub hl [2, 3, 0] rfl)
        · have hy1 := (if_neg c_6).symm.trans hy1
          refine lv_aload_n hx hb d_addMeet_46 rfl (lv_at hl 1 rfl) ?_
          refine va_get (D := D) (ci := 6) (v := .ref (a 1)) (C := "LoanDesk") (T := T_Desk) (N := 7) hx hb hg u_Desk hown hK hP 0 rfl rfl 0 (by decide) (hg _ k_109) (fun _ h9 => h9) rfl d_addMeet_47 ?_
          refine lv_iload_n hx hb d_addMeet_50 rfl (lv_at hl 3 rfl) ?_
          refine lv_iload_n hx hb d_addMeet_51 rfl (lv_at hl 2 rfl) ?_
          obtain ⟨r_7, e_7, hy1⟩ := ld_ob hy1
          refine ld_rd (W.runV (As := [.int v1.1, .int p0]) (rest := []) ⟨hx, hb, hml, hown, hg⟩ (lc_touches l D cI cZ cJ a G v1.1 p0 N r_7 e_7) ⟨callB_of 2 hg (ld_gd k_308) rfl rfl rfl (hg _ k_24) (hg _ k_305) hd_touches ⟨Nat.le_of_ble_eq_true rfl, Nat.le_of_ble_eq_true rfl⟩, hg _ k_306, hg _ k_307⟩ (ld_preRV hP hK hN [1, 2, 3, 4, 5, 6, 7] rfl 0 0 rfl rfl) rfl rfl hl.1 rfl (lv_room (Nat.le_of_ble_eq_true rfl)) d_addMeet_52 ⟨Nat.zero_le _, Nat.zero_le _⟩) ?_
          refine lv_if_eq (tgt := 67) hx hb d_addMeet_55 (by decide) (fun c_8 => ?_) (fun c_8 => ?_)
          · have hy1 := (if_pos c_8).symm.trans hy1
            refine lv_iinc (v := v1.1 + 1) (lv' := [(2, .int (v1.1 + 1)), (3, .int ((r_3 &&& r_4) &&& (r_5 ^^^ (-1)))), (0, .ref (a 0)), (1, .int p0)]) hx hb d_addMeet_67 hl (k := 3) rfl rfl (by decide) rfl (fun ls hl => ?_)
            refine lv_goto (tgt := 2) hx hb d_addMeet_70 (by decide) ?_
            obtain rfl := Option.some.inj hy1
            exact ih1 (v1.1 + 1, v1.2) _ _ _ g1 hP hD hS (lv_sub hl [2, 3, 0] rfl)
          · have hy1 := (if_neg c_8).symm.trans hy1
            refine lv_aload_n hx hb d_addMeet_58 rfl (lv_at hl 1 rfl) ?_
            refine va_get (D := D) (ci := 6) (v := .ref (a 21)) (C := "LoanDesk") (T := T_Desk) (N := 7) hx hb hg u_Desk hown hK hP 0 rfl rfl 4 (by decide) (hg _ k_113) (fun _ h9 => h9) rfl d_addMeet_59 ?_
            refine lv_iload_n hx hb d_addMeet_62 rfl (lv_at hl 3 rfl) ?_
            refine lv_iload_n hx hb d_addMeet_63 rfl (lv_at hl 2 rfl) ?_
            obtain ⟨r_9, e_9, hy1⟩ := ld_nm hy1
            refine ld_mv (wr := ([0, 1, 2, 3, 4, 5, 6, 7, 8, 9, 10, 11, 12] : List Nat).filterMap (fun i => (ld_dW a dk ++ ld_gW a cI G ++ ld_uW a cI u ++ ld_hW a cI hh ++ ld_mW a cJ v1.2)[i]?)) (ws2 := ld_dW a dk ++ ld_gW a cI G ++ ld_uW a cI u ++ ld_hW a cI hh ++ ld_mW a cJ r_9) (va_runV (As := [.int v1.1, .int p0]) (rest := []) ⟨hx, hb, hml, hown, hg⟩ (lc_madd l D cI cZ cJ a v1.2 v1.1 p0 _ r_9 e_9) ⟨callB_of 2 hg (ld_gd k_325) rfl rfl rfl (hg _ k_29) (hg _ k_322) hd_madd ⟨Nat.le_of_ble_eq_true rfl, Nat.le_of_ble_eq_true rfl⟩, hg _ k_323, hg _ k_324⟩ (ld_preMV hP hK hN hD [13, 14] (by decide) rfl 5 0 rfl rfl) rfl rfl hl.1 rfl (lv_room (Nat.le_of_ble_eq_true rfl)) d_addMeet_64 ⟨Nat.zero_le _, Nat.zero_le _⟩) hP hD hS hA [13, 14] [0, 1, 2, 3, 4, 5, 6, 7, 8, 9, 10, 11, 12] [0, 1, 2, 3, 4, 5, 6, 7, 8, 9, 10, 11, 12, 13, 14] rfl rfl (by decide) (by decide) (by decide) rfl (fun H locs hP hD hS => ?_)
            refine lv_iinc (v := v1.1 + 1) (lv' := [(2, .int (v1.1 + 1)), (3, .int ((r_3 &&& r_4) &&& (r_5 ^^^ (-1)))), (0, .ref (a 0)), (1, .int p0)]) hx hb d_addMeet_67 hl (k := 3) rfl rfl (by decide) rfl (fun ls hl => ?_)
            refine lv_goto (tgt := 2) hx hb d_addMeet_70 (by decide) ?_
            obtain rfl := Option.some.inj hy1
            exact ih1 (v1.1 + 1, r_9) _ _ _ g1 hP hD hS (lv_sub hl [2, 3, 0] rfl)
  exact key1 N (0, mw) _ _ _ eY1 hP hD hS (lv_sub hl [1, 2, 0] rfl)
def ls_findMeet_1 (N : Nat) (G : ld_gT) (v1 : Int32 × (Int32 × Int32) × (Nat → Int32) × ld_pT × (Nat → Int32) × ((Nat → Int32) × (Nat → Int32)) × ld_pT × (Nat → Int64)) : Option ((Int32 × (Int32 × Int32) × (Nat → Int32) × ld_pT × (Nat → Int32) × ((Nat → Int32) × (Nat → Int32)) × ld_pT × (Nat → Int64)) ⊕ (Int32 × (Int32 × Int32) × (Nat → Int32) × ld_pT × (Nat → Int32) × ((Nat → Int32) × (Nat → Int32)) × ld_pT × (Nat → Int64))) := ld_lt (lf_gsize G) (fun r_4 => if r_4 ≤ v1.1 then some (.inr (v1.1, v1.2.1, v1.2.2.1, v1.2.2.2.1, v1.2.2.2.2.1, v1.2.2.2.2.2.1, v1.2.2.2.2.2.2.1, v1.2.2.2.2.2.2.2)) else ld_lt (lf_isLoan G v1.1) (fun r_6 => if r_6 = 0 then some (.inl (v1.1 + 1, v1.2.1, v1.2.2.1, v1.2.2.2.1, v1.2.2.2.2.1, v1.2.2.2.2.2.1, v1.2.2.2.2.2.2.1, v1.2.2.2.2.2.2.2)) else ld_lt (lf_comesTo v1.2.2.1 v1.1) (fun r_8 => if r_8 = 0 then some (.inl (v1.1 + 1, v1.2.1, v1.2.2.1, v1.2.2.2.1, v1.2.2.2.2.1, v1.2.2.2.2.2.1, v1.2.2.2.2.2.2.1, v1.2.2.2.2.2.2.2)) else Option.bind (lm_follow N G v1.2.2.2.2.2.1 v1.2.2.2.2.2.2.1 v1.1) (fun r_10 => Option.bind (lm_addMeet N v1.2.1 G v1.2.2.2.2.1 r_10.1 v1.2.2.2.2.2.2.2 v1.1) (fun r_11 => some (.inl (v1.1 + 1, v1.2.1, v1.2.2.1, v1.2.2.2.1, v1.2.2.2.2.1, r_10.1, r_10.2, r_11)))))))
def lm_findMeet (N : Nat) (dk : Int32 × Int32) (G : ld_gT) (rc : Nat → Int32) (q : ld_pT) (u : Nat → Int32) (hh : (Nat → Int32) × (Nat → Int32)) (qq : ld_pT) (mw : Nat → Int64) : Option ((Int32 × Int32) × (Nat → Int32) × ld_pT × (Nat → Int32) × ((Nat → Int32) × (Nat → Int32)) × ld_pT × (Nat → Int64)) := if dk.2 = 0 then (Option.bind (lm_findWays N dk G rc q u) (fun r_2 => ld_lt (lf_mempty mw) (fun r_3 => Option.bind (ld_it (ls_findMeet_1 N G) N (0, r_2.1, r_2.2.1, r_2.2.2.1, r_2.2.2.2, hh, qq, r_3)) (fun Y1 => some ((Y1.2.1.1, 1), Y1.2.2.1, Y1.2.2.2.1, Y1.2.2.2.2.1, Y1.2.2.2.2.2.1, Y1.2.2.2.2.2.2.1, Y1.2.2.2.2.2.2.2))))) else some (dk, rc, q, u, hh, qq, mw)
set_option maxHeartbeats 4000000 in
set_option maxRecDepth 100000 in
theorem lc_findMeet (l : Launch) (D : va_G) (cI cZ cJ : ClassId) (a : Nat → Nat) (dk : Int32 × Int32) (G : ld_gT) (rc : Nat → Int32) (q : ld_pT) (u : Nat → Int32) (hh : (Nat → Int32) × (Nat → Int32)) (qq : ld_pT) (mw : Nat → Int64) (sz : Nat) (N : Nat) (R : (Int32 × Int32) × (Nat → Int32) × ld_pT × (Nat → Int32) × ((Nat → Int32) × (Nat → Int32)) × ld_pT × (Nat → Int64)) (h : lm_findMeet N dk G rc q u hh qq mw = some R) : Met l y_findMeet (Cond.code y_findMeet prog_1_method_18_code 2 none :: bgT) ({ frames := 5, cells := 0, slots := 0, locals := 112 }) (ld_PM D cI cZ cJ (ld_dW a dk ++ ld_gW a cI G ++ ld_rW a cI rc ++ ld_pW (a 10) (a 11) (a 12) cI cZ q ++ ld_uW a cI u ++ ld_hW a cI hh ++ ld_pW (a 18) (a 19) (a 20) cI cZ qq ++ ld_mW a cJ mw) sz [.ref (a 0)]) (ld_QV D (ld_dW a R.1 ++ ld_gW a cI G ++ ld_rW a cI R.2.1 ++ ld_pW (a 10) (a 11) (a 12) cI cZ R.2.2.1 ++ ld_uW a cI R.2.2.2.1 ++ ld_hW a cI R.2.2.2.2.1 ++ ld_pW (a 18) (a 19) (a 20) cI cZ R.2.2.2.2.2.1 ++ ld_mW a cJ R.2.2.2.2.2.2) (va_A (ld_dW a dk ++ ld_gW a cI G ++ ld_rW a cI rc ++ ld_pW (a 10) (a 11) (a 12) cI cZ q ++ ld_uW a cI u ++ ld_hW a cI hh ++ ld_pW (a 18) (a 19) (a 20) cI cZ qq ++ ld_mW a cJ mw) sz)) 0 0 ((va_A (ld_dW a dk ++ ld_gW a cI G ++ ld_rW a cI rc ++ ld_pW (a 10) (a 11) (a 12) cI cZ q ++ ld_uW a cI u ++ ld_hW a cI hh ++ ld_pW (a 18) (a 19) (a 20) cI cZ qq ++ ld_mW a cJ mw) sz)) := by
  refine Met.ofW (cc := prog_1_method_18_code) (maxL := 2) (ret := none) (by decide) rfl ?_
  intro p e s m args below meth c s₁ B hml hv
  obtain ⟨rfl, hsz, hP, hK, hD0, hN⟩ := hv
  have hx := B.exec
  have hb := B.bytes
  have hr := B.returns
  have hg : ∀ w ∈ bgT, w.before _ s = true := fun w h => atoms_spec (ws := (Cond.code y_findMeet prog_1_method_18_code 2 none :: bgT)) B.pre w (List.mem_cons_of_mem _ h)
  have hown : s.vm.findClass "LoanDesk" = some m.cls := findClass_of_methodNamed B.named
  have hlocks := B.notSynchronized
  subst hsz
  have hD := hD0.self (sz := s.heap.size)
  generalize hAe : va_A (ld_dW a dk ++ ld_gW a cI G ++ ld_rW a cI rc ++ ld_pW (a 10) (a 11) (a 12) cI cZ q ++ ld_uW a cI u ++ ld_hW a cI hh ++ ld_pW (a 18) (a 19) (a 20) cI cZ qq ++ ld_mW a cJ mw) s.heap.size = A at hD ⊢
  have hA : ∀ q : Nat, s.heap.size ≤ q → A q := fun q h => by rw [← hAe]; exact Or.inr h
  have hS : va_S A s.heap s.heap [] := va_S.rf
  have hl := lv_entry ([.ref (a 0)]) (n := 2) (Nat.le_of_ble_eq_true rfl)
  rw [lg_entry_eq]
  generalize (lg_sl ([.ref (a 0)]) ++ List.replicate (2 - (lg_sl ([.ref (a 0)])).length) Slot.unset).toArray = ls at hl ⊢
  have hl : lv_has ls 2 [(0, .ref (a 0))] := hl
  refine lv_aload_n hx hb d_findMeet_0 rfl (lv_at hl 0 rfl) ?_
  refine va_get (D := D) (ci := 6) (v := .int dk.2) (C := "LoanDesk") (T := T_Desk) (N := 7) hx hb hg u_Desk hown hK hP 0 rfl rfl 6 (by decide) (hg _ k_115) (fun _ h9 => h9) rfl d_findMeet_1 ?_
  refine lv_if_eq (tgt := 8) hx hb d_findMeet_4 (by decide) (fun c_1 => ?_) (fun c_1 => ?_)
  · have h := (if_pos c_1).symm.trans h
    refine lv_aload_n hx hb d_findMeet_8 rfl (lv_at hl 0 rfl) ?_
    obtain ⟨r_2, e_2, h⟩ := ld_ob h
    refine ld_mv (wr := ([15, 16, 17, 18, 19, 20, 21, 22] : List Nat).filterMap (fun i => (ld_dW a dk ++ ld_gW a cI G ++ ld_rW a cI rc ++ ld_pW (a 10) (a 11) (a 12) cI cZ q ++ ld_uW a cI u ++ ld_hW a cI hh ++ ld_pW (a 18) (a 19) (a 20) cI cZ qq ++ ld_mW a cJ mw)[i]?)) (ws2 := ld_dW a r_2.1 ++ ld_gW a cI G ++ ld_rW a cI r_2.2.1 ++ ld_pW (a 10) (a 11) (a 12) cI cZ r_2.2.2.1 ++ ld_uW a cI r_2.2.2.2 ++ ld_hW a cI hh ++ ld_pW (a 18) (a 19) (a 20) cI cZ qq ++ ld_mW a cJ mw) (va_runV (As := []) (rest := []) ⟨hx, hb, hml, hown, hg⟩ (lc_findWays l D cI cZ cJ a dk G rc q u _ N r_2 e_2) ⟨callB_of 0 hg (ld_gd k_173) rfl rfl rfl (hg _ k_23) (hg _ k_171) hd_findWays ⟨Nat.le_of_ble_eq_true rfl, Nat.le_of_ble_eq_true rfl⟩, hg _ k_172, hg _ k_1⟩ (ld_preMV hP hK hN hD [0, 1, 2, 3, 4, 5, 6, 7, 8, 9, 10, 11, 12, 13, 14] (by decide) rfl 6 0 rfl rfl) rfl rfl hl.1 rfl (lv_room (Nat.le_of_ble_eq_true rfl)) d_findMeet_9 ⟨Nat.zero_le _, Nat.zero_le _⟩) hP hD hS hA [0, 1, 2, 3, 4, 5, 6, 7, 8, 9, 10, 11, 12, 13, 14] [15, 16, 17, 18, 19, 20, 21, 22] [8, 9, 10, 11, 12, 13, 14, 15, 16, 17, 18, 19, 20, 21, 22, 0, 1, 2, 3, 4, 5, 6, 7] rfl rfl (by decide) (by decide) (by decide) rfl (fun H locs hP hD hS => ?_)
    refine lv_aload_n hx hb d_findMeet_12 rfl (lv_at hl 0 rfl) ?_
    refine va_get (D := D) (ci := 6) (v := .ref (a 21)) (C := "LoanDesk") (T := T_Desk) (N := 7) hx hb hg u_Desk hown hK hP 0 rfl rfl 4 (by decide) (hg _ k_113) (fun _ h9 => h9) rfl d_findMeet_13 ?_
    obtain ⟨r_3, e_3, h⟩ := ld_nm h
    refine ld_mv (wr := ([0, 1, 2, 3, 4, 5, 6, 7, 8, 9, 10, 11, 12, 13, 14, 15, 16, 17, 18, 19, 20] : List Nat).filterMap (fun i => (ld_dW a r_2.1 ++ ld_gW a cI G ++ ld_rW a cI r_2.2.1 ++ ld_pW (a 10) (a 11) (a 12) cI cZ r_2.2.2.1 ++ ld_uW a cI r_2.2.2.2 ++ ld_hW a cI hh ++ ld_pW (a 18) (a 19) (a 20) cI cZ qq ++ ld_mW a cJ mw)[i]?)) (ws2 := ld_dW a r_2.1 ++ ld_gW a cI G ++ ld_rW a cI r_2.2.1 ++ ld_pW (a 10) (a 11) (a 12) cI cZ r_2.2.2.1 ++ ld_uW a cI r_2.2.2.2 ++ ld_hW a cI hh ++ ld_pW (a 18) (a 19) (a 20) cI cZ qq ++ ld_mW a cJ r_3) (va_runV (As := []) (rest := []) ⟨hx, hb, hml, hown, hg⟩ (lc_mempty l D cI cZ cJ a mw _ r_3 e_3) ⟨callB_of 0 hg (ld_gd k_292) rfl rfl rfl (hg _ k_29) (hg _ k_289) hd_mempty ⟨Nat.le_of_ble_eq_true rfl, Nat.le_of_ble_eq_true rfl⟩, hg _ k_290, hg _ k_291⟩ (ld_preMV hP hK hN hD [21, 22] (by decide) rfl 5 0 rfl rfl) rfl rfl hl.1 rfl (lv_room (Nat.le_of_ble_eq_true rfl)) d_findMeet_16 ⟨Nat.zero_le _, Nat.zero_le _⟩) hP hD hS hA [21, 22] [0, 1, 2, 3, 4, 5, 6, 7, 8, 9, 10, 11, 12, 13, 14, 15, 16, 17, 18, 19, 20] [0, 1, 2, 3, 4, 5, 6, 7, 8, 9, 10, 11, 12, 13, 14, 15, 16, 17, 18, 19, 20, 21, 22] rfl rfl (by decide) (by decide) (by decide) rfl (fun H locs hP hD hS => ?_)
    refine lv_iconst (v := 0) hx hb d_findMeet_19 (by decide) ?_
    refine lv_istore_n (lv' := [(1, .int 0), (0, .ref (a 0))]) hx hb d_findMeet_20 rfl hl (by decide) rfl (fun ls hl => ?_)
    obtain ⟨Y1, eY1, h⟩ := ld_ob h
    have kont1 : ∀ (H : Heap) (locs : List Loc) (ls : Array Slot), va_P D vwCl (ld_dW a Y1.2.1 ++ ld_gW a cI G ++ ld_rW a cI Y1.2.2.1 ++ ld_pW (a 10) (a 11) (a 12) cI cZ Y1.2.2.2.1 ++ ld_uW a cI Y1.2.2.2.2.1 ++ ld_hW a cI Y1.2.2.2.2.2.1 ++ ld_pW (a 18) (a 19) (a 20) cI cZ Y1.2.2.2.2.2.2.1 ++ ld_mW a cJ Y1.2.2.2.2.2.2.2) H → va_D A (ld_dW a Y1.2.1 ++ ld_gW a cI G ++ ld_rW a cI Y1.2.2.1 ++ ld_pW (a 10) (a 11) (a 12) cI cZ Y1.2.2.2.1 ++ ld_uW a cI Y1.2.2.2.2.1 ++ ld_hW a cI Y1.2.2.2.2.2.1 ++ ld_pW (a 18) (a 19) (a 20) cI cZ Y1.2.2.2.2.2.2.1 ++ ld_mW a cJ Y1.2.2.2.2.2.2.2) → va_S A s.heap H locs → lv_has ls 2 [(0, .ref (a 0))] → W p l e (headSpec (Cond.code y_findMeet prog_1_method_18_code 2 none :: bgT) ({ frames := 5, cells := 0, slots := 0, locals := 112 })).room s m ([.ref (a 0)] : List Value).toArray below meth c H locs 0 0 (MQ below (ld_QV D (ld_dW a R.1 ++ ld_gW a cI G ++ ld_rW a cI R.2.1 ++ ld_pW (a 10) (a 11) (a 12) cI cZ R.2.2.1 ++ ld_uW a cI R.2.2.2.1 ++ ld_hW a cI R.2.2.2.2.1 ++ ld_pW (a 18) (a 19) (a 20) cI cZ R.2.2.2.2.2.1 ++ ld_mW a cJ R.2.2.2.2.2.2) A) ([.ref (a 0)] : List Value).toArray s 0 0 (A)) (F0 m 77 ls []) := by
      intro H locs ls hP hD hS hl
      refine lv_aload_n hx hb d_findMeet_77 rfl (lv_at hl 0 rfl) ?_
      refine lv_iconst (v := 1) hx hb d_findMeet_78 (by decide) ?_
      refine va_put (D := D) (ci := 6) (v := .int 1) (ty := .boolean) (C := "LoanDesk") (T := T_Desk) (N := 7) hx hb hg u_Desk t_Desk tk_Desk n_Desk hown hK hP hD hS 0 rfl rfl 6 (by decide) (hg _ k_115) (fun _ h9 => h9) rfl (by decide +kernel) rfl rfl (Nat.le_of_ble_eq_true rfl) d_findMeet_79 (fun H locs hP hD hS => ?_)
      have hP : va_P D vwCl (ld_dW a (Y1.2.1.1, 1) ++ ld_gW a cI G ++ ld_rW a cI Y1.2.2.1 ++ ld_pW (a 10) (a 11) (a 12) cI cZ Y1.2.2.2.1 ++ ld_uW a cI Y1.2.2.2.2.1 ++ ld_hW a cI Y1.2.2.2.2.2.1 ++ ld_pW (a 18) (a 19) (a 20) cI cZ Y1.2.2.2.2.2.2.1 ++ ld_mW a cJ Y1.2.2.2.2.2.2.2) H := hP
      have hD : va_D A (ld_dW a (Y1.2.1.1, 1) ++ ld_gW a cI G ++ ld_rW a cI Y1.2.2.1 ++ ld_pW (a 10) (a 11) (a 12) cI cZ Y1.2.2.2.1 ++ ld_uW a cI Y1.2.2.2.2.1 ++ ld_hW a cI Y1.2.2.2.2.2.1 ++ ld_pW (a 18) (a 19) (a 20) cI cZ Y1.2.2.2.2.2.2.1 ++ ld_mW a cJ Y1.2.2.2.2.2.2.2) := hD
      have h := Option.some.inj h
      subst h
      exact W.vret hx hb hr (fun t ht hW => ⟨⟨(), rfl, trivial, by rw [ht]; exact hP, hD⟩, hS.F ht⟩) hS.2.2 d_findMeet_82
    have key1 : ∀ (n : Nat) (v1 : Int32 × (Int32 × Int32) × (Nat → Int32) × ld_pT × (Nat → Int32) × ((Nat → Int32) × (Nat → Int32)) × ld_pT × (Nat → Int64)) (H : Heap) (locs : List Loc) (ls : Array Slot), ld_it (ls_findMeet_1 N G) n v1 = some Y1 → va_P D vwCl (ld_dW a v1.2.1 ++ ld_gW a cI G ++ ld_rW a cI v1.2.2.1 ++ ld_pW (a 10) (a 11) (a 12) cI cZ v1.2.2.2.1 ++ ld_uW a cI v1.2.2.2.2.1 ++ ld_hW a cI v1.2.2.2.2.2.1 ++ ld_pW (a 18) (a 19) (a 20) cI cZ v1.2.2.2.2.2.2.1 ++ ld_mW a cJ v1.2.2.2.2.2.2.2) H → va_D A (ld_dW a v1.2.1 ++ ld_gW a cI G ++ ld_rW a cI v1.2.2.1 ++ ld_pW (a 10) (a 11) (a 12) cI cZ v1.2.2.2.1 ++ ld_uW a cI v1.2.2.2.2.1 ++ ld_hW a cI v1.2.2.2.2.2.1 ++ ld_pW (a 18) (a 19) (a 20) cI cZ v1.2.2.2.2.2.2.1 ++ ld_mW a cJ v1.2.2.2.2.2.2.2) → va_S A s.heap H locs → lv_has ls 2 [(0, .ref (a 0)), (1, .int v1.1)] → W p l e (headSpec (Cond.code y_findMeet prog_1_method_18_code 2 none :: bgT) ({ frames := 5, cells := 0, slots := 0, locals := 112 })).room s m ([.ref (a 0)] : List Value).toArray below meth c H locs 0 0 (MQ below (ld_QV D (ld_dW a R.1 ++ ld_gW a cI G ++ ld_rW a cI R.2.1 ++ ld_pW (a 10) (a 11) (a 12) cI cZ R.2.2.1 ++ ld_uW a cI R.2.2.2.1 ++ ld_hW a cI R.2.2.2.2.1 ++ ld_pW (a 18) (a 19) (a 20) cI cZ R.2.2.2.2.2.1 ++ ld_mW a cJ R.2.2.2.2.2.2) A) ([.ref (a 0)] : List Value).toArray s 0 0 (A)) (F0 m 21 ls []) := by
      intro n
      induction n with
      | zero => intro v1 H locs ls g1 hP hD hS hl; cases g1
      | succ n ih1 =>
        intro v1 H locs ls g1 hP hD hS hl
        obtain ⟨z1, hy1, g1⟩ := ld_its g1
        refine lv_iload_n hx hb d_findMeet_21 rfl (lv_at hl 1 rfl) ?_
        refine lv_aload_n hx hb d_findMeet_22 rfl (lv_at hl 0 rfl) ?_
        refine va_get (D := D) (ci := 6) (v := .ref (a 1)) (C := "LoanDesk") (T := T_Desk) (N := 7) hx hb hg u_Desk hown hK hP 0 rfl rfl 0 (by decide) (hg _ k_109) (fun _ h9 => h9) rfl d_findMeet_23 ?_
        obtain ⟨r_4, e_4, hy1⟩ := ld_nm hy1
        refine ld_rd (W.runV (As := []) (rest := [.int v1.1]) ⟨hx, hb, hml, hown, hg⟩ (lc_gsize l D cI cZ cJ a G r_4 e_4) ⟨callB_of 0 hg (ld_gd k_220) rfl rfl rfl (hg _ k_24) (hg _ k_296) hd_gsize ⟨Nat.le_of_ble_eq_true rfl, Nat.le_of_ble_eq_true rfl⟩, hg _ k_218, hg _ k_219⟩ (ld_preRV hP hK hN [1, 2, 3, 4, 5, 6, 7] rfl 0 0 rfl rfl) rfl rfl hl.1 rfl (lv_room (Nat.le_of_ble_eq_true rfl)) d_findMeet_26 ⟨Nat.zero_le _, Nat.zero_le _⟩) ?_
        refine lv_icmp_ge (tgt := 77) hx hb d_findMeet_29 (by decide) (fun c_5 => ?_) (fun c_5 => ?_)
        · have hy1 := (if_pos c_5).symm.trans hy1
          obtain rfl := Option.some.inj hy1
          obtain rfl := Option.some.inj g1
          exact kont1 _ _ _ hP hD hS (lv_sub hl [0] rfl)
        · have hy1 := (if_neg c_5).symm.trans hy1
          refine lv_aload_n hx hb d_findMeet_32 rfl (lv_at hl 0 rfl) ?_
          refine va_get (D := D) (ci := 6) (v := .ref (a 1)) (C := "LoanDesk") (T := T_Desk) (N := 7) hx hb hg u_Desk hown hK hP 0 rfl rfl 0 (by decide) (hg _ k_109) (fun _ h9 => h9) rfl d_findMeet_33 ?_
          refine lv_iload_n hx hb d_findMeet_36 rfl (lv_at hl 1 rfl) ?_
          obtain ⟨r_6, e_6, hy1⟩ := ld_nm hy1
          refine ld_rd (W.runV (As := [.int v1.1]) (rest := []) ⟨hx, hb, hml, hown, hg⟩ (lc_isLoan l D cI cZ cJ a G v1.1 r_6 e_6) ⟨callB_of 1 hg (ld_gd k_242) rfl rfl rfl (hg _ k_24) (hg _ k_239) hd_isLoan ⟨Nat.le_of_ble_eq_true rfl, Nat.le_of_ble_eq_true rfl⟩, hg _ k_240, hg _ k_241⟩ (ld_preRV hP hK hN [1, 2, 3, 4, 5, 6, 7] rfl 0 0 rfl rfl) rfl rfl hl.1 rfl (lv_room (Nat.le_of_ble_eq_true rfl)) d_findMeet_37 ⟨Nat.zero_le _, Nat.zero_le _⟩) ?_
          refine lv_if_eq (tgt := 71) hx hb d_findMeet_40 (by decide) (fun c_7 => ?_) (fun c_7 => ?_)
          · have hy1 := (if_pos c_7).symm.trans hy1
            refine lv_iinc (v := v1.1 + 1) (lv' := [(1, .int (v1.1 + 1)), (0, .ref (a 0))]) hx hb d_findMeet_71 hl (k := 1) rfl rfl (by decide) rfl (fun ls hl => ?_)
            refine lv_goto (tgt := 21) hx hb d_findMeet_74 (by decide) ?_
            obtain rfl := Option.some.inj hy1
            exact ih1 (v1.1 + 1, v1.2.1, v1.2.2.1, v1.2.2.2.1, v1.2.2.2.2.1, v1.2.2.2.2.2.1, v1.2.2.2.2.2.2.1, v1.2.2.2.2.2.2.2) _ _ _ g1 hP hD hS (lv_sub hl [1, 0] rfl)
          · have hy1 := (if_neg c_7).symm.trans hy1
            refine lv_aload_n hx hb d_findMeet_43 rfl (lv_at hl 0 rfl) ?_
            refine va_get (D := D) (ci := 6) (v := .ref (a 8)) (C := "LoanDesk") (T := T_Desk) (N := 7) hx hb hg u_Desk hown hK hP 0 rfl rfl 1 (by decide) (hg _ k_110) (fun _ h9 => h9) rfl d_findMeet_44 ?_
            refine lv_iload_n hx hb d_findMeet_47 rfl (lv_at hl 1 rfl) ?_
            obtain ⟨r_8, e_8, hy1⟩ := ld_nm hy1
            refine ld_rd (W.runV (As := [.int v1.1]) (rest := []) ⟨hx, hb, hml, hown, hg⟩ (lc_comesTo l D cI cZ cJ a v1.2.2.1 v1.1 r_8 e_8) ⟨callB_of 1 hg (ld_gd k_188) rfl rfl rfl (hg _ k_25) (hg _ k_234) hd_comesTo ⟨Nat.le_of_ble_eq_true rfl, Nat.le_of_ble_eq_true rfl⟩, hg _ k_186, hg _ k_187⟩ (ld_preRV hP hK hN [8, 9] rfl 2 0 rfl rfl) rfl rfl hl.1 rfl (lv_room (Nat.le_of_ble_eq_true rfl)) d_findMeet_48 ⟨Nat.zero_le _, Nat.zero_le _⟩) ?_
            refine lv_if_eq (tgt := 71) hx hb d_findMeet_51 (by decide) (fun c_9 => ?_) (fun c_9 => ?_)
            · have hy1 := (if_pos c_9).symm.trans hy1
              refine lv_iinc (v := v1.1 + 1) (lv' := [(1, .int (v1.1 + 1)), (0, .ref (a 0))]) hx hb d_findMeet_71 hl (k := 1) rfl rfl (by decide) rfl (fun ls hl => ?_)
              refine lv_goto (tgt := 21) hx hb d_findMeet_74 (by decide) ?_
              obtain rfl := Option.some.inj hy1
              exact ih1 (v1.1 + 1, v1.2.1, v1.2.2.1, v1.2.2.2.1, v1.2.2.2.2.1, v1.2.2.2.2.2.1, v1.2.2.2.2.2.2.1, v1.2.2.2.2.2.2.2) _ _ _ g1 hP hD hS (lv_sub hl [1, 0] rfl)
            · have hy1 := (if_neg c_9).symm.trans hy1
              refine lv_aload_n hx hb d_findMeet_54 rfl (lv_at hl 0 rfl) ?_
              refine va_get (D := D) (ci := 6) (v := .ref (a 15)) (C := "LoanDesk") (T := T_Desk) (N := 7) hx hb hg u_Desk hown hK hP 0 rfl rfl 3 (by decide) (hg _ k_112) (fun _ h9 => h9) rfl d_findMeet_55 ?_
              refine lv_aload_n hx hb d_findMeet_58 rfl (lv_at hl 0 rfl) ?_
              refine va_get (D := D) (ci := 6) (v := .ref (a 1)) (C := "LoanDesk") (T := T_Desk) (N := 7) hx hb hg u_Desk hown hK hP 0 rfl rfl 0 (by decide) (hg _ k_109) (fun _ h9 => h9) rfl d_findMeet_59 ?_
              refine lv_iload_n hx hb d_findMeet_62 rfl (lv_at hl 1 rfl) ?_
              obtain ⟨r_10, e_10, hy1⟩ := ld_ob hy1
              refine ld_mv (wr := ([0, 8, 9, 10, 11, 12, 13, 14, 21, 22] : List Nat).filterMap (fun i => (ld_dW a v1.2.1 ++ ld_gW a cI G ++ ld_rW a cI v1.2.2.1 ++ ld_pW (a 10) (a 11) (a 12) cI cZ v1.2.2.2.1 ++ ld_uW a cI v1.2.2.2.2.1 ++ ld_hW a cI v1.2.2.2.2.2.1 ++ ld_pW (a 18) (a 19) (a 20) cI cZ v1.2.2.2.2.2.2.1 ++ ld_mW a cJ v1.2.2.2.2.2.2.2)[i]?)) (ws2 := ld_dW a v1.2.1 ++ ld_gW a cI G ++ ld_rW a cI v1.2.2.1 ++ ld_pW (a 10) (a 11) (a 12) cI cZ v1.2.2.2.1 ++ ld_uW a cI v1.2.2.2.2.1 ++ ld_hW a cI r_10.1 ++ ld_pW (a 18) (a 19) (a 20) cI cZ r_10.2 ++ ld_mW a cJ v1.2.2.2.2.2.2.2) (va_runV (As := [.ref (a 1), .int v1.1]) (rest := []) ⟨hx, hb, hml, hown, hg⟩ (lc_follow l D cI cZ cJ a G v1.2.2.2.2.2.1 v1.2.2.2.2.2.2.1 v1.1 _ N r_10 e_10) ⟨callB_of 2 hg (ld_gd k_246) rfl rfl rfl (hg _ k_28) (hg _ k_243) hd_follow ⟨Nat.le_of_ble_eq_true rfl, Nat.le_of_ble_eq_true rfl⟩, hg _ k_244, hg _ k_245⟩ (ld_preMV hP hK hN hD [1, 2, 3, 4, 5, 6, 7, 15, 16, 17, 18, 19, 20] (by decide) rfl 4 7 rfl rfl) rfl rfl hl.1 rfl (lv_room (Nat.le_of_ble_eq_true rfl)) d_findMeet_63 ⟨Nat.zero_le _, Nat.zero_le _⟩) hP hD hS hA [1, 2, 3, 4, 5, 6, 7, 15, 16, 17, 18, 19, 20] [0, 8, 9, 10, 11, 12, 13, 14, 21, 22] [0, 10, 11, 12, 13, 14, 15, 16, 1, 2, 3, 4, 5, 6, 7, 17, 18, 19, 20, 21, 22, 8, 9] rfl rfl (by decide) (by decide) (by decide) rfl (fun H locs hP hD hS => ?_)
              refine lv_aload_n hx hb d_findMeet_66 rfl (lv_at hl 0 rfl) ?_
              refine lv_iload_n hx hb d_findMeet_67 rfl (lv_at hl 1 rfl) ?_
              obtain ⟨r_11, e_11, hy1⟩ := ld_ob hy1
              refine ld_mv (wr := ([8, 9, 10, 11, 12, 18, 19, 20] : List Nat).filterMap (fun i => (ld_dW a v1.2.1 ++ ld_gW a cI G ++ ld_rW a cI v1.2.2.1 ++ ld_pW (a 10) (a 11) (a 12) cI cZ v1.2.2.2.1 ++ ld_uW a cI v1.2.2.2.2.1 ++ ld_hW a cI r_10.1 ++ ld_pW (a 18) (a 19) (a 20) cI cZ r_10.2 ++ ld_mW a cJ v1.2.2.2.2.2.2.2)[i]?)) (ws2 := ld_dW a v1.2.1 ++ ld_gW a cI G ++ ld_rW a cI v1.2.2.1 ++ ld_pW (a 10) (a 11) (a 12) cI cZ v1.2.2.2.1 ++ ld_uW a cI v1.2.2.2.2.1 ++ ld_hW a cI r_10.1 ++ ld_pW (a 18) (a 19) (a 20) cI cZ r_10.2 ++ ld_mW a cJ r_11) (va_runV (As := [.int v1.1]) (rest := []) ⟨hx, hb, hml, hown, hg⟩ (lc_addMeet l D cI cZ cJ a v1.2.1 G v1.2.2.2.2.1 r_10.1 v1.2.2.2.2.2.2.2 v1.1 _ N r_11 e_11) ⟨callB_of 1 hg (ld_gd k_299) rfl rfl rfl (hg _ k_23) (hg _ k_297) hd_addMeet ⟨Nat.le_of_ble_eq_true rfl, Nat.le_of_ble_eq_true rfl⟩, hg _ k_298, hg _ k_7⟩ (ld_preMV hP hK hN hD [0, 1, 2, 3, 4, 5, 6, 7, 13, 14, 15, 16, 17, 21, 22] (by decide) rfl 6 0 rfl rfl) rfl rfl hl.1 rfl (lv_room (Nat.le_of_ble_eq_true rfl)) d_findMeet_68 ⟨Nat.zero_le _, Nat.zero_le _⟩) hP hD hS hA [0, 1, 2, 3, 4, 5, 6, 7, 13, 14, 15, 16, 17, 21, 22] [8, 9, 10, 11, 12, 18, 19, 20] [8, 9, 10, 11, 12, 13, 14, 15, 0, 1, 2, 3, 4, 16, 17, 18, 19, 20, 5, 6, 7, 21, 22] rfl rfl (by decide) (by decide) (by decide) rfl (fun H locs hP hD hS => ?_)
              refine lv_iinc (v := v1.1 + 1) (lv' := [(1, .int (v1.1 + 1)), (0, .ref (a 0))]) hx hb d_findMeet_71 hl (k := 1) rfl rfl (by decide) rfl (fun ls hl => ?_)
              refine lv_goto (tgt := 21) hx hb d_findMeet_74 (by decide) ?_
              obtain rfl := Option.some.inj hy1
              exact ih1 (v1.1 + 1, v1.2.1, v1.2.2.1, v1.2.2.2.1, v1.2.2.2.2.1, r_10.1, r_10.2, r_11) _ _ _ g1 hP hD hS (lv_sub hl [1, 0] rfl)
    exact key1 N (0, r_2.1, r_2.2.1, r_2.2.2.1, r_2.2.2.2, hh, qq, r_3) _ _ _ eY1 hP hD hS (lv_sub hl [1, 0] rfl)
  · have h := (if_neg c_1).symm.trans h
    have h := Option.some.inj h
    subst h
    exact W.vret hx hb hr (fun t ht hW => ⟨⟨(), rfl, trivial, by rw [ht]; exact hP, hD⟩, hS.F ht⟩) hS.2.2 d_findMeet_7
end
section
theorem d_point_0 : decode prog_1_method_2_code 0 = .ok (.iload_n 1, 1) := by decide +kernel
theorem d_point_1 : decode prog_1_method_2_code 1 = .ok (.iload_n 2, 1) := by decide +kernel
theorem d_point_2 : decode prog_1_method_2_code 2 = .ok (.iload_n 3, 1) := by decide +kernel
theorem d_point_3 : decode prog_1_method_2_code 3 = .ok (.iload 4, 2) := by decide +kernel
theorem d_point_5 : decode prog_1_method_2_code 5 = .ok (.invokestatic 51, 3) := by decide +kernel
theorem d_point_8 : decode prog_1_method_2_code 8 = .ok (.ifCond .eq 13, 3) := by decide +kernel
theorem d_point_11 : decode prog_1_method_2_code 11 = .ok (.aload_n 0, 1) := by decide +kernel
theorem d_point_12 : decode prog_1_method_2_code 12 = .ok (.getfield 10, 3) := by decide +kernel
theorem d_point_15 : decode prog_1_method_2_code 15 = .ok (.invokevirtual 55, 3) := by decide +kernel
theorem d_point_18 : decode prog_1_method_2_code 18 = .ok (.ifCond .ne 5, 3) := by decide +kernel
theorem d_point_21 : decode prog_1_method_2_code 21 = .ok (.iconst (-1), 1) := by decide +kernel
theorem d_point_22 : decode prog_1_method_2_code 22 = .ok (.ireturn, 1) := by decide +kernel
theorem d_point_23 : decode prog_1_method_2_code 23 = .ok (.aload_n 0, 1) := by decide +kernel
theorem d_point_24 : decode prog_1_method_2_code 24 = .ok (.invokevirtual 59, 3) := by decide +kernel
theorem d_point_27 : decode prog_1_method_2_code 27 = .ok (.aload_n 0, 1) := by decide +kernel
theorem d_point_28 : decode prog_1_method_2_code 28 = .ok (.getfield 10, 3) := by decide +kernel
theorem d_point_31 : decode prog_1_method_2_code 31 = .ok (.iload_n 1, 1) := by decide +kernel
theorem d_point_32 : decode prog_1_method_2_code 32 = .ok (.iload_n 2, 1) := by decide +kernel
theorem d_point_33 : decode prog_1_method_2_code 33 = .ok (.iload_n 3, 1) := by decide +kernel
theorem d_point_34 : decode prog_1_method_2_code 34 = .ok (.iload 4, 2) := by decide +kernel
theorem d_point_36 : decode prog_1_method_2_code 36 = .ok (.invokevirtual 62, 3) := by decide +kernel
theorem d_point_39 : decode prog_1_method_2_code 39 = .ok (.ireturn, 1) := by decide +kernel
theorem d_next_0 : decode prog_1_method_3_code 0 = .ok (.aload_n 0, 1) := by decide +kernel
theorem d_next_1 : decode prog_1_method_3_code 1 = .ok (.getfield 10, 3) := by decide +kernel
theorem d_next_4 : decode prog_1_method_3_code 4 = .ok (.iload_n 1, 1) := by decide +kernel
theorem d_next_5 : decode prog_1_method_3_code 5 = .ok (.invokevirtual 66, 3) := by decide +kernel
theorem d_next_8 : decode prog_1_method_3_code 8 = .ok (.ifCond .eq 17, 3) := by decide +kernel
theorem d_next_11 : decode prog_1_method_3_code 11 = .ok (.iload_n 2, 1) := by decide +kernel
theorem d_next_12 : decode prog_1_method_3_code 12 = .ok (.invokestatic 70, 3) := by decide +kernel
theorem d_next_15 : decode prog_1_method_3_code 15 = .ok (.ifCond .eq 10, 3) := by decide +kernel
theorem d_next_18 : decode prog_1_method_3_code 18 = .ok (.iload_n 3, 1) := by decide +kernel
theorem d_next_19 : decode prog_1_method_3_code 19 = .ok (.invokestatic 70, 3) := by decide +kernel
theorem d_next_22 : decode prog_1_method_3_code 22 = .ok (.ifCond .ne 5, 3) := by decide +kernel
theorem d_next_25 : decode prog_1_method_3_code 25 = .ok (.iconst 0, 1) := by decide +kernel
theorem d_next_26 : decode prog_1_method_3_code 26 = .ok (.ireturn, 1) := by decide +kernel
theorem d_next_27 : decode prog_1_method_3_code 27 = .ok (.aload_n 0, 1) := by decide +kernel
theorem d_next_28 : decode prog_1_method_3_code 28 = .ok (.invokevirtual 59, 3) := by decide +kernel
theorem d_next_31 : decode prog_1_method_3_code 31 = .ok (.aload_n 0, 1) := by decide +kernel
theorem d_next_32 : decode prog_1_method_3_code 32 = .ok (.getfield 10, 3) := by decide +kernel
theorem d_next_35 : decode prog_1_method_3_code 35 = .ok (.iload_n 1, 1) := by decide +kernel
theorem d_next_36 : decode prog_1_method_3_code 36 = .ok (.iload_n 2, 1) := by decide +kernel
theorem d_next_37 : decode prog_1_method_3_code 37 = .ok (.iload_n 3, 1) := by decide +kernel
theorem d_next_38 : decode prog_1_method_3_code 38 = .ok (.invokevirtual 73, 3) := by decide +kernel
theorem d_next_41 : decode prog_1_method_3_code 41 = .ok (.iconst 1, 1) := by decide +kernel
theorem d_next_42 : decode prog_1_method_3_code 42 = .ok (.ireturn, 1) := by decide +kernel
theorem d_isReached_0 : decode prog_1_method_4_code 0 = .ok (.aload_n 0, 1) := by decide +kernel
theorem d_isReached_1 : decode prog_1_method_4_code 1 = .ok (.getfield 10, 3) := by decide +kernel
theorem d_isReached_4 : decode prog_1_method_4_code 4 = .ok (.iload_n 1, 1) := by decide +kernel
theorem d_isReached_5 : decode prog_1_method_4_code 5 = .ok (.invokevirtual 66, 3) := by decide +kernel
theorem d_isReached_8 : decode prog_1_method_4_code 8 = .ok (.ifCond .ne 5, 3) := by decide +kernel
theorem d_isReached_11 : decode prog_1_method_4_code 11 = .ok (.iconst 0, 1) := by decide +kernel
theorem d_isReached_12 : decode prog_1_method_4_code 12 = .ok (.ireturn, 1) := by decide +kernel
theorem d_isReached_13 : decode prog_1_method_4_code 13 = .ok (.aload_n 0, 1) := by decide +kernel
theorem d_isReached_14 : decode prog_1_method_4_code 14 = .ok (.invokevirtual 77, 3) := by decide +kernel
theorem d_isReached_17 : decode prog_1_method_4_code 17 = .ok (.aload_n 0, 1) := by decide +kernel
theorem d_isReached_18 : decode prog_1_method_4_code 18 = .ok (.getfield 19, 3) := by decide +kernel
theorem d_isReached_21 : decode prog_1_method_4_code 21 = .ok (.iload_n 1, 1) := by decide +kernel
theorem d_isReached_22 : decode prog_1_method_4_code 22 = .ok (.invokevirtual 80, 3) := by decide +kernel
theorem d_isReached_25 : decode prog_1_method_4_code 25 = .ok (.ireturn, 1) := by decide +kernel
theorem d_holders_0 : decode prog_1_method_5_code 0 = .ok (.aload_n 0, 1) := by decide +kernel
theorem d_holders_1 : decode prog_1_method_5_code 1 = .ok (.getfield 10, 3) := by decide +kernel
theorem d_holders_4 : decode prog_1_method_5_code 4 = .ok (.iload_n 1, 1) := by decide +kernel
theorem d_holders_5 : decode prog_1_method_5_code 5 = .ok (.invokevirtual 66, 3) := by decide +kernel
theorem d_holders_8 : decode prog_1_method_5_code 8 = .ok (.ifCond .eq 14, 3) := by decide +kernel
theorem d_holders_11 : decode prog_1_method_5_code 11 = .ok (.aload_n 0, 1) := by decide +kernel
theorem d_holders_12 : decode prog_1_method_5_code 12 = .ok (.getfield 10, 3) := by decide +kernel
theorem d_holders_15 : decode prog_1_method_5_code 15 = .ok (.iload_n 2, 1) := by decide +kernel
theorem d_holders_16 : decode prog_1_method_5_code 16 = .ok (.invokevirtual 83, 3) := by decide +kernel
theorem d_holders_19 : decode prog_1_method_5_code 19 = .ok (.ifCond .ne 5, 3) := by decide +kernel
theorem d_holders_22 : decode prog_1_method_5_code 22 = .ok (.iconst 0, 1) := by decide +kernel
theorem d_holders_23 : decode prog_1_method_5_code 23 = .ok (.ireturn, 1) := by decide +kernel
theorem d_holders_24 : decode prog_1_method_5_code 24 = .ok (.aload_n 0, 1) := by decide +kernel
theorem d_holders_25 : decode prog_1_method_5_code 25 = .ok (.invokevirtual 77, 3) := by decide +kernel
theorem d_holders_28 : decode prog_1_method_5_code 28 = .ok (.aload_n 0, 1) := by decide +kernel
theorem d_holders_29 : decode prog_1_method_5_code 29 = .ok (.getfield 19, 3) := by decide +kernel
theorem d_holders_32 : decode prog_1_method_5_code 32 = .ok (.iload_n 2, 1) := by decide +kernel
theorem d_holders_33 : decode prog_1_method_5_code 33 = .ok (.invokevirtual 80, 3) := by decide +kernel
theorem d_holders_36 : decode prog_1_method_5_code 36 = .ok (.ifCond .ne 5, 3) := by decide +kernel
theorem d_holders_39 : decode prog_1_method_5_code 39 = .ok (.iconst 0, 1) := by decide +kernel
theorem d_holders_40 : decode prog_1_method_5_code 40 = .ok (.ireturn, 1) := by decide +kernel
theorem d_holders_41 : decode prog_1_method_5_code 41 = .ok (.aload_n 0, 1) := by decide +kernel
theorem d_holders_42 : decode prog_1_method_5_code 42 = .ok (.getfield 33, 3) := by decide +kernel
theorem d_holders_45 : decode prog_1_method_5_code 45 = .ok (.aload_n 0, 1) := by decide +kernel
theorem d_holders_46 : decode prog_1_method_5_code 46 = .ok (.getfield 10, 3) := by decide +kernel
theorem d_holders_49 : decode prog_1_method_5_code 49 = .ok (.iload_n 2, 1) := by decide +kernel
theorem d_holders_50 : decode prog_1_method_5_code 50 = .ok (.invokevirtual 86, 3) := by decide +kernel
theorem d_holders_53 : decode prog_1_method_5_code 53 = .ok (.aload_n 0, 1) := by decide +kernel
theorem d_holders_54 : decode prog_1_method_5_code 54 = .ok (.getfield 33, 3) := by decide +kernel
theorem d_holders_57 : decode prog_1_method_5_code 57 = .ok (.iload_n 1, 1) := by decide +kernel
theorem d_holders_58 : decode prog_1_method_5_code 58 = .ok (.invokevirtual 90, 3) := by decide +kernel
theorem d_holders_61 : decode prog_1_method_5_code 61 = .ok (.ireturn, 1) := by decide +kernel
theorem d_used_0 : decode prog_1_method_6_code 0 = .ok (.aload_n 0, 1) := by decide +kernel
theorem d_used_1 : decode prog_1_method_6_code 1 = .ok (.getfield 10, 3) := by decide +kernel
theorem d_used_4 : decode prog_1_method_6_code 4 = .ok (.iload_n 1, 1) := by decide +kernel
theorem d_used_5 : decode prog_1_method_6_code 5 = .ok (.invokevirtual 66, 3) := by decide +kernel
theorem d_used_8 : decode prog_1_method_6_code 8 = .ok (.ifCond .ne 5, 3) := by decide +kernel
theorem d_used_11 : decode prog_1_method_6_code 11 = .ok (.iconst 0, 1) := by decide +kernel
theorem d_used_12 : decode prog_1_method_6_code 12 = .ok (.ireturn, 1) := by decide +kernel
theorem d_used_13 : decode prog_1_method_6_code 13 = .ok (.aload_n 0, 1) := by decide +kernel
theorem d_used_14 : decode prog_1_method_6_code 14 = .ok (.invokevirtual 77, 3) := by decide +kernel
theorem d_used_17 : decode prog_1_method_6_code 17 = .ok (.aload_n 0, 1) := by decide +kernel
theorem d_used_18 : decode prog_1_method_6_code 18 = .ok (.getfield 26, 3) := by decide +kernel
theorem d_used_21 : decode prog_1_method_6_code 21 = .ok (.iload_n 1, 1) := by decide +kernel
theorem d_used_22 : decode prog_1_method_6_code 22 = .ok (.invokevirtual 94, 3) := by decide +kernel
theorem d_used_25 : decode prog_1_method_6_code 25 = .ok (.ireturn, 1) := by decide +kernel
theorem d_isAlive_0 : decode prog_1_method_7_code 0 = .ok (.aload_n 0, 1) := by decide +kernel
theorem d_isAlive_1 : decode prog_1_method_7_code 1 = .ok (.iload_n 1, 1) := by decide +kernel
theorem d_isAlive_2 : decode prog_1_method_7_code 2 = .ok (.iload_n 2, 1) := by decide +kernel
theorem d_isAlive_3 : decode prog_1_method_7_code 3 = .ok (.invokevirtual 95, 3) := by decide +kernel
theorem d_isAlive_6 : decode prog_1_method_7_code 6 = .ok (.aload_n 0, 1) := by decide +kernel
theorem d_isAlive_7 : decode prog_1_method_7_code 7 = .ok (.iload_n 1, 1) := by decide +kernel
theorem d_isAlive_8 : decode prog_1_method_7_code 8 = .ok (.invokevirtual 99, 3) := by decide +kernel
theorem d_isAlive_11 : decode prog_1_method_7_code 11 = .ok (.iand, 1) := by decide +kernel
theorem d_isAlive_12 : decode prog_1_method_7_code 12 = .ok (.ifCond .eq 7, 3) := by decide +kernel
theorem d_isAlive_15 : decode prog_1_method_7_code 15 = .ok (.iconst 1, 1) := by decide +kernel
theorem d_isAlive_16 : decode prog_1_method_7_code 16 = .ok (.goto 4, 3) := by decide +kernel
theorem d_isAlive_19 : decode prog_1_method_7_code 19 = .ok (.iconst 0, 1) := by decide +kernel
theorem d_isAlive_20 : decode prog_1_method_7_code 20 = .ok (.ireturn, 1) := by decide +kernel
theorem d_met_0 : decode prog_1_method_8_code 0 = .ok (.aload_n 0, 1) := by decide +kernel
theorem d_met_1 : decode prog_1_method_8_code 1 = .ok (.getfield 10, 3) := by decide +kernel
theorem d_met_4 : decode prog_1_method_8_code 4 = .ok (.iload_n 1, 1) := by decide +kernel
theorem d_met_5 : decode prog_1_method_8_code 5 = .ok (.invokevirtual 66, 3) := by decide +kernel
theorem d_met_8 : decode prog_1_method_8_code 8 = .ok (.ifCond .ne 5, 3) := by decide +kernel
theorem d_met_11 : decode prog_1_method_8_code 11 = .ok (.iconst (-1), 1) := by decide +kernel
theorem d_met_12 : decode prog_1_method_8_code 12 = .ok (.ireturn, 1) := by decide +kernel
theorem d_met_13 : decode prog_1_method_8_code 13 = .ok (.aload_n 0, 1) := by decide +kernel
theorem d_met_14 : decode prog_1_method_8_code 14 = .ok (.invokevirtual 102, 3) := by decide +kernel
theorem d_met_17 : decode prog_1_method_8_code 17 = .ok (.aload_n 0, 1) := by decide +kernel
theorem d_met_18 : decode prog_1_method_8_code 18 = .ok (.getfield 40, 3) := by decide +kernel
theorem d_met_21 : decode prog_1_method_8_code 21 = .ok (.iload_n 1, 1) := by decide +kernel
theorem d_met_22 : decode prog_1_method_8_code 22 = .ok (.iload_n 2, 1) := by decide +kernel
theorem d_met_23 : decode prog_1_method_8_code 23 = .ok (.invokevirtual 105, 3) := by decide +kernel
theorem d_met_26 : decode prog_1_method_8_code 26 = .ok (.ireturn, 1) := by decide +kernel
theorem d_count_0 : decode prog_1_method_9_code 0 = .ok (.iload_n 1, 1) := by decide +kernel
theorem d_count_1 : decode prog_1_method_9_code 1 = .ok (.tableswitch 87 0 4 #[35, 43, 55, 67, 79], 35) := by decide +kernel
theorem d_count_36 : decode prog_1_method_9_code 36 = .ok (.aload_n 0, 1) := by decide +kernel
theorem d_count_37 : decode prog_1_method_9_code 37 = .ok (.getfield 10, 3) := by decide +kernel
theorem d_count_40 : decode prog_1_method_9_code 40 = .ok (.invokevirtual 108, 3) := by decide +kernel
theorem d_count_43 : decode prog_1_method_9_code 43 = .ok (.ireturn, 1) := by decide +kernel
theorem d_count_44 : decode prog_1_method_9_code 44 = .ok (.aload_n 0, 1) := by decide +kernel
theorem d_count_45 : decode prog_1_method_9_code 45 = .ok (.invokevirtual 77, 3) := by decide +kernel
theorem d_count_48 : decode prog_1_method_9_code 48 = .ok (.aload_n 0, 1) := by decide +kernel
theorem d_count_49 : decode prog_1_method_9_code 49 = .ok (.getfield 19, 3) := by decide +kernel
theorem d_count_52 : decode prog_1_method_9_code 52 = .ok (.invokevirtual 112, 3) := by decide +kernel
theorem d_count_55 : decode prog_1_method_9_code 55 = .ok (.ireturn, 1) := by decide +kernel
theorem d_count_56 : decode prog_1_method_9_code 56 = .ok (.aload_n 0, 1) := by decide +kernel
theorem d_count_57 : decode prog_1_method_9_code 57 = .ok (.invokevirtual 102, 3) := by decide +kernel
theorem d_count_60 : decode prog_1_method_9_code 60 = .ok (.aload_n 0, 1) := by decide +kernel
theorem d_count_61 : decode prog_1_method_9_code 61 = .ok (.getfield 40, 3) := by decide +kernel
theorem d_count_64 : decode prog_1_method_9_code 64 = .ok (.invokevirtual 115, 3) := by decide +kernel
theorem d_count_67 : decode prog_1_method_9_code 67 = .ok (.ireturn, 1) := by decide +kernel
theorem d_count_68 : decode prog_1_method_9_code 68 = .ok (.aload_n 0, 1) := by decide +kernel
theorem d_count_69 : decode prog_1_method_9_code 69 = .ok (.invokevirtual 102, 3) := by decide +kernel
theorem d_count_72 : decode prog_1_method_9_code 72 = .ok (.aload_n 0, 1) := by decide +kernel
theorem d_count_73 : decode prog_1_method_9_code 73 = .ok (.getfield 40, 3) := by decide +kernel
theorem d_count_76 : decode prog_1_method_9_code 76 = .ok (.invokevirtual 116, 3) := by decide +kernel
theorem d_count_79 : decode prog_1_method_9_code 79 = .ok (.ireturn, 1) := by decide +kernel
theorem d_count_80 : decode prog_1_method_9_code 80 = .ok (.aload_n 0, 1) := by decide +kernel
theorem d_count_81 : decode prog_1_method_9_code 81 = .ok (.getfield 10, 3) := by decide +kernel
theorem d_count_84 : decode prog_1_method_9_code 84 = .ok (.invokevirtual 119, 3) := by decide +kernel
theorem d_count_87 : decode prog_1_method_9_code 87 = .ok (.ireturn, 1) := by decide +kernel
theorem d_count_88 : decode prog_1_method_9_code 88 = .ok (.iconst (-1), 1) := by decide +kernel
theorem d_count_89 : decode prog_1_method_9_code 89 = .ok (.ireturn, 1) := by decide +kernel
theorem d_clear_0 : decode prog_1_method_10_code 0 = .ok (.aload_n 0, 1) := by decide +kernel
theorem d_clear_1 : decode prog_1_method_10_code 1 = .ok (.getfield 10, 3) := by decide +kernel
theorem d_clear_4 : decode prog_1_method_10_code 4 = .ok (.invokevirtual 108, 3) := by decide +kernel
theorem d_clear_7 : decode prog_1_method_10_code 7 = .ok (.istore_n 1, 1) := by decide +kernel
theorem d_clear_8 : decode prog_1_method_10_code 8 = .ok (.aload_n 0, 1) := by decide +kernel
theorem d_clear_9 : decode prog_1_method_10_code 9 = .ok (.invokevirtual 59, 3) := by decide +kernel
theorem d_clear_12 : decode prog_1_method_10_code 12 = .ok (.aload_n 0, 1) := by decide +kernel
theorem d_clear_13 : decode prog_1_method_10_code 13 = .ok (.getfield 10, 3) := by decide +kernel
theorem d_clear_16 : decode prog_1_method_10_code 16 = .ok (.invokevirtual 122, 3) := by decide +kernel
theorem d_clear_19 : decode prog_1_method_10_code 19 = .ok (.iload_n 1, 1) := by decide +kernel
theorem d_clear_20 : decode prog_1_method_10_code 20 = .ok (.ireturn, 1) := by decide +kernel
end
section
def lm_point (N : Nat) (dk : Int32 × Int32) (G : ld_gT) (p0 : Int32) (p1 : Int32) (p2 : Int32) (p3 : Int32) : Option (Int32 × (Int32 × Int32) × ld_gT) := Option.bind (lm_isDoing N p0 p1 p2 p3) (fun r_1 => if r_1 = 0 then some ((-1), dk, G) else ld_lt (lf_hasRoom G) (fun r_3 => if r_3 = 0 then some ((-1), dk, G) else ld_lt (lf_forget dk) (fun r_5 => Option.bind (lm_add N G p0 p1 p2 p3) (fun r_6 => some (r_6.1, r_5, r_6.2)))))
set_option maxHeartbeats 4000000 in
set_option maxRecDepth 100000 in
theorem lc_point (l : Launch) (D : va_G) (cI cZ cJ : ClassId) (a : Nat → Nat) (dk : Int32 × Int32) (G : ld_gT) (p0 : Int32) (p1 : Int32) (p2 : Int32) (p3 : Int32) (sz : Nat) (N : Nat) (R : Int32 × (Int32 × Int32) × ld_gT) (h : lm_point N dk G p0 p1 p2 p3 = some R) : Met l y_point (Cond.code y_point prog_1_method_2_code 5 (some .int) :: bgT) ({ frames := 2, cells := 0, slots := 0, locals := 45 }) (ld_PM D cI cZ cJ (ld_dW a dk ++ ld_gW a cI G) sz [.ref (a 0), .int p0, .int p1, .int p2, .int p3]) (ld_QI D (ld_dW a R.2.1 ++ ld_gW a cI R.2.2) (va_A (ld_dW a dk ++ ld_gW a cI G) sz) R.1) 0 0 ((va_A (ld_dW a dk ++ ld_gW a cI G) sz)) := by
  refine Met.ofW (cc := prog_1_method_2_code) (maxL := 5) (ret := (some .int)) (by decide) rfl ?_
  intro p e s m args below meth c s₁ B hml hv
  obtain ⟨rfl, hsz, hP, hK, hD0, hN⟩ := hv
  have hx := B.exec
  have hb := B.bytes
  have hr := B.returns
  have hg : ∀ w ∈ bgT, w.before _ s = true := fun w h => atoms_spec (ws := (Cond.code y_point prog_1_method_2_code 5 (some .int) :: bgT)) B.pre w (List.mem_cons_of_mem _ h)
  have hown : s.vm.findClass "LoanDesk" = some m.cls := findClass_of_methodNamed B.named
  have hlocks := B.notSynchronized
  subst hsz
  have hD := hD0.self (sz := s.heap.size)
  generalize hAe : va_A (ld_dW a dk ++ ld_gW a cI G) s.heap.size = A at hD ⊢
  have hA : ∀ q : Nat, s.heap.size ≤ q → A q := fun q h => by rw [← hAe]; exact Or.inr h
  have hS : va_S A s.heap s.heap [] := va_S.rf
  have hl := lv_entry ([.ref (a 0), .int p0, .int p1, .int p2, .int p3]) (n := 5) (Nat.le_of_ble_eq_true rfl)
  rw [lg_entry_eq]
  generalize (lg_sl ([.ref (a 0), .int p0, .int p1, .int p2, .int p3]) ++ List.replicate (5 - (lg_sl ([.ref (a 0), .int p0, .int p1, .int p2, .int p3])).length) Slot.unset).toArray = ls at hl ⊢
  have hl : lv_has ls 5 [(0, .ref (a 0)), (1, .int p0), (2, .int p1), (3, .int p2), (4, .int p3)] := hl
  refine lv_iload_n hx hb d_point_0 rfl (lv_at hl 1 rfl) ?_
  refine lv_iload_n hx hb d_point_1 rfl (lv_at hl 2 rfl) ?_
  refine lv_iload_n hx hb d_point_2 rfl (lv_at hl 3 rfl) ?_
  refine lv_iload hx hb d_point_3 (lv_at hl 4 rfl) ?_
  obtain ⟨r_1, e_1, h⟩ := ld_ob h
  refine ld_rd (W.runS (As := [.int p0, .int p1, .int p2, .int p3]) (rest := []) ⟨hx, hb, hml, hown, hg⟩ (lc_isDoing l D cI cZ cJ p0 p1 p2 p3 N r_1 e_1) ⟨callB_of 4 hg (ld_gd k_129) rfl rfl rfl (hg _ k_23) (hg _ k_127) hd_isDoing ⟨Nat.le_of_ble_eq_true rfl, Nat.le_of_ble_eq_true rfl⟩, hg _ k_128⟩ (ld_preR hP hK hN [] rfl) rfl rfl hl.1 rfl (lv_room (Nat.le_of_ble_eq_true rfl)) d_point_5 ⟨Nat.zero_le _, Nat.zero_le _⟩) ?_
  refine lv_if_eq (tgt := 21) hx hb d_point_8 (by decide) (fun c_2 => ?_) (fun c_2 => ?_)
  · have h := (if_pos c_2).symm.trans h
    refine lv_iconst (v := (-1)) hx hb d_point_21 (by decide) ?_
    have h := Option.some.inj h
    subst h
    exact W.iret (v := (-1)) hx hb hr (fun t ht hW => ⟨⟨_, (), rfl, rfl, by rw [ht]; exact hP, hD⟩, hS.F ht⟩) hS.2.2 d_point_22
  · have h := (if_neg c_2).symm.trans h
    refine lv_aload_n hx hb d_point_11 rfl (lv_at hl 0 rfl) ?_
    refine va_get (D := D) (ci := 6) (v := .ref (a 1)) (C := "LoanDesk") (T := T_Desk) (N := 7) hx hb hg u_Desk hown hK hP 0 rfl rfl 0 (by decide) (hg _ k_109) (fun _ h9 => h9) rfl d_point_12 ?_
    obtain ⟨r_3, e_3, h⟩ := ld_nm h
    refine ld_rd (W.runV (As := []) (rest := []) ⟨hx, hb, hml, hown, hg⟩ (lc_hasRoom l D cI cZ cJ a G r_3 e_3) ⟨callB_of 0 hg (ld_gd k_139) rfl rfl rfl (hg _ k_24) (hg _ k_136) hd_hasRoom ⟨Nat.le_of_ble_eq_true rfl, Nat.le_of_ble_eq_true rfl⟩, hg _ k_137, hg _ k_138⟩ (ld_preRV hP hK hN [1, 2, 3, 4, 5, 6, 7] rfl 0 0 rfl rfl) rfl rfl hl.1 rfl (lv_room (Nat.le_of_ble_eq_true rfl)) d_point_15 ⟨Nat.zero_le _, Nat.zero_le _⟩) ?_
    refine lv_if_ne (tgt := 23) hx hb d_point_18 (by decide) (fun c_4 => ?_) (fun c_4 => ?_)
    · have h := (if_neg c_4).symm.trans h
      refine lv_aload_n hx hb d_point_23 rfl (lv_at hl 0 rfl) ?_
      obtain ⟨r_5, e_5, h⟩ := ld_nm h
      refine ld_mv (wr := ([1, 2, 3, 4, 5, 6, 7] : List Nat).filterMap (fun i => (ld_dW a dk ++ ld_gW a cI G)[i]?)) (ws2 := ld_dW a r_5 ++ ld_gW a cI G) (va_runV (As := []) (rest := []) ⟨hx, hb, hml, hown, hg⟩ (lc_forget l D cI cZ cJ a dk _ r_5 e_5) ⟨callB_of 0 hg (ld_gd k_142) rfl rfl rfl (hg _ k_23) (hg _ k_140) hd_forget ⟨Nat.le_of_ble_eq_true rfl, Nat.le_of_ble_eq_true rfl⟩, hg _ k_141, hg _ k_0⟩ (ld_preMV hP hK hN hD [0] (by decide) rfl 6 0 rfl rfl) rfl rfl hl.1 rfl (lv_room (Nat.le_of_ble_eq_true rfl)) d_point_24 ⟨Nat.zero_le _, Nat.zero_le _⟩) hP hD hS hA [0] [1, 2, 3, 4, 5, 6, 7] [7, 0, 1, 2, 3, 4, 5, 6] rfl rfl (by decide) (by decide) (by decide) rfl (fun H locs hP hD hS => ?_)
      refine lv_aload_n hx hb d_point_27 rfl (lv_at hl 0 rfl) ?_
      refine va_get (D := D) (ci := 6) (v := .ref (a 1)) (C := "LoanDesk") (T := T_Desk) (N := 7) hx hb hg u_Desk hown hK hP 0 rfl rfl 0 (by decide) (hg _ k_109) (fun _ h9 => h9) rfl d_point_28 ?_
      refine lv_iload_n hx hb d_point_31 rfl (lv_at hl 1 rfl) ?_
      refine lv_iload_n hx hb d_point_32 rfl (lv_at hl 2 rfl) ?_
      refine lv_iload_n hx hb d_point_33 rfl (lv_at hl 3 rfl) ?_
      refine lv_iload hx hb d_point_34 (lv_at hl 4 rfl) ?_
      obtain ⟨r_6, e_6, h⟩ := ld_ob h
      refine ld_mi (wr := ([0] : List Nat).filterMap (fun i => (ld_dW a r_5 ++ ld_gW a cI G)[i]?)) (ws2 := ld_dW a r_5 ++ ld_gW a cI r_6.2) (va_runV (As := [.int p0, .int p1, .int p2, .int p3]) (rest := []) ⟨hx, hb, hml, hown, hg⟩ (lc_add l D cI cZ cJ a G p0 p1 p2 p3 _ N r_6 e_6) ⟨callB_of 4 hg (ld_gd k_146) rfl rfl rfl (hg _ k_24) (hg _ k_143) hd_add ⟨Nat.le_of_ble_eq_true rfl, Nat.le_of_ble_eq_true rfl⟩, hg _ k_144, hg _ k_145⟩ (ld_preMV hP hK hN hD [1, 2, 3, 4, 5, 6, 7] (by decide) rfl 0 0 rfl rfl) rfl rfl hl.1 rfl (lv_room (Nat.le_of_ble_eq_true rfl)) d_point_36 ⟨Nat.zero_le _, Nat.zero_le _⟩) hP hD hS hA [1, 2, 3, 4, 5, 6, 7] [0] [0, 1, 2, 3, 4, 5, 6, 7] rfl rfl (by decide) (by decide) (by decide) rfl (fun H locs hP hD hS => ?_)
      have h := Option.some.inj h
      subst h
      exact W.iret (v := r_6.1) hx hb hr (fun t ht hW => ⟨⟨_, (), rfl, rfl, by rw [ht]; exact hP, hD⟩, hS.F ht⟩) hS.2.2 d_point_39
    · have h := (if_pos c_4).symm.trans h
      refine lv_iconst (v := (-1)) hx hb d_point_21 (by decide) ?_
      have h := Option.some.inj h
      subst h
      exact W.iret (v := (-1)) hx hb hr (fun t ht hW => ⟨⟨_, (), rfl, rfl, by rw [ht]; exact hP, hD⟩, hS.F ht⟩) hS.2.2 d_point_22
def lf_next (dk : Int32 × Int32) (G : ld_gT) (p0 : Int32) (p1 : Int32) (p2 : Int32) : Int32 × (Int32 × Int32) × ld_gT := ld_lt (lf_isPoint G p0) (fun r_1 => if r_1 = 0 then (0, dk, G) else ld_lt (lf_isNext p1) (fun r_3 => if r_3 = 0 then (0, dk, G) else ld_lt (lf_isNext p2) (fun r_5 => if r_5 = 0 then (0, dk, G) else ld_lt (lf_forget dk) (fun r_7 => ld_lt (lf_tellNext G p0 p1 p2) (fun r_8 => (1, r_7, r_8))))))
set_option maxHeartbeats 4000000 in
set_option maxRecDepth 100000 in
theorem lc_next (l : Launch) (D : va_G) (cI cZ cJ : ClassId) (a : Nat → Nat) (dk : Int32 × Int32) (G : ld_gT) (p0 : Int32) (p1 : Int32) (p2 : Int32) (sz : Nat) (R : Int32 × (Int32 × Int32) × ld_gT) (h : lf_next dk G p0 p1 p2 = R) : Met l y_next (Cond.code y_next prog_1_method_3_code 4 (some .boolean) :: bgT) ({ frames := 2, cells := 0, slots := 0, locals := 44 }) (ld_PM D cI cZ cJ (ld_dW a dk ++ ld_gW a cI G) sz [.ref (a 0), .int p0, .int p1, .int p2]) (ld_QI D (ld_dW a R.2.1 ++ ld_gW a cI R.2.2) (va_A (ld_dW a dk ++ ld_gW a cI G) sz) R.1) 0 0 ((va_A (ld_dW a dk ++ ld_gW a cI G) sz)) := by
  refine Met.ofW (cc := prog_1_method_3_code) (maxL := 4) (ret := (some .boolean)) (by decide) rfl ?_
  intro p e s m args below meth c s₁ B hml hv
  obtain ⟨rfl, hsz, hP, hK, hD0, hN⟩ := hv
  have hx := B.exec
  have hb := B.bytes
  have hr := B.returns
  have hg : ∀ w ∈ bgT, w.before _ s = true := fun w h => atoms_spec (ws := (Cond.code y_next prog_1_method_3_code 4 (some .boolean) :: bgT)) B.pre w (List.mem_cons_of_mem _ h)
  have hown : s.vm.findClass "LoanDesk" = some m.cls := findClass_of_methodNamed B.named
  have hlocks := B.notSynchronized
  subst hsz
  have hD := hD0.self (sz := s.heap.size)
  generalize hAe : va_A (ld_dW a dk ++ ld_gW a cI G) s.heap.size = A at hD ⊢
  have hA : ∀ q : Nat, s.heap.size ≤ q → A q := fun q h => by rw [← hAe]; exact Or.inr h
  have hS : va_S A s.heap s.heap [] := va_S.rf
  have hl := lv_entry ([.ref (a 0), .int p0, .int p1, .int p2]) (n := 4) (Nat.le_of_ble_eq_true rfl)
  rw [lg_entry_eq]
  generalize (lg_sl ([.ref (a 0), .int p0, .int p1, .int p2]) ++ List.replicate (4 - (lg_sl ([.ref (a 0), .int p0, .int p1, .int p2])).length) Slot.unset).toArray = ls at hl ⊢
  have hl : lv_has ls 4 [(0, .ref (a 0)), (1, .int p0), (2, .int p1), (3, .int p2)] := hl
  refine lv_aload_n hx hb d_next_0 rfl (lv_at hl 0 rfl) ?_
  refine va_get (D := D) (ci := 6) (v := .ref (a 1)) (C := "LoanDesk") (T := T_Desk) (N := 7) hx hb hg u_Desk hown hK hP 0 rfl rfl 0 (by decide) (hg _ k_109) (fun _ h9 => h9) rfl d_next_1 ?_
  refine lv_iload_n hx hb d_next_4 rfl (lv_at hl 1 rfl) ?_
  obtain ⟨r_1, e_1, h⟩ := ld_nm h
  refine ld_rd (W.runV (As := [.int p0]) (rest := []) ⟨hx, hb, hml, hown, hg⟩ (lc_isPoint l D cI cZ cJ a G p0 r_1 e_1) ⟨callB_of 1 hg (ld_gd k_155) rfl rfl rfl (hg _ k_24) (hg _ k_152) hd_isPoint ⟨Nat.le_of_ble_eq_true rfl, Nat.le_of_ble_eq_true rfl⟩, hg _ k_153, hg _ k_154⟩ (ld_preRV hP hK hN [1, 2, 3, 4, 5, 6, 7] rfl 0 0 rfl rfl) rfl rfl hl.1 rfl (lv_room (Nat.le_of_ble_eq_true rfl)) d_next_5 ⟨Nat.zero_le _, Nat.zero_le _⟩) ?_
  refine lv_if_eq (tgt := 25) hx hb d_next_8 (by decide) (fun c_2 => ?_) (fun c_2 => ?_)
  · have h := (if_pos c_2).symm.trans h
    refine lv_iconst (v := 0) hx hb d_next_25 (by decide) ?_
    subst h
    exact W.zret (v := 0) hx hb hr rfl (fun t ht hW => ⟨⟨_, (), rfl, rfl, by rw [ht]; exact hP, hD⟩, hS.F ht⟩) hS.2.2 d_next_26
  · have h := (if_neg c_2).symm.trans h
    refine lv_iload_n hx hb d_next_11 rfl (lv_at hl 2 rfl) ?_
    obtain ⟨r_3, e_3, h⟩ := ld_nm h
    refine ld_rd (W.runS (As := [.int p1]) (rest := []) ⟨hx, hb, hml, hown, hg⟩ (lc_isNext l D cI cZ cJ p1 r_3 e_3) ⟨callB_of 1 hg (ld_gd k_158) rfl rfl rfl (hg _ k_23) (hg _ k_156) hd_isNext ⟨Nat.le_of_ble_eq_true rfl, Nat.le_of_ble_eq_true rfl⟩, hg _ k_157⟩ (ld_preR hP hK hN [] rfl) rfl rfl hl.1 rfl (lv_room (Nat.le_of_ble_eq_true rfl)) d_next_12 ⟨Nat.zero_le _, Nat.zero_le _⟩) ?_
    refine lv_if_eq (tgt := 25) hx hb d_next_15 (by decide) (fun c_4 => ?_) (fun c_4 => ?_)
    · have h := (if_pos c_4).symm.trans h
      refine lv_iconst (v := 0) hx hb d_next_25 (by decide) ?_
      subst h
      exact W.zret (v := 0) hx hb hr rfl (fun t ht hW => ⟨⟨_, (), rfl, rfl, by rw [ht]; exact hP, hD⟩, hS.F ht⟩) hS.2.2 d_next_26
    · have h := (if_neg c_4).symm.trans h
      refine lv_iload_n hx hb d_next_18 rfl (lv_at hl 3 rfl) ?_
      obtain ⟨r_5, e_5, h⟩ := ld_nm h
      refine ld_rd (W.runS (As := [.int p2]) (rest := []) ⟨hx, hb, hml, hown, hg⟩ (lc_isNext l D cI cZ cJ p2 r_5 e_5) ⟨callB_of 1 hg (ld_gd k_158) rfl rfl rfl (hg _ k_23) (hg _ k_156) hd_isNext ⟨Nat.le_of_ble_eq_true rfl, Nat.le_of_ble_eq_true rfl⟩, hg _ k_157⟩ (ld_preR hP hK hN [] rfl) rfl rfl hl.1 rfl (lv_room (Nat.le_of_ble_eq_true rfl)) d_next_19 ⟨Nat.zero_le _, Nat.zero_le _⟩) ?_
      refine lv_if_ne (tgt := 27) hx hb d_next_22 (by decide) (fun c_6 => ?_) (fun c_6 => ?_)
      · have h := (if_neg c_6).symm.trans h
        refine lv_aload_n hx hb d_next_27 rfl (lv_at hl 0 rfl) ?_
        obtain ⟨r_7, e_7, h⟩ := ld_nm h
        refine ld_mv (wr := ([1, 2, 3, 4, 5, 6, 7] : List Nat).filterMap (fun i => (ld_dW a dk ++ ld_gW a cI G)[i]?)) (ws2 := ld_dW a r_7 ++ ld_gW a cI G) (va_runV (As := []) (rest := []) ⟨hx, hb, hml, hown, hg⟩ (lc_forget l D cI cZ cJ a dk _ r_7 e_7) ⟨callB_of 0 hg (ld_gd k_142) rfl rfl rfl (hg _ k_23) (hg _ k_140) hd_forget ⟨Nat.le_of_ble_eq_true rfl, Nat.le_of_ble_eq_true rfl⟩, hg _ k_141, hg _ k_0⟩ (ld_preMV hP hK hN hD [0] (by decide) rfl 6 0 rfl rfl) rfl rfl hl.1 rfl (lv_room (Nat.le_of_ble_eq_true rfl)) d_next_28 ⟨Nat.zero_le _, Nat.zero_le _⟩) hP hD hS hA [0] [1, 2, 3, 4, 5, 6, 7] [7, 0, 1, 2, 3, 4, 5, 6] rfl rfl (by decide) (by decide) (by decide) rfl (fun H locs hP hD hS => ?_)
        refine lv_aload_n hx hb d_next_31 rfl (lv_at hl 0 rfl) ?_
        refine va_get (D := D) (ci := 6) (v := .ref (a 1)) (C := "LoanDesk") (T := T_Desk) (N := 7) hx hb hg u_Desk hown hK hP 0 rfl rfl 0 (by decide) (hg _ k_109) (fun _ h9 => h9) rfl d_next_32 ?_
        refine lv_iload_n hx hb d_next_35 rfl (lv_at hl 1 rfl) ?_
        refine lv_iload_n hx hb d_next_36 rfl (lv_at hl 2 rfl) ?_
        refine lv_iload_n hx hb d_next_37 rfl (lv_at hl 3 rfl) ?_
        obtain ⟨r_8, e_8, h⟩ := ld_nm h
        refine ld_mv (wr := ([0] : List Nat).filterMap (fun i => (ld_dW a r_7 ++ ld_gW a cI G)[i]?)) (ws2 := ld_dW a r_7 ++ ld_gW a cI r_8) (va_runV (As := [.int p0, .int p1, .int p2]) (rest := []) ⟨hx, hb, hml, hown, hg⟩ (lc_tellNext l D cI cZ cJ a G p0 p1 p2 _ r_8 e_8) ⟨callB_of 3 hg (ld_gd k_165) rfl rfl rfl (hg _ k_24) (hg _ k_162) hd_tellNext ⟨Nat.le_of_ble_eq_true rfl, Nat.le_of_ble_eq_true rfl⟩, hg _ k_163, hg _ k_164⟩ (ld_preMV hP hK hN hD [1, 2, 3, 4, 5, 6, 7] (by decide) rfl 0 0 rfl rfl) rfl rfl hl.1 rfl (lv_room (Nat.le_of_ble_eq_true rfl)) d_next_38 ⟨Nat.zero_le _, Nat.zero_le _⟩) hP hD hS hA [1, 2, 3, 4, 5, 6, 7] [0] [0, 1, 2, 3, 4, 5, 6, 7] rfl rfl (by decide) (by decide) (by decide) rfl (fun H locs hP hD hS => ?_)
        refine lv_iconst (v := 1) hx hb d_next_41 (by decide) ?_
        subst h
        exact W.zret (v := 1) hx hb hr rfl (fun t ht hW => ⟨⟨_, (), rfl, rfl, by rw [ht]; exact hP, hD⟩, hS.F ht⟩) hS.2.2 d_next_42
      · have h := (if_pos c_6).symm.trans h
        refine lv_iconst (v := 0) hx hb d_next_25 (by decide) ?_
        subst h
        exact W.zret (v := 0) hx hb hr rfl (fun t ht hW => ⟨⟨_, (), rfl, rfl, by rw [ht]; exact hP, hD⟩, hS.F ht⟩) hS.2.2 d_next_26
def lm_isReached (N : Nat) (dk : Int32 × Int32) (G : ld_gT) (rc : Nat → Int32) (q : ld_pT) (u : Nat → Int32) (p0 : Int32) : Option (Int32 × (Int32 × Int32) × (Nat → Int32) × ld_pT × (Nat → Int32)) := ld_lt (lf_isPoint G p0) (fun r_1 => if r_1 = 0 then some (0, dk, rc, q, u) else Option.bind (lm_findWays N dk G rc q u) (fun r_3 => ld_lt (lf_comesTo r_3.2.1 p0) (fun r_4 => some (r_4, r_3.1, r_3.2.1, r_3.2.2.1, r_3.2.2.2))))
set_option maxHeartbeats 4000000 in
set_option maxRecDepth 100000 in
theorem lc_isReached (l : Launch) (D : va_G) (cI cZ cJ : ClassId) (a : Nat → Nat) (dk : Int32 × Int32) (G : ld_gT) (rc : Nat → Int32) (q : ld_pT) (u : Nat → Int32) (p0 : Int32) (sz : Nat) (N : Nat) (R : Int32 × (Int32 × Int32) × (Nat → Int32) × ld_pT × (Nat → Int32)) (h : lm_isReached N dk G rc q u p0 = some R) : Met l y_isReached (Cond.code y_isReached prog_1_method_4_code 2 (some .boolean) :: bgT) ({ frames := 5, cells := 0, slots := 0, locals := 112 }) (ld_PM D cI cZ cJ (ld_dW a dk ++ ld_gW a cI G ++ ld_rW a cI rc ++ ld_pW (a 10) (a 11) (a 12) cI cZ q ++ ld_uW a cI u) sz [.ref (a 0), .int p0]) (ld_QI D (ld_dW a R.2.1 ++ ld_gW a cI G ++ ld_rW a cI R.2.2.1 ++ ld_pW (a 10) (a 11) (a 12) cI cZ R.2.2.2.1 ++ ld_uW a cI R.2.2.2.2) (va_A (ld_dW a dk ++ ld_gW a cI G ++ ld_rW a cI rc ++ ld_pW (a 10) (a 11) (a 12) cI cZ q ++ ld_uW a cI u) sz) R.1) 0 0 ((va_A (ld_dW a dk ++ ld_gW a cI G ++ ld_rW a cI rc ++ ld_pW (a 10) (a 11) (a 12) cI cZ q ++ ld_uW a cI u) sz)) := by
  refine Met.ofW (cc := prog_1_method_4_code) (maxL := 2) (ret := (some .boolean)) (by decide) rfl ?_
  intro p e s m args below meth c s₁ B hml hv
  obtain ⟨rfl, hsz, hP, hK, hD0, hN⟩ := hv
  have hx := B.exec
  have hb := B.bytes
  have hr := B.returns
  have hg : ∀ w ∈ bgT, w.before _ s = true := fun w h => atoms_spec (ws := (Cond.code y_isReached prog_1_method_4_code 2 (some .boolean) :: bgT)) B.pre w (List.mem_cons_of_mem _ h)
  have hown : s.vm.findClass "LoanDesk" = some m.cls := findClass_of_methodNamed B.named
  have hlocks := B.notSynchronized
  subst hsz
  have hD := hD0.self (sz := s.heap.size)
  generalize hAe : va_A (ld_dW a dk ++ ld_gW a cI G ++ ld_rW a cI rc ++ ld_pW (a 10) (a 11) (a 12) cI cZ q ++ ld_uW a cI u) s.heap.size = A at hD ⊢
  have hA : ∀ q : Nat, s.heap.size ≤ q → A q := fun q h => by rw [← hAe]; exact Or.inr h
  have hS : va_S A s.heap s.heap [] := va_S.rf
  have hl := lv_entry ([.ref (a 0), .int p0]) (n := 2) (Nat.le_of_ble_eq_true rfl)
  rw [lg_entry_eq]
  generalize (lg_sl ([.ref (a 0), .int p0]) ++ List.replicate (2 - (lg_sl ([.ref (a 0), .int p0])).length) Slot.unset).toArray = ls at hl ⊢
  have hl : lv_has ls 2 [(0, .ref (a 0)), (1, .int p0)] := hl
  refine lv_aload_n hx hb d_isReached_0 rfl (lv_at hl 0 rfl) ?_
  refine va_get (D := D) (ci := 6) (v := .ref (a 1)) (C := "LoanDesk") (T := T_Desk) (N := 7) hx hb hg u_Desk hown hK hP 0 rfl rfl 0 (by decide) (hg _ k_109) (fun _ h9 => h9) rfl d_isReached_1 ?_
  refine lv_iload_n hx hb d_isReached_4 rfl (lv_at hl 1 rfl) ?_
  obtain ⟨r_1, e_1, h⟩ := ld_nm h
  refine ld_rd (W.runV (As := [.int p0]) (rest := []) ⟨hx, hb, hml, hown, hg⟩ (lc_isPoint l D cI cZ cJ a G p0 r_1 e_1) ⟨callB_of 1 hg (ld_gd k_155) rfl rfl rfl (hg _ k_24) (hg _ k_152) hd_isPoint ⟨Nat.le_of_ble_eq_true rfl, Nat.le_of_ble_eq_true rfl⟩, hg _ k_153, hg _ k_154⟩ (ld_preRV hP hK hN [1, 2, 3, 4, 5, 6, 7] rfl 0 0 rfl rfl) rfl rfl hl.1 rfl (lv_room (Nat.le_of_ble_eq_true rfl)) d_isReached_5 ⟨Nat.zero_le _, Nat.zero_le _⟩) ?_
  refine lv_if_ne (tgt := 13) hx hb d_isReached_8 (by decide) (fun c_2 => ?_) (fun c_2 => ?_)
  · have h := (if_neg c_2).symm.trans h
    refine lv_aload_n hx hb d_isReached_13 rfl (lv_at hl 0 rfl) ?_
    obtain ⟨r_3, e_3, h⟩ := ld_ob h
    refine ld_mv (wr := ([] : List Nat).filterMap (fun i => (ld_dW a dk ++ ld_gW a cI G ++ ld_rW a cI rc ++ ld_pW (a 10) (a 11) (a 12) cI cZ q ++ ld_uW a cI u)[i]?)) (ws2 := ld_dW a r_3.1 ++ ld_gW a cI G ++ ld_rW a cI r_3.2.1 ++ ld_pW (a 10) (a 11) (a 12) cI cZ r_3.2.2.1 ++ ld_uW a cI r_3.2.2.2) (va_runV (As := []) (rest := []) ⟨hx, hb, hml, hown, hg⟩ (lc_findWays l D cI cZ cJ a dk G rc q u _ N r_3 e_3) ⟨callB_of 0 hg (ld_gd k_173) rfl rfl rfl (hg _ k_23) (hg _ k_171) hd_findWays ⟨Nat.le_of_ble_eq_true rfl, Nat.le_of_ble_eq_true rfl⟩, hg _ k_172, hg _ k_1⟩ (ld_preMV hP hK hN hD [0, 1, 2, 3, 4, 5, 6, 7, 8, 9, 10, 11, 12, 13, 14] (by decide) rfl 6 0 rfl rfl) rfl rfl hl.1 rfl (lv_room (Nat.le_of_ble_eq_true rfl)) d_isReached_14 ⟨Nat.zero_le _, Nat.zero_le _⟩) hP hD hS hA [0, 1, 2, 3, 4, 5, 6, 7, 8, 9, 10, 11, 12, 13, 14] [] [0, 1, 2, 3, 4, 5, 6, 7, 8, 9, 10, 11, 12, 13, 14] rfl rfl (by decide) (by decide) (by decide) rfl (fun H locs hP hD hS => ?_)
    refine lv_aload_n hx hb d_isReached_17 rfl (lv_at hl 0 rfl) ?_
    refine va_get (D := D) (ci := 6) (v := .ref (a 8)) (C := "LoanDesk") (T := T_Desk) (N := 7) hx hb hg u_Desk hown hK hP 0 rfl rfl 1 (by decide) (hg _ k_110) (fun _ h9 => h9) rfl d_isReached_18 ?_
    refine lv_iload_n hx hb d_isReached_21 rfl (lv_at hl 1 rfl) ?_
    obtain ⟨r_4, e_4, h⟩ := ld_nm h
    refine ld_rd (W.runV (As := [.int p0]) (rest := []) ⟨hx, hb, hml, hown, hg⟩ (lc_comesTo l D cI cZ cJ a r_3.2.1 p0 r_4 e_4) ⟨callB_of 1 hg (ld_gd k_188) rfl rfl rfl (hg _ k_25) (hg _ k_234) hd_comesTo ⟨Nat.le_of_ble_eq_true rfl, Nat.le_of_ble_eq_true rfl⟩, hg _ k_186, hg _ k_187⟩ (ld_preRV hP hK hN [8, 9] rfl 2 0 rfl rfl) rfl rfl hl.1 rfl (lv_room (Nat.le_of_ble_eq_true rfl)) d_isReached_22 ⟨Nat.zero_le _, Nat.zero_le _⟩) ?_
    have h := Option.some.inj h
    subst h
    exact W.zret (v := r_4) hx hb hr (lnb_comesTo e_4) (fun t ht hW => ⟨⟨_, (), rfl, rfl, by rw [ht]; exact hP, hD⟩, hS.F ht⟩) hS.2.2 d_isReached_25
  · have h := (if_pos c_2).symm.trans h
    refine lv_iconst (v := 0) hx hb d_isReached_11 (by decide) ?_
    have h := Option.some.inj h
    subst h
    exact W.zret (v := 0) hx hb hr rfl (fun t ht hW => ⟨⟨_, (), rfl, rfl, by rw [ht]; exact hP, hD⟩, hS.F ht⟩) hS.2.2 d_isReached_12
def lm_holders (N : Nat) (dk : Int32 × Int32) (G : ld_gT) (rc : Nat → Int32) (q : ld_pT) (u : Nat → Int32) (hh : (Nat → Int32) × (Nat → Int32)) (qq : ld_pT) (p0 : Int32) (p1 : Int32) : Option (Int32 × (Int32 × Int32) × (Nat → Int32) × ld_pT × (Nat → Int32) × ((Nat → Int32) × (Nat → Int32)) × ld_pT) := ld_lt (lf_isPoint G p0) (fun r_1 => if r_1 = 0 then some (0, dk, rc, q, u, hh, qq) else ld_lt (lf_isLoan G p1) (fun r_3 => if r_3 = 0 then some (0, dk, rc, q, u, hh, qq) else Option.bind (lm_findWays N dk G rc q u) (fun r_5 => ld_lt (lf_comesTo r_5.2.1 p1) (fun r_6 => if r_6 = 0 then some (0, r_5.1, r_5.2.1, r_5.2.2.1, r_5.2.2.2, hh, qq) else Option.bind (lm_follow N G hh qq p1) (fun r_8 => ld_lt (lf_hbehind r_8.1 p0) (fun r_9 => some (r_9, r_5.1, r_5.2.1, r_5.2.2.1, r_5.2.2.2, r_8.1, r_8.2)))))))
set_option maxHeartbeats 4000000 in
set_option maxRecDepth 100000 in
theorem lc_holders (l : Launch) (D : va_G) (cI cZ cJ : ClassId) (a : Nat → Nat) (dk : Int32 × Int32) (G : ld_gT) (rc : Nat → Int32) (q : ld_pT) (u : Nat → Int32) (hh : (Nat → Int32) × (Nat → Int32)) (qq : ld_pT) (p0 : Int32) (p1 : Int32) (sz : Nat) (N : Nat) (R : Int32 × (Int32 × Int32) × (Nat → Int32) × ld_pT × (Nat → Int32) × ((Nat → Int32) × (Nat → Int32)) × ld_pT) (h : lm_holders N dk G rc q u hh qq p0 p1 = some R) : Met l y_holders (Cond.code y_holders prog_1_method_5_code 3 (some .int) :: bgT) ({ frames := 5, cells := 0, slots := 0, locals := 112 }) (ld_PM D cI cZ cJ (ld_dW a dk ++ ld_gW a cI G ++ ld_rW a cI rc ++ ld_pW (a 10) (a 11) (a 12) cI cZ q ++ ld_uW a cI u ++ ld_hW a cI hh ++ ld_pW (a 18) (a 19) (a 20) cI cZ qq) sz [.ref (a 0), .int p0, .int p1]) (ld_QI D (ld_dW a R.2.1 ++ ld_gW a cI G ++ ld_rW a cI R.2.2.1 ++ ld_pW (a 10) (a 11) (a 12) cI cZ R.2.2.2.1 ++ ld_uW a cI R.2.2.2.2.1 ++ ld_hW a cI R.2.2.2.2.2.1 ++ ld_pW (a 18) (a 19) (a 20) cI cZ R.2.2.2.2.2.2) (va_A (ld_dW a dk ++ ld_gW a cI G ++ ld_rW a cI rc ++ ld_pW (a 10) (a 11) (a 12) cI cZ q ++ ld_uW a cI u ++ ld_hW a cI hh ++ ld_pW (a 18) (a 19) (a 20) cI cZ qq) sz) R.1) 0 0 ((va_A (ld_dW a dk ++ ld_gW a cI G ++ ld_rW a cI rc ++ ld_pW (a 10) (a 11) (a 12) cI cZ q ++ ld_uW a cI u ++ ld_hW a cI hh ++ ld_pW (a 18) (a 19) (a 20) cI cZ qq) sz)) := by
  refine Met.ofW (cc := prog_1_method_5_code) (maxL := 3) (ret := (some .int)) (by decide) rfl ?_
  intro p e s m args below meth c s₁ B hml hv
  obtain ⟨rfl, hsz, hP, hK, hD0, hN⟩ := hv
  have hx := B.exec
  have hb := B.bytes
  have hr := B.returns
  have hg : ∀ w ∈ bgT, w.before _ s = true := fun w h => atoms_spec (ws := (Cond.code y_holders prog_1_method_5_code 3 (some .int) :: bgT)) B.pre w (List.mem_cons_of_mem _ h)
  have hown : s.vm.findClass "LoanDesk" = some m.cls := findClass_of_methodNamed B.named
  have hlocks := B.notSynchronized
  subst hsz
  have hD := hD0.self (sz := s.heap.size)
  generalize hAe : va_A (ld_dW a dk ++ ld_gW a cI G ++ ld_rW a cI rc ++ ld_pW (a 10) (a 11) (a 12) cI cZ q ++ ld_uW a cI u ++ ld_hW a cI hh ++ ld_pW (a 18) (a 19) (a 20) cI cZ qq) s.heap.size = A at hD ⊢
  have hA : ∀ q : Nat, s.heap.size ≤ q → A q := fun q h => by rw [← hAe]; exact Or.inr h
  have hS : va_S A s.heap s.heap [] := va_S.rf
  have hl := lv_entry ([.ref (a 0), .int p0, .int p1]) (n := 3) (Nat.le_of_ble_eq_true rfl)
  rw [lg_entry_eq]
  generalize (lg_sl ([.ref (a 0), .int p0, .int p1]) ++ List.replicate (3 - (lg_sl ([.ref (a 0), .int p0, .int p1])).length) Slot.unset).toArray = ls at hl ⊢
  have hl : lv_has ls 3 [(0, .ref (a 0)), (1, .int p0), (2, .int p1)] := hl
  refine lv_aload_n hx hb d_holders_0 rfl (lv_at hl 0 rfl) ?_
  refine va_get (D := D) (ci := 6) (v := .ref (a 1)) (C := "LoanDesk") (T := T_Desk) (N := 7) hx hb hg u_Desk hown hK hP 0 rfl rfl 0 (by decide) (hg _ k_109) (fun _ h9 => h9) rfl d_holders_1 ?_
  refine lv_iload_n hx hb d_holders_4 rfl (lv_at hl 1 rfl) ?_
  obtain ⟨r_1, e_1, h⟩ := ld_nm h
  refine ld_rd (W.runV (As := [.int p0]) (rest := []) ⟨hx, hb, hml, hown, hg⟩ (lc_isPoint l D cI cZ cJ a G p0 r_1 e_1) ⟨callB_of 1 hg (ld_gd k_155) rfl rfl rfl (hg _ k_24) (hg _ k_152) hd_isPoint ⟨Nat.le_of_ble_eq_true rfl, Nat.le_of_ble_eq_true rfl⟩, hg _ k_153, hg _ k_154⟩ (ld_preRV hP hK hN [1, 2, 3, 4, 5, 6, 7] rfl 0 0 rfl rfl) rfl rfl hl.1 rfl (lv_room (Nat.le_of_ble_eq_true rfl)) d_holders_5 ⟨Nat.zero_le _, Nat.zero_le _⟩) ?_
  refine lv_if_eq (tgt := 22) hx hb d_holders_8 (by decide) (fun c_2 => ?_) (fun c_2 => ?_)
  · have h := (if_pos c_2).symm.trans h
    refine lv_iconst (v := 0) hx hb d_holders_22 (by decide) ?_
    have h := Option.some.inj h
    subst h
    exact W.iret (v := 0) hx hb hr (fun t ht hW => ⟨⟨_, (), rfl, rfl, by rw [ht]; exact hP, hD⟩, hS.F ht⟩) hS.2.2 d_holders_23
  · have h := (if_neg c_2).symm.trans h
    refine lv_aload_n hx hb d_holders_11 rfl (lv_at hl 0 rfl) ?_
    refine va_get (D := D) (ci := 6) (v := .ref (a 1)) (C := "LoanDesk") (T := T_Desk) (N := 7) hx hb hg u_Desk hown hK hP 0 rfl rfl 0 (by decide) (hg _ k_109) (fun _ h9 => h9) rfl d_holders_12 ?_
    refine lv_iload_n hx hb d_holders_15 rfl (lv_at hl 2 rfl) ?_
    obtain ⟨r_3, e_3, h⟩ := ld_nm h
    refine ld_rd (W.runV (As := [.int p1]) (rest := []) ⟨hx, hb, hml, hown, hg⟩ (lc_isLoan l D cI cZ cJ a G p1 r_3 e_3) ⟨callB_of 1 hg (ld_gd k_242) rfl rfl rfl (hg _ k_24) (hg _ k_239) hd_isLoan ⟨Nat.le_of_ble_eq_true rfl, Nat.le_of_ble_eq_true rfl⟩, hg _ k_240, hg _ k_241⟩ (ld_preRV hP hK hN [1, 2, 3, 4, 5, 6, 7] rfl 0 0 rfl rfl) rfl rfl hl.1 rfl (lv_room (Nat.le_of_ble_eq_true rfl)) d_holders_16 ⟨Nat.zero_le _, Nat.zero_le _⟩) ?_
    refine lv_if_ne (tgt := 24) hx hb d_holders_19 (by decide) (fun c_4 => ?_) (fun c_4 => ?_)
    · have h := (if_neg c_4).symm.trans h
      refine lv_aload_n hx hb d_holders_24 rfl (lv_at hl 0 rfl) ?_
      obtain ⟨r_5, e_5, h⟩ := ld_ob h
      refine ld_mv (wr := ([15, 16, 17, 18, 19, 20] : List Nat).filterMap (fun i => (ld_dW a dk ++ ld_gW a cI G ++ ld_rW a cI rc ++ ld_pW (a 10) (a 11) (a 12) cI cZ q ++ ld_uW a cI u ++ ld_hW a cI hh ++ ld_pW (a 18) (a 19) (a 20) cI cZ qq)[i]?)) (ws2 := ld_dW a r_5.1 ++ ld_gW a cI G ++ ld_rW a cI r_5.2.1 ++ ld_pW (a 10) (a 11) (a 12) cI cZ r_5.2.2.1 ++ ld_uW a cI r_5.2.2.2 ++ ld_hW a cI hh ++ ld_pW (a 18) (a 19) (a 20) cI cZ qq) (va_runV (As := []) (rest := []) ⟨hx, hb, hml, hown, hg⟩ (lc_findWays l D cI cZ cJ a dk G rc q u _ N r_5 e_5) ⟨callB_of 0 hg (ld_gd k_173) rfl rfl rfl (hg _ k_23) (hg _ k_171) hd_findWays ⟨Nat.le_of_ble_eq_true rfl, Nat.le_of_ble_eq_true rfl⟩, hg _ k_172, hg _ k_1⟩ (ld_preMV hP hK hN hD [0, 1, 2, 3, 4, 5, 6, 7, 8, 9, 10, 11, 12, 13, 14] (by decide) rfl 6 0 rfl rfl) rfl rfl hl.1 rfl (lv_room (Nat.le_of_ble_eq_true rfl)) d_holders_25 ⟨Nat.zero_le _, Nat.zero_le _⟩) hP hD hS hA [0, 1, 2, 3, 4, 5, 6, 7, 8, 9, 10, 11, 12, 13, 14] [15, 16, 17, 18, 19, 20] [6, 7, 8, 9, 10, 11, 12, 13, 14, 15, 16, 17, 18, 19, 20, 0, 1, 2, 3, 4, 5] rfl rfl (by decide) (by decide) (by decide) rfl (fun H locs hP hD hS => ?_)
      refine lv_aload_n hx hb d_holders_28 rfl (lv_at hl 0 rfl) ?_
      refine va_get (D := D) (ci := 6) (v := .ref (a 8)) (C := "LoanDesk") (T := T_Desk) (N := 7) hx hb hg u_Desk hown hK hP 0 rfl rfl 1 (by decide) (hg _ k_110) (fun _ h9 => h9) rfl d_holders_29 ?_
      refine lv_iload_n hx hb d_holders_32 rfl (lv_at hl 2 rfl) ?_
      obtain ⟨r_6, e_6, h⟩ := ld_nm h
      refine ld_rd (W.runV (As := [.int p1]) (rest := []) ⟨hx, hb, hml, hown, hg⟩ (lc_comesTo l D cI cZ cJ a r_5.2.1 p1 r_6 e_6) ⟨callB_of 1 hg (ld_gd k_188) rfl rfl rfl (hg _ k_25) (hg _ k_234) hd_comesTo ⟨Nat.le_of_ble_eq_true rfl, Nat.le_of_ble_eq_true rfl⟩, hg _ k_186, hg _ k_187⟩ (ld_preRV hP hK hN [8, 9] rfl 2 0 rfl rfl) rfl rfl hl.1 rfl (lv_room (Nat.le_of_ble_eq_true rfl)) d_holders_33 ⟨Nat.zero_le _, Nat.zero_le _⟩) ?_
      refine lv_if_ne (tgt := 41) hx hb d_holders_36 (by decide) (fun c_7 => ?_) (fun c_7 => ?_)
      · have h := (if_neg c_7).symm.trans h
        refine lv_aload_n hx hb d_holders_41 rfl (lv_at hl 0 rfl) ?_
        refine va_get (D := D) (ci := 6) (v := .ref (a 15)) (C := "LoanDesk") (T := T_Desk) (N := 7) hx hb hg u_Desk hown hK hP 0 rfl rfl 3 (by decide) (hg _ k_112) (fun _ h9 => h9) rfl d_holders_42 ?_
        refine lv_aload_n hx hb d_holders_45 rfl (lv_at hl 0 rfl) ?_
        refine va_get (D := D) (ci := 6) (v := .ref (a 1)) (C := "LoanDesk") (T := T_Desk) (N := 7) hx hb hg u_Desk hown hK hP 0 rfl rfl 0 (by decide) (hg _ k_109) (fun _ h9 => h9) rfl d_holders_46 ?_
        refine lv_iload_n hx hb d_holders_49 rfl (lv_at hl 2 rfl) ?_
        obtain ⟨r_8, e_8, h⟩ := ld_ob h
        refine ld_mv (wr := ([0, 8, 9, 10, 11, 12, 13, 14] : List Nat).filterMap (fun i => (ld_dW a r_5.1 ++ ld_gW a cI G ++ ld_rW a cI r_5.2.1 ++ ld_pW (a 10) (a 11) (a 12) cI cZ r_5.2.2.1 ++ ld_uW a cI r_5.2.2.2 ++ ld_hW a cI hh ++ ld_pW (a 18) (a 19) (a 20) cI cZ qq)[i]?)) (ws2 := ld_dW a r_5.1 ++ ld_gW a cI G ++ ld_rW a cI r_5.2.1 ++ ld_pW (a 10) (a 11) (a 12) cI cZ r_5.2.2.1 ++ ld_uW a cI r_5.2.2.2 ++ ld_hW a cI r_8.1 ++ ld_pW (a 18) (a 19) (a 20) cI cZ r_8.2) (va_runV (As := [.ref (a 1), .int p1]) (rest := []) ⟨hx, hb, hml, hown, hg⟩ (lc_follow l D cI cZ cJ a G hh qq p1 _ N r_8 e_8) ⟨callB_of 2 hg (ld_gd k_246) rfl rfl rfl (hg _ k_28) (hg _ k_243) hd_follow ⟨Nat.le_of_ble_eq_true rfl, Nat.le_of_ble_eq_true rfl⟩, hg _ k_244, hg _ k_245⟩ (ld_preMV hP hK hN hD [1, 2, 3, 4, 5, 6, 7, 15, 16, 17, 18, 19, 20] (by decide) rfl 4 7 rfl rfl) rfl rfl hl.1 rfl (lv_room (Nat.le_of_ble_eq_true rfl)) d_holders_50 ⟨Nat.zero_le _, Nat.zero_le _⟩) hP hD hS hA [1, 2, 3, 4, 5, 6, 7, 15, 16, 17, 18, 19, 20] [0, 8, 9, 10, 11, 12, 13, 14] [0, 8, 9, 10, 11, 12, 13, 14, 1, 2, 3, 4, 5, 6, 7, 15, 16, 17, 18, 19, 20] rfl rfl (by decide) (by decide) (by decide) rfl (fun H locs hP hD hS => ?_)
        refine lv_aload_n hx hb d_holders_53 rfl (lv_at hl 0 rfl) ?_
        refine va_get (D := D) (ci := 6) (v := .ref (a 15)) (C := "LoanDesk") (T := T_Desk) (N := 7) hx hb hg u_Desk hown hK hP 0 rfl rfl 3 (by decide) (hg _ k_112) (fun _ h9 => h9) rfl d_holders_54 ?_
        refine lv_iload_n hx hb d_holders_57 rfl (lv_at hl 1 rfl) ?_
        obtain ⟨r_9, e_9, h⟩ := ld_nm h
        refine ld_rd (W.runV (As := [.int p0]) (rest := []) ⟨hx, hb, hml, hown, hg⟩ (lc_hbehind l D cI cZ cJ a r_8.1 p0 r_9 e_9) ⟨callB_of 1 hg (ld_gd k_270) rfl rfl rfl (hg _ k_28) (hg _ k_267) hd_hbehind ⟨Nat.le_of_ble_eq_true rfl, Nat.le_of_ble_eq_true rfl⟩, hg _ k_268, hg _ k_269⟩ (ld_preRV hP hK hN [15, 16, 17] rfl 4 0 rfl rfl) rfl rfl hl.1 rfl (lv_room (Nat.le_of_ble_eq_true rfl)) d_holders_58 ⟨Nat.zero_le _, Nat.zero_le _⟩) ?_
        have h := Option.some.inj h
        subst h
        exact W.iret (v := r_9) hx hb hr (fun t ht hW => ⟨⟨_, (), rfl, rfl, by rw [ht]; exact hP, hD⟩, hS.F ht⟩) hS.2.2 d_holders_61
      · have h := (if_pos c_7).symm.trans h
        refine lv_iconst (v := 0) hx hb d_holders_39 (by decide) ?_
        have h := Option.some.inj h
        subst h
        exact W.iret (v := 0) hx hb hr (fun t ht hW => ⟨⟨_, (), rfl, rfl, by rw [ht]; exact hP, hD⟩, hS.F ht⟩) hS.2.2 d_holders_40
    · have h := (if_pos c_4).symm.trans h
      refine lv_iconst (v := 0) hx hb d_holders_22 (by decide) ?_
      have h := Option.some.inj h
      subst h
      exact W.iret (v := 0) hx hb hr (fun t ht hW => ⟨⟨_, (), rfl, rfl, by rw [ht]; exact hP, hD⟩, hS.F ht⟩) hS.2.2 d_holders_23
def lm_used (N : Nat) (dk : Int32 × Int32) (G : ld_gT) (rc : Nat → Int32) (q : ld_pT) (u : Nat → Int32) (p0 : Int32) : Option (Int32 × (Int32 × Int32) × (Nat → Int32) × ld_pT × (Nat → Int32)) := ld_lt (lf_isPoint G p0) (fun r_1 => if r_1 = 0 then some (0, dk, rc, q, u) else Option.bind (lm_findWays N dk G rc q u) (fun r_3 => ld_lt (lf_ubehind r_3.2.2.2 p0) (fun r_4 => some (r_4, r_3.1, r_3.2.1, r_3.2.2.1, r_3.2.2.2))))
set_option maxHeartbeats 4000000 in
set_option maxRecDepth 100000 in
theorem lc_used (l : Launch) (D : va_G) (cI cZ cJ : ClassId) (a : Nat → Nat) (dk : Int32 × Int32) (G : ld_gT) (rc : Nat → Int32) (q : ld_pT) (u : Nat → Int32) (p0 : Int32) (sz : Nat) (N : Nat) (R : Int32 × (Int32 × Int32) × (Nat → Int32) × ld_pT × (Nat → Int32)) (h : lm_used N dk G rc q u p0 = some R) : Met l y_used (Cond.code y_used prog_1_method_6_code 2 (some .int) :: bgT) ({ frames := 5, cells := 0, slots := 0, locals := 112 }) (ld_PM D cI cZ cJ (ld_dW a dk ++ ld_gW a cI G ++ ld_rW a cI rc ++ ld_pW (a 10) (a 11) (a 12) cI cZ q ++ ld_uW a cI u) sz [.ref (a 0), .int p0]) (ld_QI D (ld_dW a R.2.1 ++ ld_gW a cI G ++ ld_rW a cI R.2.2.1 ++ ld_pW (a 10) (a 11) (a 12) cI cZ R.2.2.2.1 ++ ld_uW a cI R.2.2.2.2) (va_A (ld_dW a dk ++ ld_gW a cI G ++ ld_rW a cI rc ++ ld_pW (a 10) (a 11) (a 12) cI cZ q ++ ld_uW a cI u) sz) R.1) 0 0 ((va_A (ld_dW a dk ++ ld_gW a cI G ++ ld_rW a cI rc ++ ld_pW (a 10) (a 11) (a 12) cI cZ q ++ ld_uW a cI u) sz)) := by
  refine Met.ofW (cc := prog_1_method_6_code) (maxL := 2) (ret := (some .int)) (by decide) rfl ?_
  intro p e s m args below meth c s₁ B hml hv
  obtain ⟨rfl, hsz, hP, hK, hD0, hN⟩ := hv
  have hx := B.exec
  have hb := B.bytes
  have hr := B.returns
  have hg : ∀ w ∈ bgT, w.before _ s = true := fun w h => atoms_spec (ws := (Cond.code y_used prog_1_method_6_code 2 (some .int) :: bgT)) B.pre w (List.mem_cons_of_mem _ h)
  have hown : s.vm.findClass "LoanDesk" = some m.cls := findClass_of_methodNamed B.named
  have hlocks := B.notSynchronized
  subst hsz
  have hD := hD0.self (sz := s.heap.size)
  generalize hAe : va_A (ld_dW a dk ++ ld_gW a cI G ++ ld_rW a cI rc ++ ld_pW (a 10) (a 11) (a 12) cI cZ q ++ ld_uW a cI u) s.heap.size = A at hD ⊢
  have hA : ∀ q : Nat, s.heap.size ≤ q → A q := fun q h => by rw [← hAe]; exact Or.inr h
  have hS : va_S A s.heap s.heap [] := va_S.rf
  have hl := lv_entry ([.ref (a 0), .int p0]) (n := 2) (Nat.le_of_ble_eq_true rfl)
  rw [lg_entry_eq]
  generalize (lg_sl ([.ref (a 0), .int p0]) ++ List.replicate (2 - (lg_sl ([.ref (a 0), .int p0])).length) Slot.unset).toArray = ls at hl ⊢
  have hl : lv_has ls 2 [(0, .ref (a 0)), (1, .int p0)] := hl
  refine lv_aload_n hx hb d_used_0 rfl (lv_at hl 0 rfl) ?_
  refine va_get (D := D) (ci := 6) (v := .ref (a 1)) (C := "LoanDesk") (T := T_Desk) (N := 7) hx hb hg u_Desk hown hK hP 0 rfl rfl 0 (by decide) (hg _ k_109) (fun _ h9 => h9) rfl d_used_1 ?_
  refine lv_iload_n hx hb d_used_4 rfl (lv_at hl 1 rfl) ?_
  obtain ⟨r_1, e_1, h⟩ := ld_nm h
  refine ld_rd (W.runV (As := [.int p0]) (rest := []) ⟨hx, hb, hml, hown, hg⟩ (lc_isPoint l D cI cZ cJ a G p0 r_1 e_1) ⟨callB_of 1 hg (ld_gd k_155) rfl rfl rfl (hg _ k_24) (hg _ k_152) hd_isPoint ⟨Nat.le_of_ble_eq_true rfl, Nat.le_of_ble_eq_true rfl⟩, hg _ k_153, hg _ k_154⟩ (ld_preRV hP hK hN [1, 2, 3, 4, 5, 6, 7] rfl 0 0 rfl rfl) rfl rfl hl.1 rfl (lv_room (Nat.le_of_ble_eq_true rfl)) d_used_5 ⟨Nat.zero_le _, Nat.zero_le _⟩) ?_
  refine lv_if_ne (tgt := 13) hx hb d_used_8 (by decide) (fun c_2 => ?_) (fun c_2 => ?_)
  · have h := (if_neg c_2).symm.trans h
    refine lv_aload_n hx hb d_used_13 rfl (lv_at hl 0 rfl) ?_
    obtain ⟨r_3, e_3, h⟩ := ld_ob h
    refine ld_mv (wr := ([] : List Nat).filterMap (fun i => (ld_dW a dk ++ ld_gW a cI G ++ ld_rW a cI rc ++ ld_pW (a 10) (a 11) (a 12) cI cZ q ++ ld_uW a cI u)[i]?)) (ws2 := ld_dW a r_3.1 ++ ld_gW a cI G ++ ld_rW a cI r_3.2.1 ++ ld_pW (a 10) (a 11) (a 12) cI cZ r_3.2.2.1 ++ ld_uW a cI r_3.2.2.2) (va_runV (As := []) (rest := []) ⟨hx, hb, hml, hown, hg⟩ (lc_findWays l D cI cZ cJ a dk G rc q u _ N r_3 e_3) ⟨callB_of 0 hg (ld_gd k_173) rfl rfl rfl (hg _ k_23) (hg _ k_171) hd_findWays ⟨Nat.le_of_ble_eq_true rfl, Nat.le_of_ble_eq_true rfl⟩, hg _ k_172, hg _ k_1⟩ (ld_preMV hP hK hN hD [0, 1, 2, 3, 4, 5, 6, 7, 8, 9, 10, 11, 12, 13, 14] (by decide) rfl 6 0 rfl rfl) rfl rfl hl.1 rfl (lv_room (Nat.le_of_ble_eq_true rfl)) d_used_14 ⟨Nat.zero_le _, Nat.zero_le _⟩) hP hD hS hA [0, 1, 2, 3, 4, 5, 6, 7, 8, 9, 10, 11, 12, 13, 14] [] [0, 1, 2, 3, 4, 5, 6, 7, 8, 9, 10, 11, 12, 13, 14] rfl rfl (by decide) (by decide) (by decide) rfl (fun H locs hP hD hS => ?_)
    refine lv_aload_n hx hb d_used_17 rfl (lv_at hl 0 rfl) ?_
    refine va_get (D := D) (ci := 6) (v := .ref (a 13)) (C := "LoanDesk") (T := T_Desk) (N := 7) hx hb hg u_Desk hown hK hP 0 rfl rfl 2 (by decide) (hg _ k_111) (fun _ h9 => h9) rfl d_used_18 ?_
    refine lv_iload_n hx hb d_used_21 rfl (lv_at hl 1 rfl) ?_
    obtain ⟨r_4, e_4, h⟩ := ld_nm h
    refine ld_rd (W.runV (As := [.int p0]) (rest := []) ⟨hx, hb, hml, hown, hg⟩ (lc_ubehind l D cI cZ cJ a r_3.2.2.2 p0 r_4 e_4) ⟨callB_of 1 hg (ld_gd k_229) rfl rfl rfl (hg _ k_27) (hg _ k_275) hd_ubehind ⟨Nat.le_of_ble_eq_true rfl, Nat.le_of_ble_eq_true rfl⟩, hg _ k_227, hg _ k_228⟩ (ld_preRV hP hK hN [13, 14] rfl 3 0 rfl rfl) rfl rfl hl.1 rfl (lv_room (Nat.le_of_ble_eq_true rfl)) d_used_22 ⟨Nat.zero_le _, Nat.zero_le _⟩) ?_
    have h := Option.some.inj h
    subst h
    exact W.iret (v := r_4) hx hb hr (fun t ht hW => ⟨⟨_, (), rfl, rfl, by rw [ht]; exact hP, hD⟩, hS.F ht⟩) hS.2.2 d_used_25
  · have h := (if_pos c_2).symm.trans h
    refine lv_iconst (v := 0) hx hb d_used_11 (by decide) ?_
    have h := Option.some.inj h
    subst h
    exact W.iret (v := 0) hx hb hr (fun t ht hW => ⟨⟨_, (), rfl, rfl, by rw [ht]; exact hP, hD⟩, hS.F ht⟩) hS.2.2 d_used_12
def lm_isAlive (N : Nat) (dk : Int32 × Int32) (G : ld_gT) (rc : Nat → Int32) (q : ld_pT) (u : Nat → Int32) (hh : (Nat → Int32) × (Nat → Int32)) (qq : ld_pT) (p0 : Int32) (p1 : Int32) : Option (Int32 × (Int32 × Int32) × (Nat → Int32) × ld_pT × (Nat → Int32) × ((Nat → Int32) × (Nat → Int32)) × ld_pT) := Option.bind (lm_holders N dk G rc q u hh qq p0 p1) (fun r_1 => Option.bind (lm_used N r_1.2.1 G r_1.2.2.1 r_1.2.2.2.1 r_1.2.2.2.2.1 p0) (fun r_2 => if (r_1.1 &&& r_2.1) = 0 then some (0, r_2.2.1, r_2.2.2.1, r_2.2.2.2.1, r_2.2.2.2.2, r_1.2.2.2.2.2.1, r_1.2.2.2.2.2.2) else some (1, r_2.2.1, r_2.2.2.1, r_2.2.2.2.1, r_2.2.2.2.2, r_1.2.2.2.2.2.1, r_1.2.2.2.2.2.2)))
set_option maxHeartbeats 4000000 in
set_option maxRecDepth 100000 in
theorem lc_isAlive (l : Launch) (D : va_G) (cI cZ cJ : ClassId) (a : Nat → Nat) (dk : Int32 × Int32) (G : ld_gT) (rc : Nat → Int32) (q : ld_pT) (u : Nat → Int32) (hh : (Nat → Int32) × (Nat → Int32)) (qq : ld_pT) (p0 : Int32) (p1 : Int32) (sz : Nat) (N : Nat) (R : Int32 × (Int32 × Int32) × (Nat → Int32) × ld_pT × (Nat → Int32) × ((Nat → Int32) × (Nat → Int32)) × ld_pT) (h : lm_isAlive N dk G rc q u hh qq p0 p1 = some R) : Met l y_isAlive (Cond.code y_isAlive prog_1_method_7_code 3 (some .boolean) :: bgT) ({ frames := 6, cells := 0, slots := 0, locals := 134 }) (ld_PM D cI cZ cJ (ld_dW a dk ++ ld_gW a cI G ++ ld_rW a cI rc ++ ld_pW (a 10) (a 11) (a 12) cI cZ q ++ ld_uW a cI u ++ ld_hW a cI hh ++ ld_pW (a 18) (a 19) (a 20) cI cZ qq) sz [.ref (a 0), .int p0, .int p1]) (ld_QI D (ld_dW a R.2.1 ++ ld_gW a cI G ++ ld_rW a cI R.2.2.1 ++ ld_pW (a 10) (a 11) (a 12) cI cZ R.2.2.2.1 ++ ld_uW a cI R.2.2.2.2.1 ++ ld_hW a cI R.2.2.2.2.2.1 ++ ld_pW (a 18) (a 19) (a 20) cI cZ R.2.2.2.2.2.2) (va_A (ld_dW a dk ++ ld_gW a cI G ++ ld_rW a cI rc ++ ld_pW (a 10) (a 11) (a 12) cI cZ q ++ ld_uW a cI u ++ ld_hW a cI hh ++ ld_pW (a 18) (a 19) (a 20) cI cZ qq) sz) R.1) 0 0 ((va_A (ld_dW a dk ++ ld_gW a cI G ++ ld_rW a cI rc ++ ld_pW (a 10) (a 11) (a 12) cI cZ q ++ ld_uW a cI u ++ ld_hW a cI hh ++ ld_pW (a 18) (a 19) (a 20) cI cZ qq) sz)) := by
  refine Met.ofW (cc := prog_1_method_7_code) (maxL := 3) (ret := (some .boolean)) (by decide) rfl ?_
  intro p e s m args below meth c s₁ B hml hv
  obtain ⟨rfl, hsz, hP, hK, hD0, hN⟩ := hv
  have hx := B.exec
  have hb := B.bytes
  have hr := B.returns
  have hg : ∀ w ∈ bgT, w.before _ s = true := fun w h => atoms_spec (ws := (Cond.code y_isAlive prog_1_method_7_code 3 (some .boolean) :: bgT)) B.pre w (List.mem_cons_of_mem _ h)
  have hown : s.vm.findClass "LoanDesk" = some m.cls := findClass_of_methodNamed B.named
  have hlocks := B.notSynchronized
  subst hsz
  have hD := hD0.self (sz := s.heap.size)
  generalize hAe : va_A (ld_dW a dk ++ ld_gW a cI G ++ ld_rW a cI rc ++ ld_pW (a 10) (a 11) (a 12) cI cZ q ++ ld_uW a cI u ++ ld_hW a cI hh ++ ld_pW (a 18) (a 19) (a 20) cI cZ qq) s.heap.size = A at hD ⊢
  have hA : ∀ q : Nat, s.heap.size ≤ q → A q := fun q h => by rw [← hAe]; exact Or.inr h
  have hS : va_S A s.heap s.heap [] := va_S.rf
  have hl := lv_entry ([.ref (a 0), .int p0, .int p1]) (n := 3) (Nat.le_of_ble_eq_true rfl)
  rw [lg_entry_eq]
  generalize (lg_sl ([.ref (a 0), .int p0, .int p1]) ++ List.replicate (3 - (lg_sl ([.ref (a 0), .int p0, .int p1])).length) Slot.unset).toArray = ls at hl ⊢
  have hl : lv_has ls 3 [(0, .ref (a 0)), (1, .int p0), (2, .int p1)] := hl
  refine lv_aload_n hx hb d_isAlive_0 rfl (lv_at hl 0 rfl) ?_
  refine lv_iload_n hx hb d_isAlive_1 rfl (lv_at hl 1 rfl) ?_
  refine lv_iload_n hx hb d_isAlive_2 rfl (lv_at hl 2 rfl) ?_
  obtain ⟨r_1, e_1, h⟩ := ld_ob h
  refine ld_mi (wr := ([] : List Nat).filterMap (fun i => (ld_dW a dk ++ ld_gW a cI G ++ ld_rW a cI rc ++ ld_pW (a 10) (a 11) (a 12) cI cZ q ++ ld_uW a cI u ++ ld_hW a cI hh ++ ld_pW (a 18) (a 19) (a 20) cI cZ qq)[i]?)) (ws2 := ld_dW a r_1.2.1 ++ ld_gW a cI G ++ ld_rW a cI r_1.2.2.1 ++ ld_pW (a 10) (a 11) (a 12) cI cZ r_1.2.2.2.1 ++ ld_uW a cI r_1.2.2.2.2.1 ++ ld_hW a cI r_1.2.2.2.2.2.1 ++ ld_pW (a 18) (a 19) (a 20) cI cZ r_1.2.2.2.2.2.2) (va_runV (As := [.int p0, .int p1]) (rest := []) ⟨hx, hb, hml, hown, hg⟩ (lc_holders l D cI cZ cJ a dk G rc q u hh qq p0 p1 _ N r_1 e_1) ⟨callB_of 2 hg (ld_gd k_238) rfl rfl rfl (hg _ k_23) (hg _ k_280) hd_holders ⟨Nat.le_of_ble_eq_true rfl, Nat.le_of_ble_eq_true rfl⟩, hg _ k_236, hg _ k_237⟩ (ld_preMV hP hK hN hD [0, 1, 2, 3, 4, 5, 6, 7, 8, 9, 10, 11, 12, 13, 14, 15, 16, 17, 18, 19, 20] (by decide) rfl 6 0 rfl rfl) rfl rfl hl.1 rfl (lv_room (Nat.le_of_ble_eq_true rfl)) d_isAlive_3 ⟨Nat.zero_le _, Nat.zero_le _⟩) hP hD hS hA [0, 1, 2, 3, 4, 5, 6, 7, 8, 9, 10, 11, 12, 13, 14, 15, 16, 17, 18, 19, 20] [] [0, 1, 2, 3, 4, 5, 6, 7, 8, 9, 10, 11, 12, 13, 14, 15, 16, 17, 18, 19, 20] rfl rfl (by decide) (by decide) (by decide) rfl (fun H locs hP hD hS => ?_)
  refine lv_aload_n hx hb d_isAlive_6 rfl (lv_at hl 0 rfl) ?_
  refine lv_iload_n hx hb d_isAlive_7 rfl (lv_at hl 1 rfl) ?_
  obtain ⟨r_2, e_2, h⟩ := ld_ob h
  refine ld_mi (wr := ([15, 16, 17, 18, 19, 20] : List Nat).filterMap (fun i => (ld_dW a r_1.2.1 ++ ld_gW a cI G ++ ld_rW a cI r_1.2.2.1 ++ ld_pW (a 10) (a 11) (a 12) cI cZ r_1.2.2.2.1 ++ ld_uW a cI r_1.2.2.2.2.1 ++ ld_hW a cI r_1.2.2.2.2.2.1 ++ ld_pW (a 18) (a 19) (a 20) cI cZ r_1.2.2.2.2.2.2)[i]?)) (ws2 := ld_dW a r_2.2.1 ++ ld_gW a cI G ++ ld_rW a cI r_2.2.2.1 ++ ld_pW (a 10) (a 11) (a 12) cI cZ r_2.2.2.2.1 ++ ld_uW a cI r_2.2.2.2.2 ++ ld_hW a cI r_1.2.2.2.2.2.1 ++ ld_pW (a 18) (a 19) (a 20) cI cZ r_1.2.2.2.2.2.2) (va_runV (As := [.int p0]) (rest := [.int r_1.1]) ⟨hx, hb, hml, hown, hg⟩ (lc_used l D cI cZ cJ a r_1.2.1 G r_1.2.2.1 r_1.2.2.2.1 r_1.2.2.2.2.1 p0 _ N r_2 e_2) ⟨callB_of 1 hg (ld_gd k_274) rfl rfl rfl (hg _ k_23) (hg _ k_281) hd_used ⟨Nat.le_of_ble_eq_true rfl, Nat.le_of_ble_eq_true rfl⟩, hg _ k_272, hg _ k_273⟩ (ld_preMV hP hK hN hD [0, 1, 2, 3, 4, 5, 6, 7, 8, 9, 10, 11, 12, 13, 14] (by decide) rfl 6 0 rfl rfl) rfl rfl hl.1 rfl (lv_room (Nat.le_of_ble_eq_true rfl)) d_isAlive_8 ⟨Nat.zero_le _, Nat.zero_le _⟩) hP hD hS hA [0, 1, 2, 3, 4, 5, 6, 7, 8, 9, 10, 11, 12, 13, 14] [15, 16, 17, 18, 19, 20] [6, 7, 8, 9, 10, 11, 12, 13, 14, 15, 16, 17, 18, 19, 20, 0, 1, 2, 3, 4, 5] rfl rfl (by decide) (by decide) (by decide) rfl (fun H locs hP hD hS => ?_)
  refine lv_iand hx hb d_isAlive_11 ?_
  refine lv_if_eq (tgt := 19) hx hb d_isAlive_12 (by decide) (fun c_3 => ?_) (fun c_3 => ?_)
  · have h := (if_pos c_3).symm.trans h
    refine lv_iconst (v := 0) hx hb d_isAlive_19 (by decide) ?_
    have h := Option.some.inj h
    subst h
    exact W.zret (v := 0) hx hb hr rfl (fun t ht hW => ⟨⟨_, (), rfl, rfl, by rw [ht]; exact hP, hD⟩, hS.F ht⟩) hS.2.2 d_isAlive_20
  · have h := (if_neg c_3).symm.trans h
    refine lv_iconst (v := 1) hx hb d_isAlive_15 (by decide) ?_
    refine lv_goto (tgt := 20) hx hb d_isAlive_16 (by decide) ?_
    have h := Option.some.inj h
    subst h
    exact W.zret (v := 1) hx hb hr rfl (fun t ht hW => ⟨⟨_, (), rfl, rfl, by rw [ht]; exact hP, hD⟩, hS.F ht⟩) hS.2.2 d_isAlive_20
def lm_met (N : Nat) (dk : Int32 × Int32) (G : ld_gT) (rc : Nat → Int32) (q : ld_pT) (u : Nat → Int32) (hh : (Nat → Int32) × (Nat → Int32)) (qq : ld_pT) (mw : Nat → Int64) (p0 : Int32) (p1 : Int32) : Option (Int32 × (Int32 × Int32) × (Nat → Int32) × ld_pT × (Nat → Int32) × ((Nat → Int32) × (Nat → Int32)) × ld_pT × (Nat → Int64)) := ld_lt (lf_isPoint G p0) (fun r_1 => if r_1 = 0 then some ((-1), dk, rc, q, u, hh, qq, mw) else Option.bind (lm_findMeet N dk G rc q u hh qq mw) (fun r_3 => Option.bind (lm_least N r_3.2.2.2.2.2.2 p0 p1) (fun r_4 => some (r_4, r_3.1, r_3.2.1, r_3.2.2.1, r_3.2.2.2.1, r_3.2.2.2.2.1, r_3.2.2.2.2.2.1, r_3.2.2.2.2.2.2))))
set_option maxHeartbeats 4000000 in
set_option maxRecDepth 100000 in
theorem lc_met (l : Launch) (D : va_G) (cI cZ cJ : ClassId) (a : Nat → Nat) (dk : Int32 × Int32) (G : ld_gT) (rc : Nat → Int32) (q : ld_pT) (u : Nat → Int32) (hh : (Nat → Int32) × (Nat → Int32)) (qq : ld_pT) (mw : Nat → Int64) (p0 : Int32) (p1 : Int32) (sz : Nat) (N : Nat) (R : Int32 × (Int32 × Int32) × (Nat → Int32) × ld_pT × (Nat → Int32) × ((Nat → Int32) × (Nat → Int32)) × ld_pT × (Nat → Int64)) (h : lm_met N dk G rc q u hh qq mw p0 p1 = some R) : Met l y_met (Cond.code y_met prog_1_method_8_code 3 (some .int) :: bgT) ({ frames := 6, cells := 0, slots := 0, locals := 133 }) (ld_PM D cI cZ cJ (ld_dW a dk ++ ld_gW a cI G ++ ld_rW a cI rc ++ ld_pW (a 10) (a 11) (a 12) cI cZ q ++ ld_uW a cI u ++ ld_hW a cI hh ++ ld_pW (a 18) (a 19) (a 20) cI cZ qq ++ ld_mW a cJ mw) sz [.ref (a 0), .int p0, .int p1]) (ld_QI D (ld_dW a R.2.1 ++ ld_gW a cI G ++ ld_rW a cI R.2.2.1 ++ ld_pW (a 10) (a 11) (a 12) cI cZ R.2.2.2.1 ++ ld_uW a cI R.2.2.2.2.1 ++ ld_hW a cI R.2.2.2.2.2.1 ++ ld_pW (a 18) (a 19) (a 20) cI cZ R.2.2.2.2.2.2.1 ++ ld_mW a cJ R.2.2.2.2.2.2.2) (va_A (ld_dW a dk ++ ld_gW a cI G ++ ld_rW a cI rc ++ ld_pW (a 10) (a 11) (a 12) cI cZ q ++ ld_uW a cI u ++ ld_hW a cI hh ++ ld_pW (a 18) (a 19) (a 20) cI cZ qq ++ ld_mW a cJ mw) sz) R.1) 0 0 ((va_A (ld_dW a dk ++ ld_gW a cI G ++ ld_rW a cI rc ++ ld_pW (a 10) (a 11) (a 12) cI cZ q ++ ld_uW a cI u ++ ld_hW a cI hh ++ ld_pW (a 18) (a 19) (a 20) cI cZ qq ++ ld_mW a cJ mw) sz)) := by
  refine Met.ofW (cc := prog_1_method_8_code) (maxL := 3) (ret := (some .int)) (by decide) rfl ?_
  intro p e s m args below meth c s₁ B hml hv
  obtain ⟨rfl, hsz, hP, hK, hD0, hN⟩ := hv
  have hx := B.exec
  have hb := B.bytes
  have hr := B.returns
  have hg : ∀ w ∈ bgT, w.before _ s = true := fun w h => atoms_spec (ws := (Cond.code y_met prog_1_method_8_code 3 (some .int) :: bgT)) B.pre w (List.mem_cons_of_mem _ h)
  have hown : s.vm.findClass "LoanDesk" = some m.cls := findClass_of_methodNamed B.named
  have hlocks := B.notSynchronized
  subst hsz
  have hD := hD0.self (sz := s.heap.size)
  generalize hAe : va_A (ld_dW a dk ++ ld_gW a cI G ++ ld_rW a cI rc ++ ld_pW (a 10) (a 11) (a 12) cI cZ q ++ ld_uW a cI u ++ ld_hW a cI hh ++ ld_pW (a 18) (a 19) (a 20) cI cZ qq ++ ld_mW a cJ mw) s.heap.size = A at hD ⊢
  have hA : ∀ q : Nat, s.heap.size ≤ q → A q := fun q h => by rw [← hAe]; exact Or.inr h
  have hS : va_S A s.heap s.heap [] := va_S.rf
  have hl := lv_entry ([.ref (a 0), .int p0, .int p1]) (n := 3) (Nat.le_of_ble_eq_true rfl)
  rw [lg_entry_eq]
  generalize (lg_sl ([.ref (a 0), .int p0, .int p1]) ++ List.replicate (3 - (lg_sl ([.ref (a 0), .int p0, .int p1])).length) Slot.unset).toArray = ls at hl ⊢
  have hl : lv_has ls 3 [(0, .ref (a 0)), (1, .int p0), (2, .int p1)] := hl
  refine lv_aload_n hx hb d_met_0 rfl (lv_at hl 0 rfl) ?_
  refine va_get (D := D) (ci := 6) (v := .ref (a 1)) (C := "LoanDesk") (T := T_Desk) (N := 7) hx hb hg u_Desk hown hK hP 0 rfl rfl 0 (by decide) (hg _ k_109) (fun _ h9 => h9) rfl d_met_1 ?_
  refine lv_iload_n hx hb d_met_4 rfl (lv_at hl 1 rfl) ?_
  obtain ⟨r_1, e_1, h⟩ := ld_nm h
  refine ld_rd (W.runV (As := [.int p0]) (rest := []) ⟨hx, hb, hml, hown, hg⟩ (lc_isPoint l D cI cZ cJ a G p0 r_1 e_1) ⟨callB_of 1 hg (ld_gd k_155) rfl rfl rfl (hg _ k_24) (hg _ k_152) hd_isPoint ⟨Nat.le_of_ble_eq_true rfl, Nat.le_of_ble_eq_true rfl⟩, hg _ k_153, hg _ k_154⟩ (ld_preRV hP hK hN [1, 2, 3, 4, 5, 6, 7] rfl 0 0 rfl rfl) rfl rfl hl.1 rfl (lv_room (Nat.le_of_ble_eq_true rfl)) d_met_5 ⟨Nat.zero_le _, Nat.zero_le _⟩) ?_
  refine lv_if_ne (tgt := 13) hx hb d_met_8 (by decide) (fun c_2 => ?_) (fun c_2 => ?_)
  · have h := (if_neg c_2).symm.trans h
    refine lv_aload_n hx hb d_met_13 rfl (lv_at hl 0 rfl) ?_
    obtain ⟨r_3, e_3, h⟩ := ld_ob h
    refine ld_mv (wr := ([] : List Nat).filterMap (fun i => (ld_dW a dk ++ ld_gW a cI G ++ ld_rW a cI rc ++ ld_pW (a 10) (a 11) (a 12) cI cZ q ++ ld_uW a cI u ++ ld_hW a cI hh ++ ld_pW (a 18) (a 19) (a 20) cI cZ qq ++ ld_mW a cJ mw)[i]?)) (ws2 := ld_dW a r_3.1 ++ ld_gW a cI G ++ ld_rW a cI r_3.2.1 ++ ld_pW (a 10) (a 11) (a 12) cI cZ r_3.2.2.1 ++ ld_uW a cI r_3.2.2.2.1 ++ ld_hW a cI r_3.2.2.2.2.1 ++ ld_pW (a 18) (a 19) (a 20) cI cZ r_3.2.2.2.2.2.1 ++ ld_mW a cJ r_3.2.2.2.2.2.2) (va_runV (As := []) (rest := []) ⟨hx, hb, hml, hown, hg⟩ (lc_findMeet l D cI cZ cJ a dk G rc q u hh qq mw _ N r_3 e_3) ⟨callB_of 0 hg (ld_gd k_288) rfl rfl rfl (hg _ k_23) (hg _ k_286) hd_findMeet ⟨Nat.le_of_ble_eq_true rfl, Nat.le_of_ble_eq_true rfl⟩, hg _ k_287, hg _ k_6⟩ (ld_preMV hP hK hN hD [0, 1, 2, 3, 4, 5, 6, 7, 8, 9, 10, 11, 12, 13, 14, 15, 16, 17, 18, 19, 20, 21, 22] (by decide) rfl 6 0 rfl rfl) rfl rfl hl.1 rfl (lv_room (Nat.le_of_ble_eq_true rfl)) d_met_14 ⟨Nat.zero_le _, Nat.zero_le _⟩) hP hD hS hA [0, 1, 2, 3, 4, 5, 6, 7, 8, 9, 10, 11, 12, 13, 14, 15, 16, 17, 18, 19, 20, 21, 22] [] [0, 1, 2, 3, 4, 5, 6, 7, 8, 9, 10, 11, 12, 13, 14, 15, 16, 17, 18, 19, 20, 21, 22] rfl rfl (by decide) (by decide) (by decide) rfl (fun H locs hP hD hS => ?_)
    refine lv_aload_n hx hb d_met_17 rfl (lv_at hl 0 rfl) ?_
    refine va_get (D := D) (ci := 6) (v := .ref (a 21)) (C := "LoanDesk") (T := T_Desk) (N := 7) hx hb hg u_Desk hown hK hP 0 rfl rfl 4 (by decide) (hg _ k_113) (fun _ h9 => h9) rfl d_met_18 ?_
    refine lv_iload_n hx hb d_met_21 rfl (lv_at hl 1 rfl) ?_
    refine lv_iload_n hx hb d_met_22 rfl (lv_at hl 2 rfl) ?_
    obtain ⟨r_4, e_4, h⟩ := ld_ob h
    refine ld_rd (W.runV (As := [.int p0, .int p1]) (rest := []) ⟨hx, hb, hml, hown, hg⟩ (lc_least l D cI cZ cJ a r_3.2.2.2.2.2.2 p0 p1 N r_4 e_4) ⟨callB_of 2 hg (ld_gd k_329) rfl rfl rfl (hg _ k_29) (hg _ k_326) hd_least ⟨Nat.le_of_ble_eq_true rfl, Nat.le_of_ble_eq_true rfl⟩, hg _ k_327, hg _ k_328⟩ (ld_preRV hP hK hN [21, 22] rfl 5 0 rfl rfl) rfl rfl hl.1 rfl (lv_room (Nat.le_of_ble_eq_true rfl)) d_met_23 ⟨Nat.zero_le _, Nat.zero_le _⟩) ?_
    have h := Option.some.inj h
    subst h
    exact W.iret (v := r_4) hx hb hr (fun t ht hW => ⟨⟨_, (), rfl, rfl, by rw [ht]; exact hP, hD⟩, hS.F ht⟩) hS.2.2 d_met_26
  · have h := (if_pos c_2).symm.trans h
    refine lv_iconst (v := (-1)) hx hb d_met_11 (by decide) ?_
    have h := Option.some.inj h
    subst h
    exact W.iret (v := (-1)) hx hb hr (fun t ht hW => ⟨⟨_, (), rfl, rfl, by rw [ht]; exact hP, hD⟩, hS.F ht⟩) hS.2.2 d_met_12
def lm_count (N : Nat) (dk : Int32 × Int32) (G : ld_gT) (rc : Nat → Int32) (q : ld_pT) (u : Nat → Int32) (hh : (Nat → Int32) × (Nat → Int32)) (qq : ld_pT) (mw : Nat → Int64) (p0 : Int32) : Option (Int32 × (Int32 × Int32) × (Nat → Int32) × ld_pT × (Nat → Int32) × ((Nat → Int32) × (Nat → Int32)) × ld_pT × (Nat → Int64)) := if p0 = 0 then (ld_lt (lf_gsize G) (fun r_2 => some (r_2, dk, rc, q, u, hh, qq, mw))) else (if p0 = 1 then (Option.bind (lm_findWays N dk G rc q u) (fun r_4 => Option.bind (lm_rcount N r_4.2.1) (fun r_5 => some (r_5, r_4.1, r_4.2.1, r_4.2.2.1, r_4.2.2.2, hh, qq, mw)))) else (if p0 = 2 then (Option.bind (lm_findMeet N dk G rc q u hh qq mw) (fun r_7 => Option.bind (lm_mcount N r_7.2.2.2.2.2.2) (fun r_8 => some (r_8, r_7.1, r_7.2.1, r_7.2.2.1, r_7.2.2.2.1, r_7.2.2.2.2.1, r_7.2.2.2.2.2.1, r_7.2.2.2.2.2.2)))) else (if p0 = 3 then (Option.bind (lm_findMeet N dk G rc q u hh qq mw) (fun r_10 => Option.bind (lm_mfirst N r_10.2.2.2.2.2.2) (fun r_11 => some (r_11, r_10.1, r_10.2.1, r_10.2.2.1, r_10.2.2.2.1, r_10.2.2.2.2.1, r_10.2.2.2.2.2.1, r_10.2.2.2.2.2.2)))) else (if p0 = 4 then Option.bind (lm_countLoans N G) (fun r_13 => some (r_13, dk, rc, q, u, hh, qq, mw)) else some ((-1), dk, rc, q, u, hh, qq, mw)))))
set_option maxHeartbeats 4000000 in
set_option maxRecDepth 100000 in
theorem lc_count (l : Launch) (D : va_G) (cI cZ cJ : ClassId) (a : Nat → Nat) (dk : Int32 × Int32) (G : ld_gT) (rc : Nat → Int32) (q : ld_pT) (u : Nat → Int32) (hh : (Nat → Int32) × (Nat → Int32)) (qq : ld_pT) (mw : Nat → Int64) (p0 : Int32) (sz : Nat) (N : Nat) (R : Int32 × (Int32 × Int32) × (Nat → Int32) × ld_pT × (Nat → Int32) × ((Nat → Int32) × (Nat → Int32)) × ld_pT × (Nat → Int64)) (h : lm_count N dk G rc q u hh qq mw p0 = some R) : Met l y_count (Cond.code y_count prog_1_method_9_code 2 (some .int) :: bgT) ({ frames := 6, cells := 0, slots := 0, locals := 133 }) (ld_PM D cI cZ cJ (ld_dW a dk ++ ld_gW a cI G ++ ld_rW a cI rc ++ ld_pW (a 10) (a 11) (a 12) cI cZ q ++ ld_uW a cI u ++ ld_hW a cI hh ++ ld_pW (a 18) (a 19) (a 20) cI cZ qq ++ ld_mW a cJ mw) sz [.ref (a 0), .int p0]) (ld_QI D (ld_dW a R.2.1 ++ ld_gW a cI G ++ ld_rW a cI R.2.2.1 ++ ld_pW (a 10) (a 11) (a 12) cI cZ R.2.2.2.1 ++ ld_uW a cI R.2.2.2.2.1 ++ ld_hW a cI R.2.2.2.2.2.1 ++ ld_pW (a 18) (a 19) (a 20) cI cZ R.2.2.2.2.2.2.1 ++ ld_mW a cJ R.2.2.2.2.2.2.2) (va_A (ld_dW a dk ++ ld_gW a cI G ++ ld_rW a cI rc ++ ld_pW (a 10) (a 11) (a 12) cI cZ q ++ ld_uW a cI u ++ ld_hW a cI hh ++ ld_pW (a 18) (a 19) (a 20) cI cZ qq ++ ld_mW a cJ mw) sz) R.1) 0 0 ((va_A (ld_dW a dk ++ ld_gW a cI G ++ ld_rW a cI rc ++ ld_pW (a 10) (a 11) (a 12) cI cZ q ++ ld_uW a cI u ++ ld_hW a cI hh ++ ld_pW (a 18) (a 19) (a 20) cI cZ qq ++ ld_mW a cJ mw) sz)) := by
  refine Met.ofW (cc := prog_1_method_9_code) (maxL := 2) (ret := (some .int)) (by decide) rfl ?_
  intro p e s m args below meth c s₁ B hml hv
  obtain ⟨rfl, hsz, hP, hK, hD0, hN⟩ := hv
  have hx := B.exec
  have hb := B.bytes
  have hr := B.returns
  have hg : ∀ w ∈ bgT, w.before _ s = true := fun w h => atoms_spec (ws := (Cond.code y_count prog_1_method_9_code 2 (some .int) :: bgT)) B.pre w (List.mem_cons_of_mem _ h)
  have hown : s.vm.findClass "LoanDesk" = some m.cls := findClass_of_methodNamed B.named
  have hlocks := B.notSynchronized
  subst hsz
  have hD := hD0.self (sz := s.heap.size)
  generalize hAe : va_A (ld_dW a dk ++ ld_gW a cI G ++ ld_rW a cI rc ++ ld_pW (a 10) (a 11) (a 12) cI cZ q ++ ld_uW a cI u ++ ld_hW a cI hh ++ ld_pW (a 18) (a 19) (a 20) cI cZ qq ++ ld_mW a cJ mw) s.heap.size = A at hD ⊢
  have hA : ∀ q : Nat, s.heap.size ≤ q → A q := fun q h => by rw [← hAe]; exact Or.inr h
  have hS : va_S A s.heap s.heap [] := va_S.rf
  have hl := lv_entry ([.ref (a 0), .int p0]) (n := 2) (Nat.le_of_ble_eq_true rfl)
  rw [lg_entry_eq]
  generalize (lg_sl ([.ref (a 0), .int p0]) ++ List.replicate (2 - (lg_sl ([.ref (a 0), .int p0])).length) Slot.unset).toArray = ls at hl ⊢
  have hl : lv_has ls 2 [(0, .ref (a 0)), (1, .int p0)] := hl
  refine lv_iload_n hx hb d_count_0 rfl (lv_at hl 1 rfl) ?_
  by_cases c_1 : p0 = 0
  · have h := (if_pos c_1).symm.trans h
    refine lv_tableIn (tgt := 36) hx hb d_count_1 (by rw [c_1]; decide) (by rw [c_1]; decide) (by rw [c_1]; rfl) (by decide) ?_
    refine lv_aload_n hx hb d_count_36 rfl (lv_at hl 0 rfl) ?_
    refine va_get (D := D) (ci := 6) (v := .ref (a 1)) (C := "LoanDesk") (T := T_Desk) (N := 7) hx hb hg u_Desk hown hK hP 0 rfl rfl 0 (by decide) (hg _ k_109) (fun _ h9 => h9) rfl d_count_37 ?_
    obtain ⟨r_2, e_2, h⟩ := ld_nm h
    refine ld_rd (W.runV (As := []) (rest := []) ⟨hx, hb, hml, hown, hg⟩ (lc_gsize l D cI cZ cJ a G r_2 e_2) ⟨callB_of 0 hg (ld_gd k_220) rfl rfl rfl (hg _ k_24) (hg _ k_296) hd_gsize ⟨Nat.le_of_ble_eq_true rfl, Nat.le_of_ble_eq_true rfl⟩, hg _ k_218, hg _ k_219⟩ (ld_preRV hP hK hN [1, 2, 3, 4, 5, 6, 7] rfl 0 0 rfl rfl) rfl rfl hl.1 rfl (lv_room (Nat.le_of_ble_eq_true rfl)) d_count_40 ⟨Nat.zero_le _, Nat.zero_le _⟩) ?_
    have h := Option.some.inj h
    subst h
    exact W.iret (v := r_2) hx hb hr (fun t ht hW => ⟨⟨_, (), rfl, rfl, by rw [ht]; exact hP, hD⟩, hS.F ht⟩) hS.2.2 d_count_43
  have h := (if_neg c_1).symm.trans h
  by_cases c_3 : p0 = 1
  · have h := (if_pos c_3).symm.trans h
    refine lv_tableIn (tgt := 44) hx hb d_count_1 (by rw [c_3]; decide) (by rw [c_3]; decide) (by rw [c_3]; rfl) (by decide) ?_
    refine lv_aload_n hx hb d_count_44 rfl (lv_at hl 0 rfl) ?_
    obtain ⟨r_4, e_4, h⟩ := ld_ob h
    refine ld_mv (wr := ([15, 16, 17, 18, 19, 20, 21, 22] : List Nat).filterMap (fun i => (ld_dW a dk ++ ld_gW a cI G ++ ld_rW a cI rc ++ ld_pW (a 10) (a 11) (a 12) cI cZ q ++ ld_uW a cI u ++ ld_hW a cI hh ++ ld_pW (a 18) (a 19) (a 20) cI cZ qq ++ ld_mW a cJ mw)[i]?)) (ws2 := ld_dW a r_4.1 ++ ld_gW a cI G ++ ld_rW a cI r_4.2.1 ++ ld_pW (a 10) (a 11) (a 12) cI cZ r_4.2.2.1 ++ ld_uW a cI r_4.2.2.2 ++ ld_hW a cI hh ++ ld_pW (a 18) (a 19) (a 20) cI cZ qq ++ ld_mW a cJ mw) (va_runV (As := []) (rest := []) ⟨hx, hb, hml, hown, hg⟩ (lc_findWays l D cI cZ cJ a dk G rc q u _ N r_4 e_4) ⟨callB_of 0 hg (ld_gd k_173) rfl rfl rfl (hg _ k_23) (hg _ k_171) hd_findWays ⟨Nat.le_of_ble_eq_true rfl, Nat.le_of_ble_eq_true rfl⟩, hg _ k_172, hg _ k_1⟩ (ld_preMV hP hK hN hD [0, 1, 2, 3, 4, 5, 6, 7, 8, 9, 10, 11, 12, 13, 14] (by decide) rfl 6 0 rfl rfl) rfl rfl hl.1 rfl (lv_room (Nat.le_of_ble_eq_true rfl)) d_count_45 ⟨Nat.zero_le _, Nat.zero_le _⟩) hP hD hS hA [0, 1, 2, 3, 4, 5, 6, 7, 8, 9, 10, 11, 12, 13, 14] [15, 16, 17, 18, 19, 20, 21, 22] [8, 9, 10, 11, 12, 13, 14, 15, 16, 17, 18, 19, 20, 21, 22, 0, 1, 2, 3, 4, 5, 6, 7] rfl rfl (by decide) (by decide) (by decide) rfl (fun H locs hP hD hS => ?_)
    refine lv_aload_n hx hb d_count_48 rfl (lv_at hl 0 rfl) ?_
    refine va_get (D := D) (ci := 6) (v := .ref (a 8)) (C := "LoanDesk") (T := T_Desk) (N := 7) hx hb hg u_Desk hown hK hP 0 rfl rfl 1 (by decide) (hg _ k_110) (fun _ h9 => h9) rfl d_count_49 ?_
    obtain ⟨r_5, e_5, h⟩ := ld_ob h
    refine ld_rd (W.runV (As := []) (rest := []) ⟨hx, hb, hml, hown, hg⟩ (lc_rcount l D cI cZ cJ a r_4.2.1 N r_5 e_5) ⟨callB_of 0 hg (ld_gd k_340) rfl rfl rfl (hg _ k_25) (hg _ k_337) hd_rcount ⟨Nat.le_of_ble_eq_true rfl, Nat.le_of_ble_eq_true rfl⟩, hg _ k_338, hg _ k_339⟩ (ld_preRV hP hK hN [8, 9] rfl 2 0 rfl rfl) rfl rfl hl.1 rfl (lv_room (Nat.le_of_ble_eq_true rfl)) d_count_52 ⟨Nat.zero_le _, Nat.zero_le _⟩) ?_
    have h := Option.some.inj h
    subst h
    exact W.iret (v := r_5) hx hb hr (fun t ht hW => ⟨⟨_, (), rfl, rfl, by rw [ht]; exact hP, hD⟩, hS.F ht⟩) hS.2.2 d_count_55
  have h := (if_neg c_3).symm.trans h
  by_cases c_6 : p0 = 2
  · have h := (if_pos c_6).symm.trans h
    refine lv_tableIn (tgt := 56) hx hb d_count_1 (by rw [c_6]; decide) (by rw [c_6]; decide) (by rw [c_6]; rfl) (by decide) ?_
    refine lv_aload_n hx hb d_count_56 rfl (lv_at hl 0 rfl) ?_
    obtain ⟨r_7, e_7, h⟩ := ld_ob h
    refine ld_mv (wr := ([] : List Nat).filterMap (fun i => (ld_dW a dk ++ ld_gW a cI G ++ ld_rW a cI rc ++ ld_pW (a 10) (a 11) (a 12) cI cZ q ++ ld_uW a cI u ++ ld_hW a cI hh ++ ld_pW (a 18) (a 19) (a 20) cI cZ qq ++ ld_mW a cJ mw)[i]?)) (ws2 := ld_dW a r_7.1 ++ ld_gW a cI G ++ ld_rW a cI r_7.2.1 ++ ld_pW (a 10) (a 11) (a 12) cI cZ r_7.2.2.1 ++ ld_uW a cI r_7.2.2.2.1 ++ ld_hW a cI r_7.2.2.2.2.1 ++ ld_pW (a 18) (a 19) (a 20) cI cZ r_7.2.2.2.2.2.1 ++ ld_mW a cJ r_7.2.2.2.2.2.2) (va_runV (As := []) (rest := []) ⟨hx, hb, hml, hown, hg⟩ (lc_findMeet l D cI cZ cJ a dk G rc q u hh qq mw _ N r_7 e_7) ⟨callB_of 0 hg (ld_gd k_288) rfl rfl rfl (hg _ k_23) (hg _ k_286) hd_findMeet ⟨Nat.le_of_ble_eq_true rfl, Nat.le_of_ble_eq_true rfl⟩, hg _ k_287, hg _ k_6⟩ (ld_preMV hP hK hN hD [0, 1, 2, 3, 4, 5, 6, 7, 8, 9, 10, 11, 12, 13, 14, 15, 16, 17, 18, 19, 20, 21, 22] (by decide) rfl 6 0 rfl rfl) rfl rfl hl.1 rfl (lv_room (Nat.le_of_ble_eq_true rfl)) d_count_57 ⟨Nat.zero_le _, Nat.zero_le _⟩) hP hD hS hA [0, 1, 2, 3, 4, 5, 6, 7, 8, 9, 10, 11, 12, 13, 14, 15, 16, 17, 18, 19, 20, 21, 22] [] [0, 1, 2, 3, 4, 5, 6, 7, 8, 9, 10, 11, 12, 13, 14, 15, 16, 17, 18, 19, 20, 21, 22] rfl rfl (by decide) (by decide) (by decide) rfl (fun H locs hP hD hS => ?_)
    refine lv_aload_n hx hb d_count_60 rfl (lv_at hl 0 rfl) ?_
    refine va_get (D := D) (ci := 6) (v := .ref (a 21)) (C := "LoanDesk") (T := T_Desk) (N := 7) hx hb hg u_Desk hown hK hP 0 rfl rfl 4 (by decide) (hg _ k_113) (fun _ h9 => h9) rfl d_count_61 ?_
    obtain ⟨r_8, e_8, h⟩ := ld_ob h
    refine ld_rd (W.runV (As := []) (rest := []) ⟨hx, hb, hml, hown, hg⟩ (lc_mcount l D cI cZ cJ a r_7.2.2.2.2.2.2 N r_8 e_8) ⟨callB_of 0 hg (ld_gd k_344) rfl rfl rfl (hg _ k_29) (hg _ k_341) hd_mcount ⟨Nat.le_of_ble_eq_true rfl, Nat.le_of_ble_eq_true rfl⟩, hg _ k_342, hg _ k_343⟩ (ld_preRV hP hK hN [21, 22] rfl 5 0 rfl rfl) rfl rfl hl.1 rfl (lv_room (Nat.le_of_ble_eq_true rfl)) d_count_64 ⟨Nat.zero_le _, Nat.zero_le _⟩) ?_
    have h := Option.some.inj h
    subst h
    exact W.iret (v := r_8) hx hb hr (fun t ht hW => ⟨⟨_, (), rfl, rfl, by rw [ht]; exact hP, hD⟩, hS.F ht⟩) hS.2.2 d_count_67
  have h := (if_neg c_6).symm.trans h
  by_cases c_9 : p0 = 3
  · have h := (if_pos c_9).symm.trans h
    refine lv_tableIn (tgt := 68) hx hb d_count_1 (by rw [c_9]; decide) (by rw [c_9]; decide) (by rw [c_9]; rfl) (by decide) ?_
    refine lv_aload_n hx hb d_count_68 rfl (lv_at hl 0 rfl) ?_
    obtain ⟨r_10, e_10, h⟩ := ld_ob h
    refine ld_mv (wr := ([] : List Nat).filterMap (fun i => (ld_dW a dk ++ ld_gW a cI G ++ ld_rW a cI rc ++ ld_pW (a 10) (a 11) (a 12) cI cZ q ++ ld_uW a cI u ++ ld_hW a cI hh ++ ld_pW (a 18) (a 19) (a 20) cI cZ qq ++ ld_mW a cJ mw)[i]?)) (ws2 := ld_dW a r_10.1 ++ ld_gW a cI G ++ ld_rW a cI r_10.2.1 ++ ld_pW (a 10) (a 11) (a 12) cI cZ r_10.2.2.1 ++ ld_uW a cI r_10.2.2.2.1 ++ ld_hW a cI r_10.2.2.2.2.1 ++ ld_pW (a 18) (a 19) (a 20) cI cZ r_10.2.2.2.2.2.1 ++ ld_mW a cJ r_10.2.2.2.2.2.2) (va_runV (As := []) (rest := []) ⟨hx, hb, hml, hown, hg⟩ (lc_findMeet l D cI cZ cJ a dk G rc q u hh qq mw _ N r_10 e_10) ⟨callB_of 0 hg (ld_gd k_288) rfl rfl rfl (hg _ k_23) (hg _ k_286) hd_findMeet ⟨Nat.le_of_ble_eq_true rfl, Nat.le_of_ble_eq_true rfl⟩, hg _ k_287, hg _ k_6⟩ (ld_preMV hP hK hN hD [0, 1, 2, 3, 4, 5, 6, 7, 8, 9, 10, 11, 12, 13, 14, 15, 16, 17, 18, 19, 20, 21, 22] (by decide) rfl 6 0 rfl rfl) rfl rfl hl.1 rfl (lv_room (Nat.le_of_ble_eq_true rfl)) d_count_69 ⟨Nat.zero_le _, Nat.zero_le _⟩) hP hD hS hA [0, 1, 2, 3, 4, 5, 6, 7, 8, 9, 10, 11, 12, 13, 14, 15, 16, 17, 18, 19, 20, 21, 22] [] [0, 1, 2, 3, 4, 5, 6, 7, 8, 9, 10, 11, 12, 13, 14, 15, 16, 17, 18, 19, 20, 21, 22] rfl rfl (by decide) (by decide) (by decide) rfl (fun H locs hP hD hS => ?_)
    refine lv_aload_n hx hb d_count_72 rfl (lv_at hl 0 rfl) ?_
    refine va_get (D := D) (ci := 6) (v := .ref (a 21)) (C := "LoanDesk") (T := T_Desk) (N := 7) hx hb hg u_Desk hown hK hP 0 rfl rfl 4 (by decide) (hg _ k_113) (fun _ h9 => h9) rfl d_count_73 ?_
    obtain ⟨r_11, e_11, h⟩ := ld_ob h
    refine ld_rd (W.runV (As := []) (rest := []) ⟨hx, hb, hml, hown, hg⟩ (lc_mfirst l D cI cZ cJ a r_10.2.2.2.2.2.2 N r_11 e_11) ⟨callB_of 0 hg (ld_gd k_351) rfl rfl rfl (hg _ k_29) (hg _ k_348) hd_mfirst ⟨Nat.le_of_ble_eq_true rfl, Nat.le_of_ble_eq_true rfl⟩, hg _ k_349, hg _ k_350⟩ (ld_preRV hP hK hN [21, 22] rfl 5 0 rfl rfl) rfl rfl hl.1 rfl (lv_room (Nat.le_of_ble_eq_true rfl)) d_count_76 ⟨Nat.zero_le _, Nat.zero_le _⟩) ?_
    have h := Option.some.inj h
    subst h
    exact W.iret (v := r_11) hx hb hr (fun t ht hW => ⟨⟨_, (), rfl, rfl, by rw [ht]; exact hP, hD⟩, hS.F ht⟩) hS.2.2 d_count_79
  have h := (if_neg c_9).symm.trans h
  by_cases c_12 : p0 = 4
  · have h := (if_pos c_12).symm.trans h
    refine lv_tableIn (tgt := 80) hx hb d_count_1 (by rw [c_12]; decide) (by rw [c_12]; decide) (by rw [c_12]; rfl) (by decide) ?_
    refine lv_aload_n hx hb d_count_80 rfl (lv_at hl 0 rfl) ?_
    refine va_get (D := D) (ci := 6) (v := .ref (a 1)) (C := "LoanDesk") (T := T_Desk) (N := 7) hx hb hg u_Desk hown hK hP 0 rfl rfl 0 (by decide) (hg _ k_109) (fun _ h9 => h9) rfl d_count_81 ?_
    obtain ⟨r_13, e_13, h⟩ := ld_ob h
    refine ld_rd (W.runV (As := []) (rest := []) ⟨hx, hb, hml, hown, hg⟩ (lc_countLoans l D cI cZ cJ a G N r_13 e_13) ⟨callB_of 0 hg (ld_gd k_355) rfl rfl rfl (hg _ k_24) (hg _ k_352) hd_countLoans ⟨Nat.le_of_ble_eq_true rfl, Nat.le_of_ble_eq_true rfl⟩, hg _ k_353, hg _ k_354⟩ (ld_preRV hP hK hN [1, 2, 3, 4, 5, 6, 7] rfl 0 0 rfl rfl) rfl rfl hl.1 rfl (lv_room (Nat.le_of_ble_eq_true rfl)) d_count_84 ⟨Nat.zero_le _, Nat.zero_le _⟩) ?_
    have h := Option.some.inj h
    subst h
    exact W.iret (v := r_13) hx hb hr (fun t ht hW => ⟨⟨_, (), rfl, rfl, by rw [ht]; exact hP, hD⟩, hS.F ht⟩) hS.2.2 d_count_87
  have h := (if_neg c_12).symm.trans h
  refine lv_tableOut (tgt := 88) hx hb d_count_1 (by have e_c_1 := lv_neT c_1 (a := 0) (by decide); have e_c_3 := lv_neT c_3 (a := 1) (by decide); have e_c_6 := lv_neT c_6 (a := 2) (by decide); have e_c_9 := lv_neT c_9 (a := 3) (by decide); have e_c_12 := lv_neT c_12 (a := 4) (by decide); omega) (by decide) ?_
  refine lv_iconst (v := (-1)) hx hb d_count_88 (by decide) ?_
  have h := Option.some.inj h
  subst h
  exact W.iret (v := (-1)) hx hb hr (fun t ht hW => ⟨⟨_, (), rfl, rfl, by rw [ht]; exact hP, hD⟩, hS.F ht⟩) hS.2.2 d_count_89
def lf_clear (dk : Int32 × Int32) (G : ld_gT) : Int32 × (Int32 × Int32) × ld_gT := ld_lt (lf_gsize G) (fun r_1 => ld_lt (lf_forget dk) (fun r_2 => ld_lt (lf_gempty G) (fun r_3 => (r_1, r_2, r_3))))
set_option maxHeartbeats 4000000 in
set_option maxRecDepth 100000 in
theorem lc_clear (l : Launch) (D : va_G) (cI cZ cJ : ClassId) (a : Nat → Nat) (dk : Int32 × Int32) (G : ld_gT) (sz : Nat) (R : Int32 × (Int32 × Int32) × ld_gT) (h : lf_clear dk G = R) : Met l y_clear (Cond.code y_clear prog_1_method_10_code 2 (some .int) :: bgT) ({ frames := 1, cells := 0, slots := 0, locals := 20 }) (ld_PM D cI cZ cJ (ld_dW a dk ++ ld_gW a cI G) sz [.ref (a 0)]) (ld_QI D (ld_dW a R.2.1 ++ ld_gW a cI R.2.2) (va_A (ld_dW a dk ++ ld_gW a cI G) sz) R.1) 0 0 ((va_A (ld_dW a dk ++ ld_gW a cI G) sz)) := by
  refine Met.ofW (cc := prog_1_method_10_code) (maxL := 2) (ret := (some .int)) (by decide) rfl ?_
  intro p e s m args below meth c s₁ B hml hv
  obtain ⟨rfl, hsz, hP, hK, hD0, hN⟩ := hv
  have hx := B.exec
  have hb := B.bytes
  have hr := B.returns
  have hg : ∀ w ∈ bgT, w.before _ s = true := fun w h => atoms_spec (ws := (Cond.code y_clear prog_1_method_10_code 2 (some .int) :: bgT)) B.pre w (List.mem_cons_of_mem _ h)
  have hown : s.vm.findClass "LoanDesk" = some m.cls := findClass_of_methodNamed B.named
  have hlocks := B.notSynchronized
  subst hsz
  have hD := hD0.self (sz := s.heap.size)
  generalize hAe : va_A (ld_dW a dk ++ ld_gW a cI G) s.heap.size = A at hD ⊢
  have hA : ∀ q : Nat, s.heap.size ≤ q → A q := fun q h => by rw [← hAe]; exact Or.inr h
  have hS : va_S A s.heap s.heap [] := va_S.rf
  have hl := lv_entry ([.ref (a 0)]) (n := 2) (Nat.le_of_ble_eq_true rfl)
  rw [lg_entry_eq]
  generalize (lg_sl ([.ref (a 0)]) ++ List.replicate (2 - (lg_sl ([.ref (a 0)])).length) Slot.unset).toArray = ls at hl ⊢
  have hl : lv_has ls 2 [(0, .ref (a 0))] := hl
  refine lv_aload_n hx hb d_clear_0 rfl (lv_at hl 0 rfl) ?_
  refine va_get (D := D) (ci := 6) (v := .ref (a 1)) (C := "LoanDesk") (T := T_Desk) (N := 7) hx hb hg u_Desk hown hK hP 0 rfl rfl 0 (by decide) (hg _ k_109) (fun _ h9 => h9) rfl d_clear_1 ?_
  obtain ⟨r_1, e_1, h⟩ := ld_nm h
  refine ld_rd (W.runV (As := []) (rest := []) ⟨hx, hb, hml, hown, hg⟩ (lc_gsize l D cI cZ cJ a G r_1 e_1) ⟨callB_of 0 hg (ld_gd k_220) rfl rfl rfl (hg _ k_24) (hg _ k_296) hd_gsize ⟨Nat.le_of_ble_eq_true rfl, Nat.le_of_ble_eq_true rfl⟩, hg _ k_218, hg _ k_219⟩ (ld_preRV hP hK hN [1, 2, 3, 4, 5, 6, 7] rfl 0 0 rfl rfl) rfl rfl hl.1 rfl (lv_room (Nat.le_of_ble_eq_true rfl)) d_clear_4 ⟨Nat.zero_le _, Nat.zero_le _⟩) ?_
  refine lv_istore_n (lv' := [(1, .int r_1), (0, .ref (a 0))]) hx hb d_clear_7 rfl hl (by decide) rfl (fun ls hl => ?_)
  refine lv_aload_n hx hb d_clear_8 rfl (lv_at hl 1 rfl) ?_
  obtain ⟨r_2, e_2, h⟩ := ld_nm h
  refine ld_mv (wr := ([1, 2, 3, 4, 5, 6, 7] : List Nat).filterMap (fun i => (ld_dW a dk ++ ld_gW a cI G)[i]?)) (ws2 := ld_dW a r_2 ++ ld_gW a cI G) (va_runV (As := []) (rest := []) ⟨hx, hb, hml, hown, hg⟩ (lc_forget l D cI cZ cJ a dk _ r_2 e_2) ⟨callB_of 0 hg (ld_gd k_142) rfl rfl rfl (hg _ k_23) (hg _ k_140) hd_forget ⟨Nat.le_of_ble_eq_true rfl, Nat.le_of_ble_eq_true rfl⟩, hg _ k_141, hg _ k_0⟩ (ld_preMV hP hK hN hD [0] (by decide) rfl 6 0 rfl rfl) rfl rfl hl.1 rfl (lv_room (Nat.le_of_ble_eq_true rfl)) d_clear_9 ⟨Nat.zero_le _, Nat.zero_le _⟩) hP hD hS hA [0] [1, 2, 3, 4, 5, 6, 7] [7, 0, 1, 2, 3, 4, 5, 6] rfl rfl (by decide) (by decide) (by decide) rfl (fun H locs hP hD hS => ?_)
  refine lv_aload_n hx hb d_clear_12 rfl (lv_at hl 1 rfl) ?_
  refine va_get (D := D) (ci := 6) (v := .ref (a 1)) (C := "LoanDesk") (T := T_Desk) (N := 7) hx hb hg u_Desk hown hK hP 0 rfl rfl 0 (by decide) (hg _ k_109) (fun _ h9 => h9) rfl d_clear_13 ?_
  obtain ⟨r_3, e_3, h⟩ := ld_nm h
  refine ld_mv (wr := ([0] : List Nat).filterMap (fun i => (ld_dW a r_2 ++ ld_gW a cI G)[i]?)) (ws2 := ld_dW a r_2 ++ ld_gW a cI r_3) (va_runV (As := []) (rest := []) ⟨hx, hb, hml, hown, hg⟩ (lc_gempty l D cI cZ cJ a G _ r_3 e_3) ⟨callB_of 0 hg (ld_gd k_363) rfl rfl rfl (hg _ k_24) (hg _ k_360) hd_gempty ⟨Nat.le_of_ble_eq_true rfl, Nat.le_of_ble_eq_true rfl⟩, hg _ k_361, hg _ k_362⟩ (ld_preMV hP hK hN hD [1, 2, 3, 4, 5, 6, 7] (by decide) rfl 0 0 rfl rfl) rfl rfl hl.1 rfl (lv_room (Nat.le_of_ble_eq_true rfl)) d_clear_16 ⟨Nat.zero_le _, Nat.zero_le _⟩) hP hD hS hA [1, 2, 3, 4, 5, 6, 7] [0] [0, 1, 2, 3, 4, 5, 6, 7] rfl rfl (by decide) (by decide) (by decide) rfl (fun H locs hP hD hS => ?_)
  refine lv_iload_n hx hb d_clear_19 rfl (lv_at hl 0 rfl) ?_
  subst h
  exact W.iret (v := r_1) hx hb hr (fun t ht hW => ⟨⟨_, (), rfl, rfl, by rw [ht]; exact hP, hD⟩, hS.F ht⟩) hS.2.2 d_clear_20
end
