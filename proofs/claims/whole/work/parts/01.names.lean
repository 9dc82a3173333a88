-- ===== PART A: goes FIRST, ahead of the names: the tables' words, and 'selects' of the private methods out of them =====
/-- a private method of a class that the tables say can be made, by its rows of tables_1 -/
def lw_okq (q : MethodName × Nat) : Prop := (q.1.cls ≠ "java/lang/invoke/MethodHandle" ∧ q.1.cls ≠ "java/lang/invoke/VarHandle") ∧ Cond.instantiable q.1.cls q.2 ∈ tables_1 ∧ Cond.privateMethod q.1 ∈ tables_1 ∧ Cond.instanceMethod q.1 ∈ tables_1
theorem lw_p0 : lw_okq (⟨"LoanDesk", "forgetFindings", "()V"⟩, 7) := ⟨⟨by decide +kernel, by decide +kernel⟩, List.mem_of_getElem? (i := 12) (by decide +kernel), List.mem_of_getElem? (i := 157) (by decide +kernel), List.mem_of_getElem? (i := 158) (by decide +kernel)⟩
theorem lw_p1 : lw_okq (⟨"LoanDesk", "findWays", "()V"⟩, 7) := ⟨⟨by decide +kernel, by decide +kernel⟩, List.mem_of_getElem? (i := 12) (by decide +kernel), List.mem_of_getElem? (i := 189) (by decide +kernel), List.mem_of_getElem? (i := 190) (by decide +kernel)⟩
theorem lw_p2 : lw_okq (⟨"LoanDesk$Reach", "arrive", "(LLoanDesk$Graph;I)V"⟩, 2) := ⟨⟨by decide +kernel, by decide +kernel⟩, List.mem_of_getElem? (i := 49) (by decide +kernel), List.mem_of_getElem? (i := 200) (by decide +kernel), List.mem_of_getElem? (i := 201) (by decide +kernel)⟩
theorem lw_p3 : lw_okq (⟨"LoanDesk$Uses", "growAll", "(LLoanDesk$Graph;)Z"⟩, 1) := ⟨⟨by decide +kernel, by decide +kernel⟩, List.mem_of_getElem? (i := 79) (by decide +kernel), List.mem_of_getElem? (i := 236) (by decide +kernel), List.mem_of_getElem? (i := 237) (by decide +kernel)⟩
theorem lw_p4 : lw_okq (⟨"LoanDesk$Holding", "pass", "(LLoanDesk$Graph;II)V"⟩, 3) := ⟨⟨by decide +kernel, by decide +kernel⟩, List.mem_of_getElem? (i := 89) (by decide +kernel), List.mem_of_getElem? (i := 275) (by decide +kernel), List.mem_of_getElem? (i := 276) (by decide +kernel)⟩
theorem lw_p5 : lw_okq (⟨"LoanDesk$Holding", "handOn", "(LLoanDesk$Graph;II)V"⟩, 3) := ⟨⟨by decide +kernel, by decide +kernel⟩, List.mem_of_getElem? (i := 89) (by decide +kernel), List.mem_of_getElem? (i := 288) (by decide +kernel), List.mem_of_getElem? (i := 289) (by decide +kernel)⟩
theorem lw_p6 : lw_okq (⟨"LoanDesk", "findMeetings", "()V"⟩, 7) := ⟨⟨by decide +kernel, by decide +kernel⟩, List.mem_of_getElem? (i := 12) (by decide +kernel), List.mem_of_getElem? (i := 313) (by decide +kernel), List.mem_of_getElem? (i := 314) (by decide +kernel)⟩
theorem lw_p7 : lw_okq (⟨"LoanDesk", "addMeetings", "(I)V"⟩, 7) := ⟨⟨by decide +kernel, by decide +kernel⟩, List.mem_of_getElem? (i := 12) (by decide +kernel), List.mem_of_getElem? (i := 325) (by decide +kernel), List.mem_of_getElem? (i := 326) (by decide +kernel)⟩
theorem lw_p8 : lw_okq (⟨"LoanDesk$Graph", "isChange", "(I)Z"⟩, 7) := ⟨⟨by decide +kernel, by decide +kernel⟩, List.mem_of_getElem? (i := 20) (by decide +kernel), List.mem_of_getElem? (i := 338) (by decide +kernel), List.mem_of_getElem? (i := 339) (by decide +kernel)⟩
theorem lw_p9 : lw_okq (⟨"LoanDesk$Graph", "isLook", "(I)Z"⟩, 7) := ⟨⟨by decide +kernel, by decide +kernel⟩, List.mem_of_getElem? (i := 20) (by decide +kernel), List.mem_of_getElem? (i := 342) (by decide +kernel), List.mem_of_getElem? (i := 343) (by decide +kernel)⟩
theorem lw_p10 : lw_okq (⟨"LoanDesk$Meetings", "isAt", "(II)Z"⟩, 1) := ⟨⟨by decide +kernel, by decide +kernel⟩, List.mem_of_getElem? (i := 107) (by decide +kernel), List.mem_of_getElem? (i := 362) (by decide +kernel), List.mem_of_getElem? (i := 363) (by decide +kernel)⟩
theorem lw_p11 : lw_okq (⟨"LoanDesk$Meetings", "isAnyAt", "(I)Z"⟩, 1) := ⟨⟨by decide +kernel, by decide +kernel⟩, List.mem_of_getElem? (i := 107) (by decide +kernel), List.mem_of_getElem? (i := 378) (by decide +kernel), List.mem_of_getElem? (i := 379) (by decide +kernel)⟩
theorem lw_p12 : lw_okq (⟨"LoanDeskModel", "learn", "()V"⟩, 14) := ⟨⟨by decide +kernel, by decide +kernel⟩, List.mem_of_getElem? (i := 398) (by decide +kernel), List.mem_of_getElem? (i := 465) (by decide +kernel), List.mem_of_getElem? (i := 466) (by decide +kernel)⟩
theorem lw_p13 : lw_okq (⟨"LoanDeskModel", "forget", "()V"⟩, 14) := ⟨⟨by decide +kernel, by decide +kernel⟩, List.mem_of_getElem? (i := 398) (by decide +kernel), List.mem_of_getElem? (i := 469) (by decide +kernel), List.mem_of_getElem? (i := 470) (by decide +kernel)⟩
theorem lw_p14 : lw_okq (⟨"LoanDeskModel", "meet", "(II)V"⟩, 14) := ⟨⟨by decide +kernel, by decide +kernel⟩, List.mem_of_getElem? (i := 398) (by decide +kernel), List.mem_of_getElem? (i := 473) (by decide +kernel), List.mem_of_getElem? (i := 474) (by decide +kernel)⟩
theorem lw_p15 : lw_okq (⟨"LoanDeskModel", "isPoint", "(I)Z"⟩, 14) := ⟨⟨by decide +kernel, by decide +kernel⟩, List.mem_of_getElem? (i := 398) (by decide +kernel), List.mem_of_getElem? (i := 477) (by decide +kernel), List.mem_of_getElem? (i := 478) (by decide +kernel)⟩
def lw_privs_1 : List (MethodName × Nat) := [(⟨"LoanDesk", "forgetFindings", "()V"⟩, 7), (⟨"LoanDesk", "findWays", "()V"⟩, 7), (⟨"LoanDesk$Reach", "arrive", "(LLoanDesk$Graph;I)V"⟩, 2), (⟨"LoanDesk$Uses", "growAll", "(LLoanDesk$Graph;)Z"⟩, 1), (⟨"LoanDesk$Holding", "pass", "(LLoanDesk$Graph;II)V"⟩, 3), (⟨"LoanDesk$Holding", "handOn", "(LLoanDesk$Graph;II)V"⟩, 3), (⟨"LoanDesk", "findMeetings", "()V"⟩, 7), (⟨"LoanDesk", "addMeetings", "(I)V"⟩, 7), (⟨"LoanDesk$Graph", "isChange", "(I)Z"⟩, 7), (⟨"LoanDesk$Graph", "isLook", "(I)Z"⟩, 7), (⟨"LoanDesk$Meetings", "isAt", "(II)Z"⟩, 1), (⟨"LoanDesk$Meetings", "isAnyAt", "(I)Z"⟩, 1), (⟨"LoanDeskModel", "learn", "()V"⟩, 14), (⟨"LoanDeskModel", "forget", "()V"⟩, 14), (⟨"LoanDeskModel", "meet", "(II)V"⟩, 14), (⟨"LoanDeskModel", "isPoint", "(I)Z"⟩, 14)]
theorem lw_r1 : ∀ q ∈ lw_privs_1, lw_okq q := List.forall_mem_cons.mpr ⟨lw_p0, List.forall_mem_cons.mpr ⟨lw_p1, List.forall_mem_cons.mpr ⟨lw_p2, List.forall_mem_cons.mpr ⟨lw_p3, List.forall_mem_cons.mpr ⟨lw_p4, List.forall_mem_cons.mpr ⟨lw_p5, List.forall_mem_cons.mpr ⟨lw_p6, List.forall_mem_cons.mpr ⟨lw_p7, List.forall_mem_cons.mpr ⟨lw_p8, List.forall_mem_cons.mpr ⟨lw_p9, List.forall_mem_cons.mpr ⟨lw_p10, List.forall_mem_cons.mpr ⟨lw_p11, List.forall_mem_cons.mpr ⟨lw_p12, List.forall_mem_cons.mpr ⟨lw_p13, List.forall_mem_cons.mpr ⟨lw_p14, List.forall_mem_cons.mpr ⟨lw_p15, fun _ h => absurd h List.not_mem_nil⟩⟩⟩⟩⟩⟩⟩⟩⟩⟩⟩⟩⟩⟩⟩⟩
theorem lw_p16 : lw_okq (⟨"LoanDeskModel", "isUsed", "(II)Z"⟩, 14) := ⟨⟨by decide +kernel, by decide +kernel⟩, List.mem_of_getElem? (i := 398) (by decide +kernel), List.mem_of_getElem? (i := 481) (by decide +kernel), List.mem_of_getElem? (i := 482) (by decide +kernel)⟩
theorem lw_p17 : lw_okq (⟨"LoanDeskModel", "uses", "(II)Z"⟩, 14) := ⟨⟨by decide +kernel, by decide +kernel⟩, List.mem_of_getElem? (i := 398) (by decide +kernel), List.mem_of_getElem? (i := 485) (by decide +kernel), List.mem_of_getElem? (i := 486) (by decide +kernel)⟩
theorem lw_p18 : lw_okq (⟨"LoanDeskModel", "changes", "(II)Z"⟩, 14) := ⟨⟨by decide +kernel, by decide +kernel⟩, List.mem_of_getElem? (i := 398) (by decide +kernel), List.mem_of_getElem? (i := 489) (by decide +kernel), List.mem_of_getElem? (i := 490) (by decide +kernel)⟩
theorem lw_p19 : lw_okq (⟨"LoanDeskModel", "goAll", "(I)V"⟩, 14) := ⟨⟨by decide +kernel, by decide +kernel⟩, List.mem_of_getElem? (i := 398) (by decide +kernel), List.mem_of_getElem? (i := 493) (by decide +kernel), List.mem_of_getElem? (i := 494) (by decide +kernel)⟩
theorem lw_p20 : lw_okq (⟨"LoanDeskModel", "through", "(II)V"⟩, 14) := ⟨⟨by decide +kernel, by decide +kernel⟩, List.mem_of_getElem? (i := 398) (by decide +kernel), List.mem_of_getElem? (i := 497) (by decide +kernel), List.mem_of_getElem? (i := 498) (by decide +kernel)⟩
theorem lw_p21 : lw_okq (⟨"LoanDeskModel", "meets", "(II)Z"⟩, 14) := ⟨⟨by decide +kernel, by decide +kernel⟩, List.mem_of_getElem? (i := 398) (by decide +kernel), List.mem_of_getElem? (i := 519) (by decide +kernel), List.mem_of_getElem? (i := 520) (by decide +kernel)⟩
def lw_privs_2 : List (MethodName × Nat) := [(⟨"LoanDeskModel", "isUsed", "(II)Z"⟩, 14), (⟨"LoanDeskModel", "uses", "(II)Z"⟩, 14), (⟨"LoanDeskModel", "changes", "(II)Z"⟩, 14), (⟨"LoanDeskModel", "goAll", "(I)V"⟩, 14), (⟨"LoanDeskModel", "through", "(II)V"⟩, 14), (⟨"LoanDeskModel", "meets", "(II)Z"⟩, 14)]
theorem lw_r2 : ∀ q ∈ lw_privs_2, lw_okq q := List.forall_mem_cons.mpr ⟨lw_p16, List.forall_mem_cons.mpr ⟨lw_p17, List.forall_mem_cons.mpr ⟨lw_p18, List.forall_mem_cons.mpr ⟨lw_p19, List.forall_mem_cons.mpr ⟨lw_p20, List.forall_mem_cons.mpr ⟨lw_p21, fun _ h => absurd h List.not_mem_nil⟩⟩⟩⟩⟩⟩
def lw_privs : List (MethodName × Nat) := lw_privs_1 ++ (lw_privs_2)
def lw_tbl : List Cond := k2_sels lw_privs ++ tables_1
theorem lw_privs_ok : ∀ q ∈ lw_privs, lw_okq q := by
  show ∀ q ∈ lw_privs_1 ++ (lw_privs_2), lw_okq q
  exact List.forall_mem_append.mpr ⟨lw_r1, lw_r2⟩

abbrev y_isRef : MethodName := ⟨"LoanDesk", "isReference", "(I)Z"⟩
abbrev y_isIndex : MethodName := ⟨"LoanDesk", "isIndex", "(I)Z"⟩
abbrev y_isNext : MethodName := ⟨"LoanDesk", "isNext", "(I)Z"⟩
abbrev y_isPlace : MethodName := ⟨"LoanDesk", "isPlace", "(I)Z"⟩
abbrev y_isDoing : MethodName := ⟨"LoanDesk", "isDoing", "(IIII)Z"⟩
abbrev y_gsize : MethodName := ⟨"LoanDesk$Graph", "size", "()I"⟩
abbrev y_hasRoom : MethodName := ⟨"LoanDesk$Graph", "hasRoom", "()Z"⟩
abbrev y_isPoint : MethodName := ⟨"LoanDesk$Graph", "isPoint", "(I)Z"⟩
abbrev y_isLoan : MethodName := ⟨"LoanDesk$Graph", "isLoan", "(I)Z"⟩
abbrev y_firstNext : MethodName := ⟨"LoanDesk$Graph", "firstNext", "(I)I"⟩
abbrev y_secondNext : MethodName := ⟨"LoanDesk$Graph", "secondNext", "(I)I"⟩
abbrev y_countLoans : MethodName := ⟨"LoanDesk$Graph", "countLoans", "()I"⟩
abbrev y_add : MethodName := ⟨"LoanDesk$Graph", "add", "(IIII)I"⟩
abbrev y_tellNext : MethodName := ⟨"LoanDesk$Graph", "tellNext", "(III)V"⟩
abbrev y_gempty : MethodName := ⟨"LoanDesk$Graph", "empty", "()V"⟩
abbrev y_withHolder : MethodName := ⟨"LoanDesk$Graph", "withHolder", "(IIZ)I"⟩
abbrev y_heldBehind : MethodName := ⟨"LoanDesk$Graph", "heldBehind", "(III)I"⟩
abbrev y_usedFrom : MethodName := ⟨"LoanDesk$Graph", "usedFrom", "(II)I"⟩
abbrev y_borrowing : MethodName := ⟨"LoanDesk$Graph", "borrowing", "(I)I"⟩
abbrev y_isChange : MethodName := ⟨"LoanDesk$Graph", "isChange", "(I)Z"⟩
abbrev y_isLook : MethodName := ⟨"LoanDesk$Graph", "isLook", "(I)Z"⟩
abbrev y_overlap : MethodName := ⟨"LoanDesk$Graph", "overlap", "(II)Z"⟩
abbrev y_touches : MethodName := ⟨"LoanDesk$Graph", "touches", "(II)Z"⟩
abbrev y_pEmpty : MethodName := ⟨"LoanDesk$Pile", "isEmpty", "()Z"⟩
abbrev y_put : MethodName := ⟨"LoanDesk$Pile", "put", "(I)V"⟩
abbrev y_take : MethodName := ⟨"LoanDesk$Pile", "take", "()I"⟩
abbrev y_comesTo : MethodName := ⟨"LoanDesk$Reach", "comesTo", "(I)Z"⟩
abbrev y_rcount : MethodName := ⟨"LoanDesk$Reach", "countPoints", "()I"⟩
abbrev y_arrive : MethodName := ⟨"LoanDesk$Reach", "arrive", "(LLoanDesk$Graph;I)V"⟩
abbrev y_rfind : MethodName := ⟨"LoanDesk$Reach", "find", "(LLoanDesk$Graph;)V"⟩
abbrev y_ubehind : MethodName := ⟨"LoanDesk$Uses", "behind", "(I)I"⟩
abbrev y_growAll : MethodName := ⟨"LoanDesk$Uses", "growAll", "(LLoanDesk$Graph;)Z"⟩
abbrev y_ufind : MethodName := ⟨"LoanDesk$Uses", "find", "(LLoanDesk$Graph;)V"⟩
abbrev y_hbehind : MethodName := ⟨"LoanDesk$Holding", "behind", "(I)I"⟩
abbrev y_handOn : MethodName := ⟨"LoanDesk$Holding", "handOn", "(LLoanDesk$Graph;II)V"⟩
abbrev y_pass : MethodName := ⟨"LoanDesk$Holding", "pass", "(LLoanDesk$Graph;II)V"⟩
abbrev y_follow : MethodName := ⟨"LoanDesk$Holding", "follow", "(LLoanDesk$Graph;I)V"⟩
abbrev y_mempty : MethodName := ⟨"LoanDesk$Meetings", "empty", "()V"⟩
abbrev y_madd : MethodName := ⟨"LoanDesk$Meetings", "add", "(II)V"⟩
abbrev y_isAnyAt : MethodName := ⟨"LoanDesk$Meetings", "isAnyAt", "(I)Z"⟩
abbrev y_isAt : MethodName := ⟨"LoanDesk$Meetings", "isAt", "(II)Z"⟩
abbrev y_mcount : MethodName := ⟨"LoanDesk$Meetings", "countPoints", "()I"⟩
abbrev y_mfirst : MethodName := ⟨"LoanDesk$Meetings", "firstPoint", "()I"⟩
abbrev y_least : MethodName := ⟨"LoanDesk$Meetings", "leastAbove", "(II)I"⟩
abbrev y_forget : MethodName := ⟨"LoanDesk", "forgetFindings", "()V"⟩
abbrev y_findWays : MethodName := ⟨"LoanDesk", "findWays", "()V"⟩
abbrev y_addMeet : MethodName := ⟨"LoanDesk", "addMeetings", "(I)V"⟩
abbrev y_findMeet : MethodName := ⟨"LoanDesk", "findMeetings", "()V"⟩
abbrev y_point : MethodName := ⟨"LoanDesk", "point", "(IIII)I"⟩
abbrev y_next : MethodName := ⟨"LoanDesk", "next", "(III)Z"⟩
abbrev y_isReached : MethodName := ⟨"LoanDesk", "isReached", "(I)Z"⟩
abbrev y_holders : MethodName := ⟨"LoanDesk", "holders", "(II)I"⟩
abbrev y_used : MethodName := ⟨"LoanDesk", "used", "(I)I"⟩
abbrev y_isAlive : MethodName := ⟨"LoanDesk", "isAlive", "(II)Z"⟩
abbrev y_met : MethodName := ⟨"LoanDesk", "met", "(II)I"⟩
abbrev y_count : MethodName := ⟨"LoanDesk", "count", "(I)I"⟩
abbrev y_clear : MethodName := ⟨"LoanDesk", "clear", "()I"⟩
abbrev y_fIsRef : MethodName := ⟨"LoanDeskModel", "isReference", "(I)Z"⟩
abbrev y_fIsPlace : MethodName := ⟨"LoanDeskModel", "isPlace", "(I)Z"⟩
abbrev y_foverlap : MethodName := ⟨"LoanDeskModel", "overlap", "(II)Z"⟩
abbrev y_fIsPoint : MethodName := ⟨"LoanDeskModel", "isPoint", "(I)Z"⟩
abbrev y_fpoint : MethodName := ⟨"LoanDeskModel", "point", "(IIII)I"⟩
abbrev y_fnext : MethodName := ⟨"LoanDeskModel", "next", "(III)Z"⟩
abbrev y_fclear : MethodName := ⟨"LoanDeskModel", "clear", "()I"⟩
abbrev y_fforget : MethodName := ⟨"LoanDeskModel", "forget", "()V"⟩
abbrev y_fmeet : MethodName := ⟨"LoanDeskModel", "meet", "(II)V"⟩
abbrev y_fchanges : MethodName := ⟨"LoanDeskModel", "changes", "(II)Z"⟩
abbrev y_fuses : MethodName := ⟨"LoanDeskModel", "uses", "(II)Z"⟩
abbrev y_fthrough : MethodName := ⟨"LoanDeskModel", "through", "(II)V"⟩
abbrev y_fgoAll : MethodName := ⟨"LoanDeskModel", "goAll", "(I)V"⟩
abbrev y_fIsUsed : MethodName := ⟨"LoanDeskModel", "isUsed", "(II)Z"⟩
abbrev y_flearn : MethodName := ⟨"LoanDeskModel", "learn", "()V"⟩
abbrev y_fIsReached : MethodName := ⟨"LoanDeskModel", "isReached", "(I)Z"⟩
abbrev y_fholders : MethodName := ⟨"LoanDeskModel", "holders", "(II)I"⟩
abbrev y_fused : MethodName := ⟨"LoanDeskModel", "used", "(I)I"⟩
abbrev y_fIsAlive : MethodName := ⟨"LoanDeskModel", "isAlive", "(II)Z"⟩
abbrev y_fmeets : MethodName := ⟨"LoanDeskModel", "meets", "(II)Z"⟩
abbrev y_fmet : MethodName := ⟨"LoanDeskModel", "met", "(II)I"⟩
abbrev y_fcount : MethodName := ⟨"LoanDeskModel", "count", "(I)I"⟩
abbrev y_iG : MethodName := ⟨"LoanDesk$Graph", "<init>", "()V"⟩
abbrev y_iP : MethodName := ⟨"LoanDesk$Pile", "<init>", "()V"⟩
abbrev y_iR : MethodName := ⟨"LoanDesk$Reach", "<init>", "()V"⟩
abbrev y_iU : MethodName := ⟨"LoanDesk$Uses", "<init>", "()V"⟩
abbrev y_iH : MethodName := ⟨"LoanDesk$Holding", "<init>", "()V"⟩
abbrev y_iM : MethodName := ⟨"LoanDesk$Meetings", "<init>", "()V"⟩
abbrev y_iD : MethodName := ⟨"LoanDesk", "<init>", "()V"⟩
abbrev y_iF : MethodName := ⟨"LoanDeskModel", "<init>", "()V"⟩
abbrev y_fillI : MethodName := ⟨"java/util/Arrays", "fill", "([II)V"⟩
abbrev y_math_min : MethodName := ⟨"java/lang/Math", "min", "(II)I"⟩
abbrev y_fillJ : MethodName := ⟨"java/util/Arrays", "fill", "([JJ)V"⟩
abbrev y_math_max : MethodName := ⟨"java/lang/Math", "max", "(II)I"⟩
def bg_0 : List Cond := [Cond.selects "LoanDesk" y_forget y_forget, Cond.selects "LoanDesk" y_findWays y_findWays, Cond.selects "LoanDesk$Reach" y_arrive y_arrive, Cond.selects "LoanDesk$Uses" y_growAll y_growAll, Cond.selects "LoanDesk$Holding" y_pass y_pass, Cond.selects "LoanDesk$Holding" y_handOn y_handOn, Cond.selects "LoanDesk" y_findMeet y_findMeet, Cond.selects "LoanDesk" y_addMeet y_addMeet, Cond.selects "LoanDesk$Graph" y_isChange y_isChange, Cond.selects "LoanDesk$Graph" y_isLook y_isLook, Cond.selects "LoanDesk$Meetings" y_isAt y_isAt, Cond.selects "LoanDesk$Meetings" y_isAnyAt y_isAnyAt, Cond.selects "LoanDeskModel" y_flearn y_flearn, Cond.selects "LoanDeskModel" y_fforget y_fforget, Cond.selects "LoanDeskModel" y_fmeet y_fmeet, Cond.selects "LoanDeskModel" y_fIsPoint y_fIsPoint, Cond.selects "LoanDeskModel" y_fIsUsed y_fIsUsed, Cond.selects "LoanDeskModel" y_fuses y_fuses, Cond.selects "LoanDeskModel" y_fchanges y_fchanges, Cond.selects "LoanDeskModel" y_fgoAll y_fgoAll, Cond.selects "LoanDeskModel" y_fthrough y_fthrough, Cond.selects "LoanDeskModel" y_fmeets y_fmeets, Cond.initialized "LoanDeskLaw", Cond.initialized "LoanDesk", Cond.initialized "LoanDesk$Graph", Cond.initialized "LoanDesk$Reach", Cond.initialized "LoanDesk$Pile", Cond.initialized "LoanDesk$Uses", Cond.initialized "LoanDesk$Holding", Cond.initialized "LoanDesk$Meetings", Cond.initialized "LoanDeskModel", Cond.initialized "java/util/Arrays", Cond.initialized "java/lang/Math", Cond.classLink "LoanDeskLaw" 7 "LoanDesk", Cond.instantiable "LoanDesk" 7, Cond.methodLink "LoanDeskLaw" 9 y_iD, Cond.instanceMethod y_iD, Cond.code y_iD prog_1_method_1_code 1 none, Cond.methodLink "LoanDesk" 1 objectInit, Cond.instanceMethod objectInit, Cond.code objectInit object_method_1_code 1 none, Cond.classLink "LoanDesk" 7 "LoanDesk$Graph", Cond.instantiable "LoanDesk$Graph" 7, Cond.instanceMethod y_iG, Cond.code y_iG prog_2_method_1_code 1 none, Cond.methodLink "LoanDesk$Graph" 3 objectInit, Cond.fieldLink "LoanDesk$Graph" 9 "LoanDesk$Graph" "doings" "[I", Cond.fieldLink "LoanDesk$Graph" 15 "LoanDesk$Graph" "as" "[I", Cond.fieldLink "LoanDesk$Graph" 18 "LoanDesk$Graph" "bs" "[I", Cond.fieldLink "LoanDesk$Graph" 21 "LoanDesk$Graph" "cs" "[I"]
set_option maxRecDepth 100000 in
theorem bgi_0 : ∀ w ∈ bg_0, w ∈ lw_tbl := List.forall_mem_cons.mpr ⟨List.mem_of_getElem? (i := 0) rfl, List.forall_mem_cons.mpr ⟨List.mem_of_getElem? (i := 1) rfl, List.forall_mem_cons.mpr ⟨List.mem_of_getElem? (i := 2) rfl, List.forall_mem_cons.mpr ⟨List.mem_of_getElem? (i := 3) rfl, List.forall_mem_cons.mpr ⟨List.mem_of_getElem? (i := 4) rfl, List.forall_mem_cons.mpr ⟨List.mem_of_getElem? (i := 5) rfl, List.forall_mem_cons.mpr ⟨List.mem_of_getElem? (i := 6) rfl, List.forall_mem_cons.mpr ⟨List.mem_of_getElem? (i := 7) rfl, List.forall_mem_cons.mpr ⟨List.mem_of_getElem? (i := 8) rfl, List.forall_mem_cons.mpr ⟨List.mem_of_getElem? (i := 9) rfl, List.forall_mem_cons.mpr ⟨List.mem_of_getElem? (i := 10) rfl, List.forall_mem_cons.mpr ⟨List.mem_of_getElem? (i := 11) rfl, List.forall_mem_cons.mpr ⟨List.mem_of_getElem? (i := 12) rfl, List.forall_mem_cons.mpr ⟨List.mem_of_getElem? (i := 13) rfl, List.forall_mem_cons.mpr ⟨List.mem_of_getElem? (i := 14) rfl, List.forall_mem_cons.mpr ⟨List.mem_of_getElem? (i := 15) rfl, List.forall_mem_cons.mpr ⟨List.mem_of_getElem? (i := 16) rfl, List.forall_mem_cons.mpr ⟨List.mem_of_getElem? (i := 17) rfl, List.forall_mem_cons.mpr ⟨List.mem_of_getElem? (i := 18) rfl, List.forall_mem_cons.mpr ⟨List.mem_of_getElem? (i := 19) rfl, List.forall_mem_cons.mpr ⟨List.mem_of_getElem? (i := 20) rfl, List.forall_mem_cons.mpr ⟨List.mem_of_getElem? (i := 21) rfl, List.forall_mem_cons.mpr ⟨List.mem_of_getElem? (i := 22) rfl, List.forall_mem_cons.mpr ⟨List.mem_of_getElem? (i := 23) rfl, List.forall_mem_cons.mpr ⟨List.mem_of_getElem? (i := 24) rfl, List.forall_mem_cons.mpr ⟨List.mem_of_getElem? (i := 25) rfl, List.forall_mem_cons.mpr ⟨List.mem_of_getElem? (i := 26) rfl, List.forall_mem_cons.mpr ⟨List.mem_of_getElem? (i := 27) rfl, List.forall_mem_cons.mpr ⟨List.mem_of_getElem? (i := 28) rfl, List.forall_mem_cons.mpr ⟨List.mem_of_getElem? (i := 29) rfl, List.forall_mem_cons.mpr ⟨List.mem_of_getElem? (i := 30) rfl, List.forall_mem_cons.mpr ⟨List.mem_of_getElem? (i := 31) rfl, List.forall_mem_cons.mpr ⟨List.mem_of_getElem? (i := 32) rfl, List.forall_mem_cons.mpr ⟨List.mem_of_getElem? (i := 33) rfl, List.forall_mem_cons.mpr ⟨List.mem_of_getElem? (i := 34) rfl, List.forall_mem_cons.mpr ⟨List.mem_of_getElem? (i := 35) rfl, List.forall_mem_cons.mpr ⟨List.mem_of_getElem? (i := 36) rfl, List.forall_mem_cons.mpr ⟨List.mem_of_getElem? (i := 37) rfl, List.forall_mem_cons.mpr ⟨List.mem_of_getElem? (i := 38) rfl, List.forall_mem_cons.mpr ⟨List.mem_of_getElem? (i := 39) rfl, List.forall_mem_cons.mpr ⟨List.mem_of_getElem? (i := 40) rfl, List.forall_mem_cons.mpr ⟨List.mem_of_getElem? (i := 41) rfl, List.forall_mem_cons.mpr ⟨List.mem_of_getElem? (i := 42) rfl, List.forall_mem_cons.mpr ⟨List.mem_of_getElem? (i := 44) rfl, List.forall_mem_cons.mpr ⟨List.mem_of_getElem? (i := 45) rfl, List.forall_mem_cons.mpr ⟨List.mem_of_getElem? (i := 46) rfl, List.forall_mem_cons.mpr ⟨List.mem_of_getElem? (i := 47) rfl, List.forall_mem_cons.mpr ⟨List.mem_of_getElem? (i := 48) rfl, List.forall_mem_cons.mpr ⟨List.mem_of_getElem? (i := 49) rfl, List.forall_mem_cons.mpr ⟨List.mem_of_getElem? (i := 50) rfl, List.forall_mem_nil _⟩⟩⟩⟩⟩⟩⟩⟩⟩⟩⟩⟩⟩⟩⟩⟩⟩⟩⟩⟩⟩⟩⟩⟩⟩⟩⟩⟩⟩⟩⟩⟩⟩⟩⟩⟩⟩⟩⟩⟩⟩⟩⟩⟩⟩⟩⟩⟩⟩⟩
theorem bgd_0 : ∀ w ∈ bg_0, goodWord w = true := List.all_eq_true.mp (by decide +kernel)
def bg_1 : List Cond := [Cond.fieldLink "LoanDesk$Graph" 24 "LoanDesk$Graph" "xs" "[I", Cond.fieldLink "LoanDesk$Graph" 27 "LoanDesk$Graph" "ys" "[I", Cond.fieldLink "LoanDesk$Graph" 30 "LoanDesk$Graph" "size" "I", Cond.laysFinal "LoanDesk$Graph" "LoanDesk$Graph" "doings" "[I", Cond.laysFinal "LoanDesk$Graph" "LoanDesk$Graph" "as" "[I", Cond.laysFinal "LoanDesk$Graph" "LoanDesk$Graph" "bs" "[I", Cond.laysFinal "LoanDesk$Graph" "LoanDesk$Graph" "cs" "[I", Cond.laysFinal "LoanDesk$Graph" "LoanDesk$Graph" "xs" "[I", Cond.laysFinal "LoanDesk$Graph" "LoanDesk$Graph" "ys" "[I", Cond.lays "LoanDesk$Graph" "LoanDesk$Graph" "size" "I", Cond.arrayClass .int, Cond.classLink "LoanDesk" 16 "LoanDesk$Reach", Cond.instantiable "LoanDesk$Reach" 2, Cond.instanceMethod y_iR, Cond.code y_iR prog_6_method_1_code 1 none, Cond.methodLink "LoanDesk$Reach" 3 objectInit, Cond.classLink "LoanDesk$Reach" 15 "LoanDesk$Pile", Cond.instantiable "LoanDesk$Pile" 3, Cond.instanceMethod y_iP, Cond.code y_iP prog_5_method_1_code 1 none, Cond.methodLink "LoanDesk$Pile" 3 objectInit, Cond.fieldLink "LoanDesk$Pile" 9 "LoanDesk$Pile" "points" "[I", Cond.fieldLink "LoanDesk$Pile" 15 "LoanDesk$Pile" "isIn" "[Z", Cond.fieldLink "LoanDesk$Pile" 19 "LoanDesk$Pile" "size" "I", Cond.laysFinal "LoanDesk$Pile" "LoanDesk$Pile" "points" "[I", Cond.laysFinal "LoanDesk$Pile" "LoanDesk$Pile" "isIn" "[Z", Cond.lays "LoanDesk$Pile" "LoanDesk$Pile" "size" "I", Cond.arrayClass .boolean, Cond.fieldLink "LoanDesk$Reach" 9 "LoanDesk$Reach" "reached" "[I", Cond.fieldLink "LoanDesk$Reach" 18 "LoanDesk$Reach" "pile" "LLoanDesk$Pile;", Cond.laysFinal "LoanDesk$Reach" "LoanDesk$Reach" "reached" "[I", Cond.laysFinal "LoanDesk$Reach" "LoanDesk$Reach" "pile" "LLoanDesk$Pile;", Cond.classLink "LoanDesk" 23 "LoanDesk$Uses", Cond.instantiable "LoanDesk$Uses" 1, Cond.instanceMethod y_iU, Cond.code y_iU prog_7_method_1_code 1 none, Cond.methodLink "LoanDesk$Uses" 3 objectInit, Cond.fieldLink "LoanDesk$Uses" 9 "LoanDesk$Uses" "later" "[I", Cond.laysFinal "LoanDesk$Uses" "LoanDesk$Uses" "later" "[I", Cond.classLink "LoanDesk" 30 "LoanDesk$Holding", Cond.instantiable "LoanDesk$Holding" 3, Cond.instanceMethod y_iH, Cond.code y_iH prog_3_method_1_code 1 none, Cond.methodLink "LoanDesk$Holding" 3 objectInit, Cond.classLink "LoanDesk$Holding" 18 "LoanDesk$Pile", Cond.fieldLink "LoanDesk$Holding" 9 "LoanDesk$Holding" "ahead" "[I", Cond.fieldLink "LoanDesk$Holding" 15 "LoanDesk$Holding" "behind" "[I", Cond.fieldLink "LoanDesk$Holding" 21 "LoanDesk$Holding" "pile" "LLoanDesk$Pile;", Cond.laysFinal "LoanDesk$Holding" "LoanDesk$Holding" "ahead" "[I", Cond.laysFinal "LoanDesk$Holding" "LoanDesk$Holding" "behind" "[I"]
set_option maxRecDepth 100000 in
theorem bgi_1 : ∀ w ∈ bg_1, w ∈ lw_tbl := List.forall_mem_cons.mpr ⟨List.mem_of_getElem? (i := 51) rfl, List.forall_mem_cons.mpr ⟨List.mem_of_getElem? (i := 52) rfl, List.forall_mem_cons.mpr ⟨List.mem_of_getElem? (i := 53) rfl, List.forall_mem_cons.mpr ⟨List.mem_of_getElem? (i := 54) rfl, List.forall_mem_cons.mpr ⟨List.mem_of_getElem? (i := 56) rfl, List.forall_mem_cons.mpr ⟨List.mem_of_getElem? (i := 58) rfl, List.forall_mem_cons.mpr ⟨List.mem_of_getElem? (i := 60) rfl, List.forall_mem_cons.mpr ⟨List.mem_of_getElem? (i := 62) rfl, List.forall_mem_cons.mpr ⟨List.mem_of_getElem? (i := 64) rfl, List.forall_mem_cons.mpr ⟨List.mem_of_getElem? (i := 66) rfl, List.forall_mem_cons.mpr ⟨List.mem_of_getElem? (i := 69) rfl, List.forall_mem_cons.mpr ⟨List.mem_of_getElem? (i := 70) rfl, List.forall_mem_cons.mpr ⟨List.mem_of_getElem? (i := 71) rfl, List.forall_mem_cons.mpr ⟨List.mem_of_getElem? (i := 73) rfl, List.forall_mem_cons.mpr ⟨List.mem_of_getElem? (i := 74) rfl, List.forall_mem_cons.mpr ⟨List.mem_of_getElem? (i := 75) rfl, List.forall_mem_cons.mpr ⟨List.mem_of_getElem? (i := 76) rfl, List.forall_mem_cons.mpr ⟨List.mem_of_getElem? (i := 77) rfl, List.forall_mem_cons.mpr ⟨List.mem_of_getElem? (i := 79) rfl, List.forall_mem_cons.mpr ⟨List.mem_of_getElem? (i := 80) rfl, List.forall_mem_cons.mpr ⟨List.mem_of_getElem? (i := 81) rfl, List.forall_mem_cons.mpr ⟨List.mem_of_getElem? (i := 82) rfl, List.forall_mem_cons.mpr ⟨List.mem_of_getElem? (i := 83) rfl, List.forall_mem_cons.mpr ⟨List.mem_of_getElem? (i := 84) rfl, List.forall_mem_cons.mpr ⟨List.mem_of_getElem? (i := 85) rfl, List.forall_mem_cons.mpr ⟨List.mem_of_getElem? (i := 87) rfl, List.forall_mem_cons.mpr ⟨List.mem_of_getElem? (i := 89) rfl, List.forall_mem_cons.mpr ⟨List.mem_of_getElem? (i := 92) rfl, List.forall_mem_cons.mpr ⟨List.mem_of_getElem? (i := 93) rfl, List.forall_mem_cons.mpr ⟨List.mem_of_getElem? (i := 94) rfl, List.forall_mem_cons.mpr ⟨List.mem_of_getElem? (i := 95) rfl, List.forall_mem_cons.mpr ⟨List.mem_of_getElem? (i := 97) rfl, List.forall_mem_cons.mpr ⟨List.mem_of_getElem? (i := 100) rfl, List.forall_mem_cons.mpr ⟨List.mem_of_getElem? (i := 101) rfl, List.forall_mem_cons.mpr ⟨List.mem_of_getElem? (i := 103) rfl, List.forall_mem_cons.mpr ⟨List.mem_of_getElem? (i := 104) rfl, List.forall_mem_cons.mpr ⟨List.mem_of_getElem? (i := 105) rfl, List.forall_mem_cons.mpr ⟨List.mem_of_getElem? (i := 106) rfl, List.forall_mem_cons.mpr ⟨List.mem_of_getElem? (i := 107) rfl, List.forall_mem_cons.mpr ⟨List.mem_of_getElem? (i := 110) rfl, List.forall_mem_cons.mpr ⟨List.mem_of_getElem? (i := 111) rfl, List.forall_mem_cons.mpr ⟨List.mem_of_getElem? (i := 113) rfl, List.forall_mem_cons.mpr ⟨List.mem_of_getElem? (i := 114) rfl, List.forall_mem_cons.mpr ⟨List.mem_of_getElem? (i := 115) rfl, List.forall_mem_cons.mpr ⟨List.mem_of_getElem? (i := 116) rfl, List.forall_mem_cons.mpr ⟨List.mem_of_getElem? (i := 118) rfl, List.forall_mem_cons.mpr ⟨List.mem_of_getElem? (i := 119) rfl, List.forall_mem_cons.mpr ⟨List.mem_of_getElem? (i := 120) rfl, List.forall_mem_cons.mpr ⟨List.mem_of_getElem? (i := 121) rfl, List.forall_mem_cons.mpr ⟨List.mem_of_getElem? (i := 123) rfl, List.forall_mem_nil _⟩⟩⟩⟩⟩⟩⟩⟩⟩⟩⟩⟩⟩⟩⟩⟩⟩⟩⟩⟩⟩⟩⟩⟩⟩⟩⟩⟩⟩⟩⟩⟩⟩⟩⟩⟩⟩⟩⟩⟩⟩⟩⟩⟩⟩⟩⟩⟩⟩⟩
theorem bgd_1 : ∀ w ∈ bg_1, goodWord w = true := List.all_eq_true.mp (by decide +kernel)
def bg_2 : List Cond := [Cond.laysFinal "LoanDesk$Holding" "LoanDesk$Holding" "pile" "LLoanDesk$Pile;", Cond.classLink "LoanDesk" 37 "LoanDesk$Meetings", Cond.instantiable "LoanDesk$Meetings" 1, Cond.instanceMethod y_iM, Cond.code y_iM prog_4_method_1_code 1 none, Cond.methodLink "LoanDesk$Meetings" 3 objectInit, Cond.fieldLink "LoanDesk$Meetings" 9 "LoanDesk$Meetings" "words" "[J", Cond.laysFinal "LoanDesk$Meetings" "LoanDesk$Meetings" "words" "[J", Cond.arrayClass .long, Cond.fieldLink "LoanDesk" 10 "LoanDesk" "graph" "LLoanDesk$Graph;", Cond.fieldLink "LoanDesk" 19 "LoanDesk" "reach" "LLoanDesk$Reach;", Cond.fieldLink "LoanDesk" 26 "LoanDesk" "uses" "LLoanDesk$Uses;", Cond.fieldLink "LoanDesk" 33 "LoanDesk" "holding" "LLoanDesk$Holding;", Cond.fieldLink "LoanDesk" 40 "LoanDesk" "meetings" "LLoanDesk$Meetings;", Cond.fieldLink "LoanDesk" 44 "LoanDesk" "waysKnown" "Z", Cond.fieldLink "LoanDesk" 48 "LoanDesk" "meetingsKnown" "Z", Cond.laysFinal "LoanDesk" "LoanDesk" "graph" "LLoanDesk$Graph;", Cond.laysFinal "LoanDesk" "LoanDesk" "reach" "LLoanDesk$Reach;", Cond.laysFinal "LoanDesk" "LoanDesk" "uses" "LLoanDesk$Uses;", Cond.laysFinal "LoanDesk" "LoanDesk" "holding" "LLoanDesk$Holding;", Cond.laysFinal "LoanDesk" "LoanDesk" "meetings" "LLoanDesk$Meetings;", Cond.lays "LoanDesk" "LoanDesk" "waysKnown" "Z", Cond.lays "LoanDesk" "LoanDesk" "meetingsKnown" "Z", Cond.methodLink "LoanDeskLaw" 13 y_point, Cond.instanceMethod y_point, Cond.selects "LoanDesk" y_point y_point, Cond.code y_point prog_1_method_2_code 5 (some .int), Cond.methodLink "LoanDesk" 51 y_isDoing, Cond.static y_isDoing, Cond.code y_isDoing prog_1_method_11_code 4 (some .boolean), Cond.methodLink "LoanDesk" 125 y_isRef, Cond.static y_isRef, Cond.code y_isRef prog_1_method_12_code 1 (some .boolean), Cond.methodLink "LoanDesk" 128 y_isPlace, Cond.static y_isPlace, Cond.code y_isPlace prog_1_method_13_code 3 (some .boolean), Cond.methodLink "LoanDesk" 55 y_hasRoom, Cond.instanceMethod y_hasRoom, Cond.selects "LoanDesk$Graph" y_hasRoom y_hasRoom, Cond.code y_hasRoom prog_2_method_3_code 1 (some .boolean), Cond.methodLink "LoanDesk" 59 y_forget, Cond.instanceMethod y_forget, Cond.code y_forget prog_1_method_16_code 1 none, Cond.methodLink "LoanDesk" 62 y_add, Cond.instanceMethod y_add, Cond.selects "LoanDesk$Graph" y_add y_add, Cond.code y_add prog_2_method_7_code 6 (some .int), Cond.methodLink "LoanDesk$Graph" 41 y_hasRoom, Cond.methodLink "LoanDeskLaw" 18 y_next, Cond.instanceMethod y_next]
set_option maxRecDepth 100000 in
theorem bgi_2 : ∀ w ∈ bg_2, w ∈ lw_tbl := List.forall_mem_cons.mpr ⟨List.mem_of_getElem? (i := 125) rfl, List.forall_mem_cons.mpr ⟨List.mem_of_getElem? (i := 128) rfl, List.forall_mem_cons.mpr ⟨List.mem_of_getElem? (i := 129) rfl, List.forall_mem_cons.mpr ⟨List.mem_of_getElem? (i := 131) rfl, List.forall_mem_cons.mpr ⟨List.mem_of_getElem? (i := 132) rfl, List.forall_mem_cons.mpr ⟨List.mem_of_getElem? (i := 133) rfl, List.forall_mem_cons.mpr ⟨List.mem_of_getElem? (i := 134) rfl, List.forall_mem_cons.mpr ⟨List.mem_of_getElem? (i := 135) rfl, List.forall_mem_cons.mpr ⟨List.mem_of_getElem? (i := 138) rfl, List.forall_mem_cons.mpr ⟨List.mem_of_getElem? (i := 139) rfl, List.forall_mem_cons.mpr ⟨List.mem_of_getElem? (i := 140) rfl, List.forall_mem_cons.mpr ⟨List.mem_of_getElem? (i := 141) rfl, List.forall_mem_cons.mpr ⟨List.mem_of_getElem? (i := 142) rfl, List.forall_mem_cons.mpr ⟨List.mem_of_getElem? (i := 143) rfl, List.forall_mem_cons.mpr ⟨List.mem_of_getElem? (i := 144) rfl, List.forall_mem_cons.mpr ⟨List.mem_of_getElem? (i := 145) rfl, List.forall_mem_cons.mpr ⟨List.mem_of_getElem? (i := 146) rfl, List.forall_mem_cons.mpr ⟨List.mem_of_getElem? (i := 148) rfl, List.forall_mem_cons.mpr ⟨List.mem_of_getElem? (i := 150) rfl, List.forall_mem_cons.mpr ⟨List.mem_of_getElem? (i := 152) rfl, List.forall_mem_cons.mpr ⟨List.mem_of_getElem? (i := 154) rfl, List.forall_mem_cons.mpr ⟨List.mem_of_getElem? (i := 156) rfl, List.forall_mem_cons.mpr ⟨List.mem_of_getElem? (i := 158) rfl, List.forall_mem_cons.mpr ⟨List.mem_of_getElem? (i := 161) rfl, List.forall_mem_cons.mpr ⟨List.mem_of_getElem? (i := 162) rfl, List.forall_mem_cons.mpr ⟨List.mem_of_getElem? (i := 163) rfl, List.forall_mem_cons.mpr ⟨List.mem_of_getElem? (i := 164) rfl, List.forall_mem_cons.mpr ⟨List.mem_of_getElem? (i := 165) rfl, List.forall_mem_cons.mpr ⟨List.mem_of_getElem? (i := 166) rfl, List.forall_mem_cons.mpr ⟨List.mem_of_getElem? (i := 167) rfl, List.forall_mem_cons.mpr ⟨List.mem_of_getElem? (i := 168) rfl, List.forall_mem_cons.mpr ⟨List.mem_of_getElem? (i := 169) rfl, List.forall_mem_cons.mpr ⟨List.mem_of_getElem? (i := 170) rfl, List.forall_mem_cons.mpr ⟨List.mem_of_getElem? (i := 171) rfl, List.forall_mem_cons.mpr ⟨List.mem_of_getElem? (i := 172) rfl, List.forall_mem_cons.mpr ⟨List.mem_of_getElem? (i := 173) rfl, List.forall_mem_cons.mpr ⟨List.mem_of_getElem? (i := 174) rfl, List.forall_mem_cons.mpr ⟨List.mem_of_getElem? (i := 175) rfl, List.forall_mem_cons.mpr ⟨List.mem_of_getElem? (i := 176) rfl, List.forall_mem_cons.mpr ⟨List.mem_of_getElem? (i := 177) rfl, List.forall_mem_cons.mpr ⟨List.mem_of_getElem? (i := 178) rfl, List.forall_mem_cons.mpr ⟨List.mem_of_getElem? (i := 180) rfl, List.forall_mem_cons.mpr ⟨List.mem_of_getElem? (i := 181) rfl, List.forall_mem_cons.mpr ⟨List.mem_of_getElem? (i := 182) rfl, List.forall_mem_cons.mpr ⟨List.mem_of_getElem? (i := 183) rfl, List.forall_mem_cons.mpr ⟨List.mem_of_getElem? (i := 184) rfl, List.forall_mem_cons.mpr ⟨List.mem_of_getElem? (i := 185) rfl, List.forall_mem_cons.mpr ⟨List.mem_of_getElem? (i := 186) rfl, List.forall_mem_cons.mpr ⟨List.mem_of_getElem? (i := 187) rfl, List.forall_mem_cons.mpr ⟨List.mem_of_getElem? (i := 188) rfl, List.forall_mem_nil _⟩⟩⟩⟩⟩⟩⟩⟩⟩⟩⟩⟩⟩⟩⟩⟩⟩⟩⟩⟩⟩⟩⟩⟩⟩⟩⟩⟩⟩⟩⟩⟩⟩⟩⟩⟩⟩⟩⟩⟩⟩⟩⟩⟩⟩⟩⟩⟩⟩⟩
theorem bgd_2 : ∀ w ∈ bg_2, goodWord w = true := List.all_eq_true.mp (by decide +kernel)
def bg_3 : List Cond := [Cond.selects "LoanDesk" y_next y_next, Cond.code y_next prog_1_method_3_code 4 (some .boolean), Cond.methodLink "LoanDesk" 66 y_isPoint, Cond.instanceMethod y_isPoint, Cond.selects "LoanDesk$Graph" y_isPoint y_isPoint, Cond.code y_isPoint prog_2_method_4_code 2 (some .boolean), Cond.methodLink "LoanDesk" 70 y_isNext, Cond.static y_isNext, Cond.code y_isNext prog_1_method_14_code 1 (some .boolean), Cond.methodLink "LoanDesk" 131 y_isIndex, Cond.static y_isIndex, Cond.code y_isIndex prog_1_method_15_code 1 (some .boolean), Cond.methodLink "LoanDesk" 73 y_tellNext, Cond.instanceMethod y_tellNext, Cond.selects "LoanDesk$Graph" y_tellNext y_tellNext, Cond.code y_tellNext prog_2_method_8_code 4 none, Cond.methodLink "LoanDesk$Graph" 34 y_isPoint, Cond.methodLink "LoanDeskLaw" 23 y_isReached, Cond.instanceMethod y_isReached, Cond.selects "LoanDesk" y_isReached y_isReached, Cond.code y_isReached prog_1_method_4_code 2 (some .boolean), Cond.methodLink "LoanDesk" 77 y_findWays, Cond.instanceMethod y_findWays, Cond.code y_findWays prog_1_method_17_code 1 none, Cond.methodLink "LoanDesk" 134 y_rfind, Cond.instanceMethod y_rfind, Cond.selects "LoanDesk$Reach" y_rfind y_rfind, Cond.code y_rfind prog_6_method_4_code 4 none, Cond.methodLink "LoanDesk$Reach" 26 y_fillI, Cond.static y_fillI, Cond.code y_fillI prog_11_method_103_code 4 none, Cond.methodLink "LoanDesk$Reach" 32 y_arrive, Cond.instanceMethod y_arrive, Cond.code y_arrive prog_6_method_5_code 3 none, Cond.methodLink "LoanDesk$Reach" 53 y_isPoint, Cond.methodLink "LoanDesk$Reach" 56 y_comesTo, Cond.instanceMethod y_comesTo, Cond.selects "LoanDesk$Reach" y_comesTo y_comesTo, Cond.code y_comesTo prog_6_method_2_code 2 (some .boolean), Cond.methodLink "LoanDesk$Reach" 59 y_put, Cond.instanceMethod y_put, Cond.selects "LoanDesk$Pile" y_put y_put, Cond.code y_put prog_5_method_3_code 2 none, Cond.methodLink "LoanDesk$Reach" 36 y_pEmpty, Cond.instanceMethod y_pEmpty, Cond.selects "LoanDesk$Pile" y_pEmpty y_pEmpty, Cond.code y_pEmpty prog_5_method_2_code 1 (some .boolean), Cond.methodLink "LoanDesk$Reach" 40 y_take, Cond.instanceMethod y_take, Cond.selects "LoanDesk$Pile" y_take y_take]
set_option maxRecDepth 100000 in
theorem bgi_3 : ∀ w ∈ bg_3, w ∈ lw_tbl := List.forall_mem_cons.mpr ⟨List.mem_of_getElem? (i := 189) rfl, List.forall_mem_cons.mpr ⟨List.mem_of_getElem? (i := 190) rfl, List.forall_mem_cons.mpr ⟨List.mem_of_getElem? (i := 191) rfl, List.forall_mem_cons.mpr ⟨List.mem_of_getElem? (i := 192) rfl, List.forall_mem_cons.mpr ⟨List.mem_of_getElem? (i := 193) rfl, List.forall_mem_cons.mpr ⟨List.mem_of_getElem? (i := 194) rfl, List.forall_mem_cons.mpr ⟨List.mem_of_getElem? (i := 195) rfl, List.forall_mem_cons.mpr ⟨List.mem_of_getElem? (i := 196) rfl, List.forall_mem_cons.mpr ⟨List.mem_of_getElem? (i := 197) rfl, List.forall_mem_cons.mpr ⟨List.mem_of_getElem? (i := 198) rfl, List.forall_mem_cons.mpr ⟨List.mem_of_getElem? (i := 199) rfl, List.forall_mem_cons.mpr ⟨List.mem_of_getElem? (i := 200) rfl, List.forall_mem_cons.mpr ⟨List.mem_of_getElem? (i := 201) rfl, List.forall_mem_cons.mpr ⟨List.mem_of_getElem? (i := 202) rfl, List.forall_mem_cons.mpr ⟨List.mem_of_getElem? (i := 203) rfl, List.forall_mem_cons.mpr ⟨List.mem_of_getElem? (i := 204) rfl, List.forall_mem_cons.mpr ⟨List.mem_of_getElem? (i := 205) rfl, List.forall_mem_cons.mpr ⟨List.mem_of_getElem? (i := 206) rfl, List.forall_mem_cons.mpr ⟨List.mem_of_getElem? (i := 207) rfl, List.forall_mem_cons.mpr ⟨List.mem_of_getElem? (i := 208) rfl, List.forall_mem_cons.mpr ⟨List.mem_of_getElem? (i := 209) rfl, List.forall_mem_cons.mpr ⟨List.mem_of_getElem? (i := 210) rfl, List.forall_mem_cons.mpr ⟨List.mem_of_getElem? (i := 212) rfl, List.forall_mem_cons.mpr ⟨List.mem_of_getElem? (i := 213) rfl, List.forall_mem_cons.mpr ⟨List.mem_of_getElem? (i := 214) rfl, List.forall_mem_cons.mpr ⟨List.mem_of_getElem? (i := 215) rfl, List.forall_mem_cons.mpr ⟨List.mem_of_getElem? (i := 216) rfl, List.forall_mem_cons.mpr ⟨List.mem_of_getElem? (i := 217) rfl, List.forall_mem_cons.mpr ⟨List.mem_of_getElem? (i := 218) rfl, List.forall_mem_cons.mpr ⟨List.mem_of_getElem? (i := 219) rfl, List.forall_mem_cons.mpr ⟨List.mem_of_getElem? (i := 220) rfl, List.forall_mem_cons.mpr ⟨List.mem_of_getElem? (i := 221) rfl, List.forall_mem_cons.mpr ⟨List.mem_of_getElem? (i := 223) rfl, List.forall_mem_cons.mpr ⟨List.mem_of_getElem? (i := 224) rfl, List.forall_mem_cons.mpr ⟨List.mem_of_getElem? (i := 225) rfl, List.forall_mem_cons.mpr ⟨List.mem_of_getElem? (i := 226) rfl, List.forall_mem_cons.mpr ⟨List.mem_of_getElem? (i := 227) rfl, List.forall_mem_cons.mpr ⟨List.mem_of_getElem? (i := 228) rfl, List.forall_mem_cons.mpr ⟨List.mem_of_getElem? (i := 229) rfl, List.forall_mem_cons.mpr ⟨List.mem_of_getElem? (i := 231) rfl, List.forall_mem_cons.mpr ⟨List.mem_of_getElem? (i := 232) rfl, List.forall_mem_cons.mpr ⟨List.mem_of_getElem? (i := 233) rfl, List.forall_mem_cons.mpr ⟨List.mem_of_getElem? (i := 234) rfl, List.forall_mem_cons.mpr ⟨List.mem_of_getElem? (i := 236) rfl, List.forall_mem_cons.mpr ⟨List.mem_of_getElem? (i := 237) rfl, List.forall_mem_cons.mpr ⟨List.mem_of_getElem? (i := 238) rfl, List.forall_mem_cons.mpr ⟨List.mem_of_getElem? (i := 239) rfl, List.forall_mem_cons.mpr ⟨List.mem_of_getElem? (i := 240) rfl, List.forall_mem_cons.mpr ⟨List.mem_of_getElem? (i := 241) rfl, List.forall_mem_cons.mpr ⟨List.mem_of_getElem? (i := 242) rfl, List.forall_mem_nil _⟩⟩⟩⟩⟩⟩⟩⟩⟩⟩⟩⟩⟩⟩⟩⟩⟩⟩⟩⟩⟩⟩⟩⟩⟩⟩⟩⟩⟩⟩⟩⟩⟩⟩⟩⟩⟩⟩⟩⟩⟩⟩⟩⟩⟩⟩⟩⟩⟩⟩
theorem bgd_3 : ∀ w ∈ bg_3, goodWord w = true := List.all_eq_true.mp (by decide +kernel)
def bg_4 : List Cond := [Cond.code y_take prog_5_method_4_code 2 (some .int), Cond.methodLink "LoanDesk$Reach" 44 y_firstNext, Cond.instanceMethod y_firstNext, Cond.selects "LoanDesk$Graph" y_firstNext y_firstNext, Cond.code y_firstNext prog_2_method_10_code 2 (some .int), Cond.methodLink "LoanDesk$Reach" 50 y_secondNext, Cond.instanceMethod y_secondNext, Cond.selects "LoanDesk$Graph" y_secondNext y_secondNext, Cond.code y_secondNext prog_2_method_11_code 2 (some .int), Cond.methodLink "LoanDesk" 138 y_ufind, Cond.instanceMethod y_ufind, Cond.selects "LoanDesk$Uses" y_ufind y_ufind, Cond.code y_ufind prog_7_method_3_code 4 none, Cond.methodLink "LoanDesk$Uses" 19 y_fillI, Cond.methodLink "LoanDesk$Uses" 25 y_growAll, Cond.instanceMethod y_growAll, Cond.code y_growAll prog_7_method_4_code 7 (some .boolean), Cond.methodLink "LoanDesk$Uses" 29 y_gsize, Cond.instanceMethod y_gsize, Cond.selects "LoanDesk$Graph" y_gsize y_gsize, Cond.code y_gsize prog_2_method_2_code 1 (some .int), Cond.methodLink "LoanDesk$Uses" 35 y_math_min, Cond.static y_math_min, Cond.code y_math_min prog_10_method_69_code 2 (some .int), Cond.methodLink "LoanDesk$Uses" 41 y_firstNext, Cond.methodLink "LoanDesk$Uses" 45 y_secondNext, Cond.methodLink "LoanDesk$Uses" 48 y_ubehind, Cond.instanceMethod y_ubehind, Cond.selects "LoanDesk$Uses" y_ubehind y_ubehind, Cond.code y_ubehind prog_7_method_2_code 2 (some .int), Cond.methodLink "LoanDesk$Uses" 51 y_usedFrom, Cond.instanceMethod y_usedFrom, Cond.selects "LoanDesk$Graph" y_usedFrom y_usedFrom, Cond.code y_usedFrom prog_2_method_14_code 3 (some .int), Cond.methodLink "LoanDesk" 80 y_comesTo, Cond.methodLink "LoanDeskLaw" 28 y_holders, Cond.instanceMethod y_holders, Cond.selects "LoanDesk" y_holders y_holders, Cond.code y_holders prog_1_method_5_code 3 (some .int), Cond.methodLink "LoanDesk" 83 y_isLoan, Cond.instanceMethod y_isLoan, Cond.selects "LoanDesk$Graph" y_isLoan y_isLoan, Cond.code y_isLoan prog_2_method_5_code 2 (some .boolean), Cond.methodLink "LoanDesk" 86 y_follow, Cond.instanceMethod y_follow, Cond.selects "LoanDesk$Holding" y_follow y_follow, Cond.code y_follow prog_3_method_3_code 4 none, Cond.methodLink "LoanDesk$Holding" 29 y_fillI, Cond.methodLink "LoanDesk$Holding" 35 y_put, Cond.methodLink "LoanDesk$Holding" 39 y_pEmpty]
set_option maxRecDepth 100000 in
theorem bgi_4 : ∀ w ∈ bg_4, w ∈ lw_tbl := List.forall_mem_cons.mpr ⟨List.mem_of_getElem? (i := 243) rfl, List.forall_mem_cons.mpr ⟨List.mem_of_getElem? (i := 244) rfl, List.forall_mem_cons.mpr ⟨List.mem_of_getElem? (i := 245) rfl, List.forall_mem_cons.mpr ⟨List.mem_of_getElem? (i := 246) rfl, List.forall_mem_cons.mpr ⟨List.mem_of_getElem? (i := 247) rfl, List.forall_mem_cons.mpr ⟨List.mem_of_getElem? (i := 248) rfl, List.forall_mem_cons.mpr ⟨List.mem_of_getElem? (i := 249) rfl, List.forall_mem_cons.mpr ⟨List.mem_of_getElem? (i := 250) rfl, List.forall_mem_cons.mpr ⟨List.mem_of_getElem? (i := 251) rfl, List.forall_mem_cons.mpr ⟨List.mem_of_getElem? (i := 252) rfl, List.forall_mem_cons.mpr ⟨List.mem_of_getElem? (i := 253) rfl, List.forall_mem_cons.mpr ⟨List.mem_of_getElem? (i := 254) rfl, List.forall_mem_cons.mpr ⟨List.mem_of_getElem? (i := 255) rfl, List.forall_mem_cons.mpr ⟨List.mem_of_getElem? (i := 256) rfl, List.forall_mem_cons.mpr ⟨List.mem_of_getElem? (i := 257) rfl, List.forall_mem_cons.mpr ⟨List.mem_of_getElem? (i := 259) rfl, List.forall_mem_cons.mpr ⟨List.mem_of_getElem? (i := 260) rfl, List.forall_mem_cons.mpr ⟨List.mem_of_getElem? (i := 261) rfl, List.forall_mem_cons.mpr ⟨List.mem_of_getElem? (i := 262) rfl, List.forall_mem_cons.mpr ⟨List.mem_of_getElem? (i := 263) rfl, List.forall_mem_cons.mpr ⟨List.mem_of_getElem? (i := 264) rfl, List.forall_mem_cons.mpr ⟨List.mem_of_getElem? (i := 265) rfl, List.forall_mem_cons.mpr ⟨List.mem_of_getElem? (i := 266) rfl, List.forall_mem_cons.mpr ⟨List.mem_of_getElem? (i := 267) rfl, List.forall_mem_cons.mpr ⟨List.mem_of_getElem? (i := 268) rfl, List.forall_mem_cons.mpr ⟨List.mem_of_getElem? (i := 269) rfl, List.forall_mem_cons.mpr ⟨List.mem_of_getElem? (i := 270) rfl, List.forall_mem_cons.mpr ⟨List.mem_of_getElem? (i := 271) rfl, List.forall_mem_cons.mpr ⟨List.mem_of_getElem? (i := 272) rfl, List.forall_mem_cons.mpr ⟨List.mem_of_getElem? (i := 273) rfl, List.forall_mem_cons.mpr ⟨List.mem_of_getElem? (i := 275) rfl, List.forall_mem_cons.mpr ⟨List.mem_of_getElem? (i := 276) rfl, List.forall_mem_cons.mpr ⟨List.mem_of_getElem? (i := 277) rfl, List.forall_mem_cons.mpr ⟨List.mem_of_getElem? (i := 278) rfl, List.forall_mem_cons.mpr ⟨List.mem_of_getElem? (i := 279) rfl, List.forall_mem_cons.mpr ⟨List.mem_of_getElem? (i := 280) rfl, List.forall_mem_cons.mpr ⟨List.mem_of_getElem? (i := 281) rfl, List.forall_mem_cons.mpr ⟨List.mem_of_getElem? (i := 282) rfl, List.forall_mem_cons.mpr ⟨List.mem_of_getElem? (i := 283) rfl, List.forall_mem_cons.mpr ⟨List.mem_of_getElem? (i := 284) rfl, List.forall_mem_cons.mpr ⟨List.mem_of_getElem? (i := 285) rfl, List.forall_mem_cons.mpr ⟨List.mem_of_getElem? (i := 286) rfl, List.forall_mem_cons.mpr ⟨List.mem_of_getElem? (i := 287) rfl, List.forall_mem_cons.mpr ⟨List.mem_of_getElem? (i := 288) rfl, List.forall_mem_cons.mpr ⟨List.mem_of_getElem? (i := 289) rfl, List.forall_mem_cons.mpr ⟨List.mem_of_getElem? (i := 290) rfl, List.forall_mem_cons.mpr ⟨List.mem_of_getElem? (i := 291) rfl, List.forall_mem_cons.mpr ⟨List.mem_of_getElem? (i := 292) rfl, List.forall_mem_cons.mpr ⟨List.mem_of_getElem? (i := 293) rfl, List.forall_mem_cons.mpr ⟨List.mem_of_getElem? (i := 294) rfl, List.forall_mem_nil _⟩⟩⟩⟩⟩⟩⟩⟩⟩⟩⟩⟩⟩⟩⟩⟩⟩⟩⟩⟩⟩⟩⟩⟩⟩⟩⟩⟩⟩⟩⟩⟩⟩⟩⟩⟩⟩⟩⟩⟩⟩⟩⟩⟩⟩⟩⟩⟩⟩⟩
theorem bgd_4 : ∀ w ∈ bg_4, goodWord w = true := List.all_eq_true.mp (by decide +kernel)
def bg_5 : List Cond := [Cond.methodLink "LoanDesk$Holding" 43 y_take, Cond.methodLink "LoanDesk$Holding" 47 y_pass, Cond.instanceMethod y_pass, Cond.code y_pass prog_3_method_4_code 5 none, Cond.methodLink "LoanDesk$Holding" 51 y_heldBehind, Cond.instanceMethod y_heldBehind, Cond.selects "LoanDesk$Graph" y_heldBehind y_heldBehind, Cond.code y_heldBehind prog_2_method_12_code 4 (some .int), Cond.methodLink "LoanDesk$Graph" 45 y_withHolder, Cond.static y_withHolder, Cond.code y_withHolder prog_2_method_13_code 4 (some .int), Cond.methodLink "LoanDesk$Holding" 57 y_firstNext, Cond.methodLink "LoanDesk$Holding" 61 y_handOn, Cond.instanceMethod y_handOn, Cond.code y_handOn prog_3_method_5_code 5 none, Cond.methodLink "LoanDesk$Holding" 67 y_isPoint, Cond.methodLink "LoanDesk$Holding" 64 y_secondNext, Cond.methodLink "LoanDesk" 90 y_hbehind, Cond.instanceMethod y_hbehind, Cond.selects "LoanDesk$Holding" y_hbehind y_hbehind, Cond.code y_hbehind prog_3_method_2_code 2 (some .int), Cond.methodLink "LoanDeskLaw" 33 y_used, Cond.instanceMethod y_used, Cond.selects "LoanDesk" y_used y_used, Cond.code y_used prog_1_method_6_code 2 (some .int), Cond.methodLink "LoanDesk" 94 y_ubehind, Cond.methodLink "LoanDeskLaw" 38 y_isAlive, Cond.instanceMethod y_isAlive, Cond.selects "LoanDesk" y_isAlive y_isAlive, Cond.code y_isAlive prog_1_method_7_code 3 (some .boolean), Cond.methodLink "LoanDesk" 95 y_holders, Cond.methodLink "LoanDesk" 99 y_used, Cond.methodLink "LoanDeskLaw" 43 y_met, Cond.instanceMethod y_met, Cond.selects "LoanDesk" y_met y_met, Cond.code y_met prog_1_method_8_code 3 (some .int), Cond.methodLink "LoanDesk" 102 y_findMeet, Cond.instanceMethod y_findMeet, Cond.code y_findMeet prog_1_method_18_code 2 none, Cond.methodLink "LoanDesk" 139 y_mempty, Cond.instanceMethod y_mempty, Cond.selects "LoanDesk$Meetings" y_mempty y_mempty, Cond.code y_mempty prog_4_method_2_code 1 none, Cond.methodLink "LoanDesk$Meetings" 15 y_fillJ, Cond.static y_fillJ, Cond.code y_fillJ prog_11_method_101_code 5 none, Cond.methodLink "LoanDesk" 108 y_gsize, Cond.methodLink "LoanDesk" 140 y_addMeet, Cond.instanceMethod y_addMeet, Cond.code y_addMeet prog_1_method_19_code 4 none]
set_option maxRecDepth 100000 in
theorem bgi_5 : ∀ w ∈ bg_5, w ∈ lw_tbl := List.forall_mem_cons.mpr ⟨List.mem_of_getElem? (i := 295) rfl, List.forall_mem_cons.mpr ⟨List.mem_of_getElem? (i := 296) rfl, List.forall_mem_cons.mpr ⟨List.mem_of_getElem? (i := 298) rfl, List.forall_mem_cons.mpr ⟨List.mem_of_getElem? (i := 299) rfl, List.forall_mem_cons.mpr ⟨List.mem_of_getElem? (i := 301) rfl, List.forall_mem_cons.mpr ⟨List.mem_of_getElem? (i := 302) rfl, List.forall_mem_cons.mpr ⟨List.mem_of_getElem? (i := 303) rfl, List.forall_mem_cons.mpr ⟨List.mem_of_getElem? (i := 304) rfl, List.forall_mem_cons.mpr ⟨List.mem_of_getElem? (i := 305) rfl, List.forall_mem_cons.mpr ⟨List.mem_of_getElem? (i := 306) rfl, List.forall_mem_cons.mpr ⟨List.mem_of_getElem? (i := 307) rfl, List.forall_mem_cons.mpr ⟨List.mem_of_getElem? (i := 308) rfl, List.forall_mem_cons.mpr ⟨List.mem_of_getElem? (i := 309) rfl, List.forall_mem_cons.mpr ⟨List.mem_of_getElem? (i := 311) rfl, List.forall_mem_cons.mpr ⟨List.mem_of_getElem? (i := 312) rfl, List.forall_mem_cons.mpr ⟨List.mem_of_getElem? (i := 313) rfl, List.forall_mem_cons.mpr ⟨List.mem_of_getElem? (i := 314) rfl, List.forall_mem_cons.mpr ⟨List.mem_of_getElem? (i := 315) rfl, List.forall_mem_cons.mpr ⟨List.mem_of_getElem? (i := 316) rfl, List.forall_mem_cons.mpr ⟨List.mem_of_getElem? (i := 317) rfl, List.forall_mem_cons.mpr ⟨List.mem_of_getElem? (i := 318) rfl, List.forall_mem_cons.mpr ⟨List.mem_of_getElem? (i := 319) rfl, List.forall_mem_cons.mpr ⟨List.mem_of_getElem? (i := 320) rfl, List.forall_mem_cons.mpr ⟨List.mem_of_getElem? (i := 321) rfl, List.forall_mem_cons.mpr ⟨List.mem_of_getElem? (i := 322) rfl, List.forall_mem_cons.mpr ⟨List.mem_of_getElem? (i := 323) rfl, List.forall_mem_cons.mpr ⟨List.mem_of_getElem? (i := 324) rfl, List.forall_mem_cons.mpr ⟨List.mem_of_getElem? (i := 325) rfl, List.forall_mem_cons.mpr ⟨List.mem_of_getElem? (i := 326) rfl, List.forall_mem_cons.mpr ⟨List.mem_of_getElem? (i := 327) rfl, List.forall_mem_cons.mpr ⟨List.mem_of_getElem? (i := 328) rfl, List.forall_mem_cons.mpr ⟨List.mem_of_getElem? (i := 329) rfl, List.forall_mem_cons.mpr ⟨List.mem_of_getElem? (i := 330) rfl, List.forall_mem_cons.mpr ⟨List.mem_of_getElem? (i := 331) rfl, List.forall_mem_cons.mpr ⟨List.mem_of_getElem? (i := 332) rfl, List.forall_mem_cons.mpr ⟨List.mem_of_getElem? (i := 333) rfl, List.forall_mem_cons.mpr ⟨List.mem_of_getElem? (i := 334) rfl, List.forall_mem_cons.mpr ⟨List.mem_of_getElem? (i := 336) rfl, List.forall_mem_cons.mpr ⟨List.mem_of_getElem? (i := 337) rfl, List.forall_mem_cons.mpr ⟨List.mem_of_getElem? (i := 338) rfl, List.forall_mem_cons.mpr ⟨List.mem_of_getElem? (i := 339) rfl, List.forall_mem_cons.mpr ⟨List.mem_of_getElem? (i := 340) rfl, List.forall_mem_cons.mpr ⟨List.mem_of_getElem? (i := 341) rfl, List.forall_mem_cons.mpr ⟨List.mem_of_getElem? (i := 342) rfl, List.forall_mem_cons.mpr ⟨List.mem_of_getElem? (i := 343) rfl, List.forall_mem_cons.mpr ⟨List.mem_of_getElem? (i := 344) rfl, List.forall_mem_cons.mpr ⟨List.mem_of_getElem? (i := 345) rfl, List.forall_mem_cons.mpr ⟨List.mem_of_getElem? (i := 346) rfl, List.forall_mem_cons.mpr ⟨List.mem_of_getElem? (i := 348) rfl, List.forall_mem_cons.mpr ⟨List.mem_of_getElem? (i := 349) rfl, List.forall_mem_nil _⟩⟩⟩⟩⟩⟩⟩⟩⟩⟩⟩⟩⟩⟩⟩⟩⟩⟩⟩⟩⟩⟩⟩⟩⟩⟩⟩⟩⟩⟩⟩⟩⟩⟩⟩⟩⟩⟩⟩⟩⟩⟩⟩⟩⟩⟩⟩⟩⟩⟩
theorem bgd_5 : ∀ w ∈ bg_5, goodWord w = true := List.all_eq_true.mp (by decide +kernel)
def bg_6 : List Cond := [Cond.methodLink "LoanDesk" 144 y_borrowing, Cond.instanceMethod y_borrowing, Cond.selects "LoanDesk$Graph" y_borrowing y_borrowing, Cond.code y_borrowing prog_2_method_15_code 2 (some .int), Cond.methodLink "LoanDesk$Graph" 38 y_isLoan, Cond.methodLink "LoanDesk" 147 y_touches, Cond.instanceMethod y_touches, Cond.selects "LoanDesk$Graph" y_touches y_touches, Cond.code y_touches prog_2_method_16_code 4 (some .boolean), Cond.methodLink "LoanDesk$Graph" 49 y_isChange, Cond.instanceMethod y_isChange, Cond.code y_isChange prog_2_method_17_code 2 (some .boolean), Cond.methodLink "LoanDesk$Graph" 52 y_isLook, Cond.instanceMethod y_isLook, Cond.code y_isLook prog_2_method_18_code 2 (some .boolean), Cond.methodLink "LoanDesk$Graph" 55 y_overlap, Cond.static y_overlap, Cond.code y_overlap prog_2_method_19_code 5 (some .boolean), Cond.methodLink "LoanDesk$Graph" 59 y_math_min, Cond.methodLink "LoanDesk$Graph" 65 y_math_max, Cond.static y_math_max, Cond.code y_math_max prog_10_method_65_code 2 (some .int), Cond.methodLink "LoanDesk" 151 y_madd, Cond.instanceMethod y_madd, Cond.selects "LoanDesk$Meetings" y_madd y_madd, Cond.code y_madd prog_4_method_3_code 3 none, Cond.methodLink "LoanDesk" 105 y_least, Cond.instanceMethod y_least, Cond.selects "LoanDesk$Meetings" y_least y_least, Cond.code y_least prog_4_method_6_code 4 (some .int), Cond.methodLink "LoanDesk$Meetings" 28 y_isAt, Cond.instanceMethod y_isAt, Cond.code y_isAt prog_4_method_8_code 3 (some .boolean), Cond.methodLink "LoanDeskLaw" 47 y_count, Cond.instanceMethod y_count, Cond.selects "LoanDesk" y_count y_count, Cond.code y_count prog_1_method_9_code 2 (some .int), Cond.methodLink "LoanDesk" 112 y_rcount, Cond.instanceMethod y_rcount, Cond.selects "LoanDesk$Reach" y_rcount y_rcount, Cond.code y_rcount prog_6_method_3_code 3 (some .int), Cond.methodLink "LoanDesk" 115 y_mcount, Cond.instanceMethod y_mcount, Cond.selects "LoanDesk$Meetings" y_mcount y_mcount, Cond.code y_mcount prog_4_method_4_code 3 (some .int), Cond.methodLink "LoanDesk$Meetings" 25 y_isAnyAt, Cond.instanceMethod y_isAnyAt, Cond.code y_isAnyAt prog_4_method_7_code 2 (some .boolean), Cond.methodLink "LoanDesk" 116 y_mfirst, Cond.instanceMethod y_mfirst]
set_option maxRecDepth 100000 in
theorem bgi_6 : ∀ w ∈ bg_6, w ∈ lw_tbl := List.forall_mem_cons.mpr ⟨List.mem_of_getElem? (i := 350) rfl, List.forall_mem_cons.mpr ⟨List.mem_of_getElem? (i := 351) rfl, List.forall_mem_cons.mpr ⟨List.mem_of_getElem? (i := 352) rfl, List.forall_mem_cons.mpr ⟨List.mem_of_getElem? (i := 353) rfl, List.forall_mem_cons.mpr ⟨List.mem_of_getElem? (i := 354) rfl, List.forall_mem_cons.mpr ⟨List.mem_of_getElem? (i := 355) rfl, List.forall_mem_cons.mpr ⟨List.mem_of_getElem? (i := 356) rfl, List.forall_mem_cons.mpr ⟨List.mem_of_getElem? (i := 357) rfl, List.forall_mem_cons.mpr ⟨List.mem_of_getElem? (i := 358) rfl, List.forall_mem_cons.mpr ⟨List.mem_of_getElem? (i := 359) rfl, List.forall_mem_cons.mpr ⟨List.mem_of_getElem? (i := 361) rfl, List.forall_mem_cons.mpr ⟨List.mem_of_getElem? (i := 362) rfl, List.forall_mem_cons.mpr ⟨List.mem_of_getElem? (i := 363) rfl, List.forall_mem_cons.mpr ⟨List.mem_of_getElem? (i := 365) rfl, List.forall_mem_cons.mpr ⟨List.mem_of_getElem? (i := 366) rfl, List.forall_mem_cons.mpr ⟨List.mem_of_getElem? (i := 367) rfl, List.forall_mem_cons.mpr ⟨List.mem_of_getElem? (i := 368) rfl, List.forall_mem_cons.mpr ⟨List.mem_of_getElem? (i := 369) rfl, List.forall_mem_cons.mpr ⟨List.mem_of_getElem? (i := 370) rfl, List.forall_mem_cons.mpr ⟨List.mem_of_getElem? (i := 371) rfl, List.forall_mem_cons.mpr ⟨List.mem_of_getElem? (i := 372) rfl, List.forall_mem_cons.mpr ⟨List.mem_of_getElem? (i := 373) rfl, List.forall_mem_cons.mpr ⟨List.mem_of_getElem? (i := 374) rfl, List.forall_mem_cons.mpr ⟨List.mem_of_getElem? (i := 375) rfl, List.forall_mem_cons.mpr ⟨List.mem_of_getElem? (i := 376) rfl, List.forall_mem_cons.mpr ⟨List.mem_of_getElem? (i := 377) rfl, List.forall_mem_cons.mpr ⟨List.mem_of_getElem? (i := 379) rfl, List.forall_mem_cons.mpr ⟨List.mem_of_getElem? (i := 380) rfl, List.forall_mem_cons.mpr ⟨List.mem_of_getElem? (i := 381) rfl, List.forall_mem_cons.mpr ⟨List.mem_of_getElem? (i := 382) rfl, List.forall_mem_cons.mpr ⟨List.mem_of_getElem? (i := 383) rfl, List.forall_mem_cons.mpr ⟨List.mem_of_getElem? (i := 385) rfl, List.forall_mem_cons.mpr ⟨List.mem_of_getElem? (i := 386) rfl, List.forall_mem_cons.mpr ⟨List.mem_of_getElem? (i := 387) rfl, List.forall_mem_cons.mpr ⟨List.mem_of_getElem? (i := 388) rfl, List.forall_mem_cons.mpr ⟨List.mem_of_getElem? (i := 389) rfl, List.forall_mem_cons.mpr ⟨List.mem_of_getElem? (i := 390) rfl, List.forall_mem_cons.mpr ⟨List.mem_of_getElem? (i := 391) rfl, List.forall_mem_cons.mpr ⟨List.mem_of_getElem? (i := 392) rfl, List.forall_mem_cons.mpr ⟨List.mem_of_getElem? (i := 393) rfl, List.forall_mem_cons.mpr ⟨List.mem_of_getElem? (i := 394) rfl, List.forall_mem_cons.mpr ⟨List.mem_of_getElem? (i := 395) rfl, List.forall_mem_cons.mpr ⟨List.mem_of_getElem? (i := 396) rfl, List.forall_mem_cons.mpr ⟨List.mem_of_getElem? (i := 397) rfl, List.forall_mem_cons.mpr ⟨List.mem_of_getElem? (i := 398) rfl, List.forall_mem_cons.mpr ⟨List.mem_of_getElem? (i := 399) rfl, List.forall_mem_cons.mpr ⟨List.mem_of_getElem? (i := 401) rfl, List.forall_mem_cons.mpr ⟨List.mem_of_getElem? (i := 402) rfl, List.forall_mem_cons.mpr ⟨List.mem_of_getElem? (i := 403) rfl, List.forall_mem_cons.mpr ⟨List.mem_of_getElem? (i := 404) rfl, List.forall_mem_nil _⟩⟩⟩⟩⟩⟩⟩⟩⟩⟩⟩⟩⟩⟩⟩⟩⟩⟩⟩⟩⟩⟩⟩⟩⟩⟩⟩⟩⟩⟩⟩⟩⟩⟩⟩⟩⟩⟩⟩⟩⟩⟩⟩⟩⟩⟩⟩⟩⟩⟩
theorem bgd_6 : ∀ w ∈ bg_6, goodWord w = true := List.all_eq_true.mp (by decide +kernel)
def bg_7 : List Cond := [Cond.selects "LoanDesk$Meetings" y_mfirst y_mfirst, Cond.code y_mfirst prog_4_method_5_code 2 (some .int), Cond.methodLink "LoanDesk" 119 y_countLoans, Cond.instanceMethod y_countLoans, Cond.selects "LoanDesk$Graph" y_countLoans y_countLoans, Cond.code y_countLoans prog_2_method_6_code 3 (some .int), Cond.methodLink "LoanDeskLaw" 51 y_clear, Cond.instanceMethod y_clear, Cond.selects "LoanDesk" y_clear y_clear, Cond.code y_clear prog_1_method_10_code 2 (some .int), Cond.methodLink "LoanDesk" 122 y_gempty, Cond.instanceMethod y_gempty, Cond.selects "LoanDesk$Graph" y_gempty y_gempty, Cond.code y_gempty prog_2_method_9_code 1 none, Cond.classLink "LoanDeskLaw" 10 "LoanDeskModel", Cond.instantiable "LoanDeskModel" 14, Cond.methodLink "LoanDeskLaw" 12 y_iF, Cond.instanceMethod y_iF, Cond.code y_iF prog_9_method_1_code 1 none, Cond.methodLink "LoanDeskModel" 1 objectInit, Cond.fieldLink "LoanDeskModel" 44 "LoanDeskModel" "points" "I", Cond.fieldLink "LoanDeskModel" 7 "LoanDeskModel" "doings" "[I", Cond.fieldLink "LoanDeskModel" 13 "LoanDeskModel" "as" "[I", Cond.fieldLink "LoanDeskModel" 16 "LoanDeskModel" "bs" "[I", Cond.fieldLink "LoanDeskModel" 19 "LoanDeskModel" "cs" "[I", Cond.fieldLink "LoanDeskModel" 22 "LoanDeskModel" "xs" "[I", Cond.fieldLink "LoanDeskModel" 25 "LoanDeskModel" "ys" "[I", Cond.fieldLink "LoanDeskModel" 55 "LoanDeskModel" "known" "Z", Cond.fieldLink "LoanDeskModel" 28 "LoanDeskModel" "reached" "[Z", Cond.fieldLink "LoanDeskModel" 32 "LoanDeskModel" "later" "[I", Cond.fieldLink "LoanDeskModel" 35 "LoanDeskModel" "holds" "[I", Cond.fieldLink "LoanDeskModel" 38 "LoanDeskModel" "pile" "[I", Cond.fieldLink "LoanDeskModel" 41 "LoanDeskModel" "seen" "[Z", Cond.fieldLink "LoanDeskModel" 59 "LoanDeskModel" "high" "I", Cond.lays "LoanDeskModel" "LoanDeskModel" "points" "I", Cond.laysFinal "LoanDeskModel" "LoanDeskModel" "doings" "[I", Cond.laysFinal "LoanDeskModel" "LoanDeskModel" "as" "[I", Cond.laysFinal "LoanDeskModel" "LoanDeskModel" "bs" "[I", Cond.laysFinal "LoanDeskModel" "LoanDeskModel" "cs" "[I", Cond.laysFinal "LoanDeskModel" "LoanDeskModel" "xs" "[I", Cond.laysFinal "LoanDeskModel" "LoanDeskModel" "ys" "[I", Cond.lays "LoanDeskModel" "LoanDeskModel" "known" "Z", Cond.laysFinal "LoanDeskModel" "LoanDeskModel" "reached" "[Z", Cond.laysFinal "LoanDeskModel" "LoanDeskModel" "later" "[I", Cond.laysFinal "LoanDeskModel" "LoanDeskModel" "holds" "[I", Cond.laysFinal "LoanDeskModel" "LoanDeskModel" "pile" "[I", Cond.laysFinal "LoanDeskModel" "LoanDeskModel" "seen" "[Z", Cond.lays "LoanDeskModel" "LoanDeskModel" "high" "I", Cond.methodLink "LoanDeskLaw" 17 y_fpoint, Cond.instanceMethod y_fpoint]
set_option maxRecDepth 100000 in
theorem bgi_7 : ∀ w ∈ bg_7, w ∈ lw_tbl := List.forall_mem_cons.mpr ⟨List.mem_of_getElem? (i := 405) rfl, List.forall_mem_cons.mpr ⟨List.mem_of_getElem? (i := 406) rfl, List.forall_mem_cons.mpr ⟨List.mem_of_getElem? (i := 407) rfl, List.forall_mem_cons.mpr ⟨List.mem_of_getElem? (i := 408) rfl, List.forall_mem_cons.mpr ⟨List.mem_of_getElem? (i := 409) rfl, List.forall_mem_cons.mpr ⟨List.mem_of_getElem? (i := 410) rfl, List.forall_mem_cons.mpr ⟨List.mem_of_getElem? (i := 411) rfl, List.forall_mem_cons.mpr ⟨List.mem_of_getElem? (i := 412) rfl, List.forall_mem_cons.mpr ⟨List.mem_of_getElem? (i := 413) rfl, List.forall_mem_cons.mpr ⟨List.mem_of_getElem? (i := 414) rfl, List.forall_mem_cons.mpr ⟨List.mem_of_getElem? (i := 415) rfl, List.forall_mem_cons.mpr ⟨List.mem_of_getElem? (i := 416) rfl, List.forall_mem_cons.mpr ⟨List.mem_of_getElem? (i := 417) rfl, List.forall_mem_cons.mpr ⟨List.mem_of_getElem? (i := 418) rfl, List.forall_mem_cons.mpr ⟨List.mem_of_getElem? (i := 419) rfl, List.forall_mem_cons.mpr ⟨List.mem_of_getElem? (i := 420) rfl, List.forall_mem_cons.mpr ⟨List.mem_of_getElem? (i := 421) rfl, List.forall_mem_cons.mpr ⟨List.mem_of_getElem? (i := 422) rfl, List.forall_mem_cons.mpr ⟨List.mem_of_getElem? (i := 423) rfl, List.forall_mem_cons.mpr ⟨List.mem_of_getElem? (i := 424) rfl, List.forall_mem_cons.mpr ⟨List.mem_of_getElem? (i := 425) rfl, List.forall_mem_cons.mpr ⟨List.mem_of_getElem? (i := 426) rfl, List.forall_mem_cons.mpr ⟨List.mem_of_getElem? (i := 427) rfl, List.forall_mem_cons.mpr ⟨List.mem_of_getElem? (i := 428) rfl, List.forall_mem_cons.mpr ⟨List.mem_of_getElem? (i := 429) rfl, List.forall_mem_cons.mpr ⟨List.mem_of_getElem? (i := 430) rfl, List.forall_mem_cons.mpr ⟨List.mem_of_getElem? (i := 431) rfl, List.forall_mem_cons.mpr ⟨List.mem_of_getElem? (i := 432) rfl, List.forall_mem_cons.mpr ⟨List.mem_of_getElem? (i := 433) rfl, List.forall_mem_cons.mpr ⟨List.mem_of_getElem? (i := 434) rfl, List.forall_mem_cons.mpr ⟨List.mem_of_getElem? (i := 435) rfl, List.forall_mem_cons.mpr ⟨List.mem_of_getElem? (i := 436) rfl, List.forall_mem_cons.mpr ⟨List.mem_of_getElem? (i := 437) rfl, List.forall_mem_cons.mpr ⟨List.mem_of_getElem? (i := 438) rfl, List.forall_mem_cons.mpr ⟨List.mem_of_getElem? (i := 439) rfl, List.forall_mem_cons.mpr ⟨List.mem_of_getElem? (i := 441) rfl, List.forall_mem_cons.mpr ⟨List.mem_of_getElem? (i := 443) rfl, List.forall_mem_cons.mpr ⟨List.mem_of_getElem? (i := 445) rfl, List.forall_mem_cons.mpr ⟨List.mem_of_getElem? (i := 447) rfl, List.forall_mem_cons.mpr ⟨List.mem_of_getElem? (i := 449) rfl, List.forall_mem_cons.mpr ⟨List.mem_of_getElem? (i := 451) rfl, List.forall_mem_cons.mpr ⟨List.mem_of_getElem? (i := 453) rfl, List.forall_mem_cons.mpr ⟨List.mem_of_getElem? (i := 455) rfl, List.forall_mem_cons.mpr ⟨List.mem_of_getElem? (i := 457) rfl, List.forall_mem_cons.mpr ⟨List.mem_of_getElem? (i := 459) rfl, List.forall_mem_cons.mpr ⟨List.mem_of_getElem? (i := 461) rfl, List.forall_mem_cons.mpr ⟨List.mem_of_getElem? (i := 463) rfl, List.forall_mem_cons.mpr ⟨List.mem_of_getElem? (i := 465) rfl, List.forall_mem_cons.mpr ⟨List.mem_of_getElem? (i := 468) rfl, List.forall_mem_cons.mpr ⟨List.mem_of_getElem? (i := 469) rfl, List.forall_mem_nil _⟩⟩⟩⟩⟩⟩⟩⟩⟩⟩⟩⟩⟩⟩⟩⟩⟩⟩⟩⟩⟩⟩⟩⟩⟩⟩⟩⟩⟩⟩⟩⟩⟩⟩⟩⟩⟩⟩⟩⟩⟩⟩⟩⟩⟩⟩⟩⟩⟩⟩
theorem bgd_7 : ∀ w ∈ bg_7, goodWord w = true := List.all_eq_true.mp (by decide +kernel)
def bg_8 : List Cond := [Cond.selects "LoanDeskModel" y_fpoint y_fpoint, Cond.code y_fpoint prog_9_method_4_code 6 (some .int), Cond.methodLink "LoanDeskModel" 48 y_fIsRef, Cond.static y_fIsRef, Cond.code y_fIsRef prog_9_method_2_code 1 (some .boolean), Cond.methodLink "LoanDeskModel" 52 y_fIsPlace, Cond.static y_fIsPlace, Cond.code y_fIsPlace prog_9_method_3_code 4 (some .boolean), Cond.methodLink "LoanDeskLaw" 22 y_fnext, Cond.instanceMethod y_fnext, Cond.selects "LoanDeskModel" y_fnext y_fnext, Cond.code y_fnext prog_9_method_5_code 4 (some .boolean), Cond.methodLink "LoanDeskLaw" 27 y_fIsReached, Cond.instanceMethod y_fIsReached, Cond.selects "LoanDeskModel" y_fIsReached y_fIsReached, Cond.code y_fIsReached prog_9_method_15_code 2 (some .boolean), Cond.methodLink "LoanDeskModel" 89 y_flearn, Cond.instanceMethod y_flearn, Cond.code y_flearn prog_9_method_14_code 3 none, Cond.methodLink "LoanDeskModel" 73 y_fforget, Cond.instanceMethod y_fforget, Cond.code y_fforget prog_9_method_7_code 2 none, Cond.methodLink "LoanDeskModel" 69 y_fmeet, Cond.instanceMethod y_fmeet, Cond.code y_fmeet prog_9_method_8_code 3 none, Cond.methodLink "LoanDeskModel" 62 y_fIsPoint, Cond.instanceMethod y_fIsPoint, Cond.code y_fIsPoint prog_9_method_6_code 2 (some .boolean), Cond.methodLink "LoanDeskModel" 82 y_fIsUsed, Cond.instanceMethod y_fIsUsed, Cond.code y_fIsUsed prog_9_method_13_code 4 (some .boolean), Cond.methodLink "LoanDeskModel" 79 y_fuses, Cond.instanceMethod y_fuses, Cond.code y_fuses prog_9_method_10_code 3 (some .boolean), Cond.methodLink "LoanDeskModel" 65 y_fchanges, Cond.instanceMethod y_fchanges, Cond.code y_fchanges prog_9_method_9_code 3 (some .boolean), Cond.methodLink "LoanDeskModel" 85 y_fgoAll, Cond.instanceMethod y_fgoAll, Cond.code y_fgoAll prog_9_method_12_code 4 none, Cond.methodLink "LoanDeskModel" 76 y_fthrough, Cond.instanceMethod y_fthrough, Cond.code y_fthrough prog_9_method_11_code 3 none, Cond.methodLink "LoanDeskLaw" 32 y_fholders, Cond.instanceMethod y_fholders, Cond.selects "LoanDeskModel" y_fholders y_fholders, Cond.code y_fholders prog_9_method_16_code 3 (some .int), Cond.methodLink "LoanDeskLaw" 37 y_fused, Cond.instanceMethod y_fused, Cond.selects "LoanDeskModel" y_fused y_fused]
set_option maxRecDepth 100000 in
theorem bgi_8 : ∀ w ∈ bg_8, w ∈ lw_tbl := List.forall_mem_cons.mpr ⟨List.mem_of_getElem? (i := 470) rfl, List.forall_mem_cons.mpr ⟨List.mem_of_getElem? (i := 471) rfl, List.forall_mem_cons.mpr ⟨List.mem_of_getElem? (i := 472) rfl, List.forall_mem_cons.mpr ⟨List.mem_of_getElem? (i := 473) rfl, List.forall_mem_cons.mpr ⟨List.mem_of_getElem? (i := 474) rfl, List.forall_mem_cons.mpr ⟨List.mem_of_getElem? (i := 475) rfl, List.forall_mem_cons.mpr ⟨List.mem_of_getElem? (i := 476) rfl, List.forall_mem_cons.mpr ⟨List.mem_of_getElem? (i := 477) rfl, List.forall_mem_cons.mpr ⟨List.mem_of_getElem? (i := 478) rfl, List.forall_mem_cons.mpr ⟨List.mem_of_getElem? (i := 479) rfl, List.forall_mem_cons.mpr ⟨List.mem_of_getElem? (i := 480) rfl, List.forall_mem_cons.mpr ⟨List.mem_of_getElem? (i := 481) rfl, List.forall_mem_cons.mpr ⟨List.mem_of_getElem? (i := 482) rfl, List.forall_mem_cons.mpr ⟨List.mem_of_getElem? (i := 483) rfl, List.forall_mem_cons.mpr ⟨List.mem_of_getElem? (i := 484) rfl, List.forall_mem_cons.mpr ⟨List.mem_of_getElem? (i := 485) rfl, List.forall_mem_cons.mpr ⟨List.mem_of_getElem? (i := 486) rfl, List.forall_mem_cons.mpr ⟨List.mem_of_getElem? (i := 488) rfl, List.forall_mem_cons.mpr ⟨List.mem_of_getElem? (i := 489) rfl, List.forall_mem_cons.mpr ⟨List.mem_of_getElem? (i := 490) rfl, List.forall_mem_cons.mpr ⟨List.mem_of_getElem? (i := 492) rfl, List.forall_mem_cons.mpr ⟨List.mem_of_getElem? (i := 493) rfl, List.forall_mem_cons.mpr ⟨List.mem_of_getElem? (i := 494) rfl, List.forall_mem_cons.mpr ⟨List.mem_of_getElem? (i := 496) rfl, List.forall_mem_cons.mpr ⟨List.mem_of_getElem? (i := 497) rfl, List.forall_mem_cons.mpr ⟨List.mem_of_getElem? (i := 498) rfl, List.forall_mem_cons.mpr ⟨List.mem_of_getElem? (i := 500) rfl, List.forall_mem_cons.mpr ⟨List.mem_of_getElem? (i := 501) rfl, List.forall_mem_cons.mpr ⟨List.mem_of_getElem? (i := 502) rfl, List.forall_mem_cons.mpr ⟨List.mem_of_getElem? (i := 504) rfl, List.forall_mem_cons.mpr ⟨List.mem_of_getElem? (i := 505) rfl, List.forall_mem_cons.mpr ⟨List.mem_of_getElem? (i := 506) rfl, List.forall_mem_cons.mpr ⟨List.mem_of_getElem? (i := 508) rfl, List.forall_mem_cons.mpr ⟨List.mem_of_getElem? (i := 509) rfl, List.forall_mem_cons.mpr ⟨List.mem_of_getElem? (i := 510) rfl, List.forall_mem_cons.mpr ⟨List.mem_of_getElem? (i := 512) rfl, List.forall_mem_cons.mpr ⟨List.mem_of_getElem? (i := 513) rfl, List.forall_mem_cons.mpr ⟨List.mem_of_getElem? (i := 514) rfl, List.forall_mem_cons.mpr ⟨List.mem_of_getElem? (i := 516) rfl, List.forall_mem_cons.mpr ⟨List.mem_of_getElem? (i := 517) rfl, List.forall_mem_cons.mpr ⟨List.mem_of_getElem? (i := 518) rfl, List.forall_mem_cons.mpr ⟨List.mem_of_getElem? (i := 520) rfl, List.forall_mem_cons.mpr ⟨List.mem_of_getElem? (i := 521) rfl, List.forall_mem_cons.mpr ⟨List.mem_of_getElem? (i := 522) rfl, List.forall_mem_cons.mpr ⟨List.mem_of_getElem? (i := 523) rfl, List.forall_mem_cons.mpr ⟨List.mem_of_getElem? (i := 524) rfl, List.forall_mem_cons.mpr ⟨List.mem_of_getElem? (i := 525) rfl, List.forall_mem_cons.mpr ⟨List.mem_of_getElem? (i := 526) rfl, List.forall_mem_cons.mpr ⟨List.mem_of_getElem? (i := 527) rfl, List.forall_mem_cons.mpr ⟨List.mem_of_getElem? (i := 528) rfl, List.forall_mem_nil _⟩⟩⟩⟩⟩⟩⟩⟩⟩⟩⟩⟩⟩⟩⟩⟩⟩⟩⟩⟩⟩⟩⟩⟩⟩⟩⟩⟩⟩⟩⟩⟩⟩⟩⟩⟩⟩⟩⟩⟩⟩⟩⟩⟩⟩⟩⟩⟩⟩⟩
theorem bgd_8 : ∀ w ∈ bg_8, goodWord w = true := List.all_eq_true.mp (by decide +kernel)
def bg_9 : List Cond := [Cond.code y_fused prog_9_method_17_code 2 (some .int), Cond.methodLink "LoanDeskLaw" 42 y_fIsAlive, Cond.instanceMethod y_fIsAlive, Cond.selects "LoanDeskModel" y_fIsAlive y_fIsAlive, Cond.code y_fIsAlive prog_9_method_18_code 3 (some .boolean), Cond.methodLink "LoanDeskModel" 92 y_fholders, Cond.methodLink "LoanDeskModel" 96 y_fused, Cond.methodLink "LoanDeskLaw" 46 y_fmet, Cond.instanceMethod y_fmet, Cond.selects "LoanDeskModel" y_fmet y_fmet, Cond.code y_fmet prog_9_method_21_code 5 (some .int), Cond.methodLink "LoanDeskModel" 109 y_fmeets, Cond.instanceMethod y_fmeets, Cond.code y_fmeets prog_9_method_20_code 5 (some .boolean), Cond.methodLink "LoanDeskModel" 100 y_fIsReached, Cond.methodLink "LoanDeskModel" 103 y_fIsAlive, Cond.methodLink "LoanDeskModel" 106 y_foverlap, Cond.static y_foverlap, Cond.code y_foverlap prog_9_method_19_code 4 (some .boolean), Cond.methodLink "LoanDeskLaw" 50 y_fcount, Cond.instanceMethod y_fcount, Cond.selects "LoanDeskModel" y_fcount y_fcount, Cond.code y_fcount prog_9_method_22_code 8 (some .int), Cond.methodLink "LoanDeskModel" 112 y_fmet, Cond.methodLink "LoanDeskLaw" 55 y_fclear, Cond.instanceMethod y_fclear, Cond.selects "LoanDeskModel" y_fclear y_fclear, Cond.code y_fclear prog_9_method_23_code 2 (some .int)]
set_option maxRecDepth 100000 in
theorem bgi_9 : ∀ w ∈ bg_9, w ∈ lw_tbl := List.forall_mem_cons.mpr ⟨List.mem_of_getElem? (i := 529) rfl, List.forall_mem_cons.mpr ⟨List.mem_of_getElem? (i := 530) rfl, List.forall_mem_cons.mpr ⟨List.mem_of_getElem? (i := 531) rfl, List.forall_mem_cons.mpr ⟨List.mem_of_getElem? (i := 532) rfl, List.forall_mem_cons.mpr ⟨List.mem_of_getElem? (i := 533) rfl, List.forall_mem_cons.mpr ⟨List.mem_of_getElem? (i := 534) rfl, List.forall_mem_cons.mpr ⟨List.mem_of_getElem? (i := 535) rfl, List.forall_mem_cons.mpr ⟨List.mem_of_getElem? (i := 536) rfl, List.forall_mem_cons.mpr ⟨List.mem_of_getElem? (i := 537) rfl, List.forall_mem_cons.mpr ⟨List.mem_of_getElem? (i := 538) rfl, List.forall_mem_cons.mpr ⟨List.mem_of_getElem? (i := 539) rfl, List.forall_mem_cons.mpr ⟨List.mem_of_getElem? (i := 540) rfl, List.forall_mem_cons.mpr ⟨List.mem_of_getElem? (i := 542) rfl, List.forall_mem_cons.mpr ⟨List.mem_of_getElem? (i := 543) rfl, List.forall_mem_cons.mpr ⟨List.mem_of_getElem? (i := 544) rfl, List.forall_mem_cons.mpr ⟨List.mem_of_getElem? (i := 545) rfl, List.forall_mem_cons.mpr ⟨List.mem_of_getElem? (i := 546) rfl, List.forall_mem_cons.mpr ⟨List.mem_of_getElem? (i := 547) rfl, List.forall_mem_cons.mpr ⟨List.mem_of_getElem? (i := 548) rfl, List.forall_mem_cons.mpr ⟨List.mem_of_getElem? (i := 549) rfl, List.forall_mem_cons.mpr ⟨List.mem_of_getElem? (i := 550) rfl, List.forall_mem_cons.mpr ⟨List.mem_of_getElem? (i := 551) rfl, List.forall_mem_cons.mpr ⟨List.mem_of_getElem? (i := 552) rfl, List.forall_mem_cons.mpr ⟨List.mem_of_getElem? (i := 553) rfl, List.forall_mem_cons.mpr ⟨List.mem_of_getElem? (i := 554) rfl, List.forall_mem_cons.mpr ⟨List.mem_of_getElem? (i := 555) rfl, List.forall_mem_cons.mpr ⟨List.mem_of_getElem? (i := 556) rfl, List.forall_mem_cons.mpr ⟨List.mem_of_getElem? (i := 557) rfl, List.forall_mem_nil _⟩⟩⟩⟩⟩⟩⟩⟩⟩⟩⟩⟩⟩⟩⟩⟩⟩⟩⟩⟩⟩⟩⟩⟩⟩⟩⟩⟩
theorem bgd_9 : ∀ w ∈ bg_9, goodWord w = true := List.all_eq_true.mp (by decide +kernel)
def bgT : List Cond := bg_0 ++ (bg_1 ++ (bg_2 ++ (bg_3 ++ (bg_4 ++ (bg_5 ++ (bg_6 ++ (bg_7 ++ (bg_8 ++ (bg_9)))))))))
theorem bg_in : ∀ w ∈ bgT, w ∈ lw_tbl := List.forall_mem_append.mpr ⟨bgi_0, List.forall_mem_append.mpr ⟨bgi_1, List.forall_mem_append.mpr ⟨bgi_2, List.forall_mem_append.mpr ⟨bgi_3, List.forall_mem_append.mpr ⟨bgi_4, List.forall_mem_append.mpr ⟨bgi_5, List.forall_mem_append.mpr ⟨bgi_6, List.forall_mem_append.mpr ⟨bgi_7, List.forall_mem_append.mpr ⟨bgi_8, bgi_9⟩⟩⟩⟩⟩⟩⟩⟩⟩
theorem bg_good : ∀ w ∈ bgT, goodWord w = true := List.forall_mem_append.mpr ⟨bgd_0, List.forall_mem_append.mpr ⟨bgd_1, List.forall_mem_append.mpr ⟨bgd_2, List.forall_mem_append.mpr ⟨bgd_3, List.forall_mem_append.mpr ⟨bgd_4, List.forall_mem_append.mpr ⟨bgd_5, List.forall_mem_append.mpr ⟨bgd_6, List.forall_mem_append.mpr ⟨bgd_7, List.forall_mem_append.mpr ⟨bgd_8, bgd_9⟩⟩⟩⟩⟩⟩⟩⟩⟩
theorem ld_gd {cy : Cond} (h : cy ∈ bgT) : GoodIn bgT (cy :: bgT) := fun w hw => by
  rcases List.mem_cons.mp hw with rfl | hw
  · exact ⟨h, good_of_word (bg_good _ h)⟩
  · exact ⟨hw, good_of_word (bg_good _ hw)⟩
set_option maxRecDepth 100000 in
theorem k_0 : (Cond.selects "LoanDesk" y_forget y_forget) ∈ bgT := List.mem_of_getElem? (i := 0) rfl
set_option maxRecDepth 100000 in
theorem k_1 : (Cond.selects "LoanDesk" y_findWays y_findWays) ∈ bgT := List.mem_of_getElem? (i := 1) rfl
set_option maxRecDepth 100000 in
theorem k_2 : (Cond.selects "LoanDesk$Reach" y_arrive y_arrive) ∈ bgT := List.mem_of_getElem? (i := 2) rfl
set_option maxRecDepth 100000 in
theorem k_3 : (Cond.selects "LoanDesk$Uses" y_growAll y_growAll) ∈ bgT := List.mem_of_getElem? (i := 3) rfl
set_option maxRecDepth 100000 in
theorem k_4 : (Cond.selects "LoanDesk$Holding" y_pass y_pass) ∈ bgT := List.mem_of_getElem? (i := 4) rfl
set_option maxRecDepth 100000 in
theorem k_5 : (Cond.selects "LoanDesk$Holding" y_handOn y_handOn) ∈ bgT := List.mem_of_getElem? (i := 5) rfl
set_option maxRecDepth 100000 in
theorem k_6 : (Cond.selects "LoanDesk" y_findMeet y_findMeet) ∈ bgT := List.mem_of_getElem? (i := 6) rfl
set_option maxRecDepth 100000 in
theorem k_7 : (Cond.selects "LoanDesk" y_addMeet y_addMeet) ∈ bgT := List.mem_of_getElem? (i := 7) rfl
set_option maxRecDepth 100000 in
theorem k_8 : (Cond.selects "LoanDesk$Graph" y_isChange y_isChange) ∈ bgT := List.mem_of_getElem? (i := 8) rfl
set_option maxRecDepth 100000 in
theorem k_9 : (Cond.selects "LoanDesk$Graph" y_isLook y_isLook) ∈ bgT := List.mem_of_getElem? (i := 9) rfl
set_option maxRecDepth 100000 in
theorem k_10 : (Cond.selects "LoanDesk$Meetings" y_isAt y_isAt) ∈ bgT := List.mem_of_getElem? (i := 10) rfl
set_option maxRecDepth 100000 in
theorem k_11 : (Cond.selects "LoanDesk$Meetings" y_isAnyAt y_isAnyAt) ∈ bgT := List.mem_of_getElem? (i := 11) rfl
set_option maxRecDepth 100000 in
theorem k_12 : (Cond.selects "LoanDeskModel" y_flearn y_flearn) ∈ bgT := List.mem_of_getElem? (i := 12) rfl
set_option maxRecDepth 100000 in
theorem k_13 : (Cond.selects "LoanDeskModel" y_fforget y_fforget) ∈ bgT := List.mem_of_getElem? (i := 13) rfl
set_option maxRecDepth 100000 in
theorem k_14 : (Cond.selects "LoanDeskModel" y_fmeet y_fmeet) ∈ bgT := List.mem_of_getElem? (i := 14) rfl
set_option maxRecDepth 100000 in
theorem k_15 : (Cond.selects "LoanDeskModel" y_fIsPoint y_fIsPoint) ∈ bgT := List.mem_of_getElem? (i := 15) rfl
set_option maxRecDepth 100000 in
theorem k_16 : (Cond.selects "LoanDeskModel" y_fIsUsed y_fIsUsed) ∈ bgT := List.mem_of_getElem? (i := 16) rfl
set_option maxRecDepth 100000 in
theorem k_17 : (Cond.selects "LoanDeskModel" y_fuses y_fuses) ∈ bgT := List.mem_of_getElem? (i := 17) rfl
set_option maxRecDepth 100000 in
theorem k_18 : (Cond.selects "LoanDeskModel" y_fchanges y_fchanges) ∈ bgT := List.mem_of_getElem? (i := 18) rfl
set_option maxRecDepth 100000 in
theorem k_19 : (Cond.selects "LoanDeskModel" y_fgoAll y_fgoAll) ∈ bgT := List.mem_of_getElem? (i := 19) rfl
set_option maxRecDepth 100000 in
theorem k_20 : (Cond.selects "LoanDeskModel" y_fthrough y_fthrough) ∈ bgT := List.mem_of_getElem? (i := 20) rfl
set_option maxRecDepth 100000 in
theorem k_21 : (Cond.selects "LoanDeskModel" y_fmeets y_fmeets) ∈ bgT := List.mem_of_getElem? (i := 21) rfl
set_option maxRecDepth 100000 in
theorem k_22 : (Cond.initialized "LoanDeskLaw") ∈ bgT := List.mem_of_getElem? (i := 22) rfl
set_option maxRecDepth 100000 in
theorem k_23 : (Cond.initialized "LoanDesk") ∈ bgT := List.mem_of_getElem? (i := 23) rfl
set_option maxRecDepth 100000 in
theorem k_24 : (Cond.initialized "LoanDesk$Graph") ∈ bgT := List.mem_of_getElem? (i := 24) rfl
set_option maxRecDepth 100000 in
theorem k_25 : (Cond.initialized "LoanDesk$Reach") ∈ bgT := List.mem_of_getElem? (i := 25) rfl
set_option maxRecDepth 100000 in
theorem k_26 : (Cond.initialized "LoanDesk$Pile") ∈ bgT := List.mem_of_getElem? (i := 26) rfl
set_option maxRecDepth 100000 in
theorem k_27 : (Cond.initialized "LoanDesk$Uses") ∈ bgT := List.mem_of_getElem? (i := 27) rfl
set_option maxRecDepth 100000 in
theorem k_28 : (Cond.initialized "LoanDesk$Holding") ∈ bgT := List.mem_of_getElem? (i := 28) rfl
set_option maxRecDepth 100000 in
theorem k_29 : (Cond.initialized "LoanDesk$Meetings") ∈ bgT := List.mem_of_getElem? (i := 29) rfl
set_option maxRecDepth 100000 in
theorem k_30 : (Cond.initialized "LoanDeskModel") ∈ bgT := List.mem_of_getElem? (i := 30) rfl
set_option maxRecDepth 100000 in
theorem k_31 : (Cond.initialized "java/util/Arrays") ∈ bgT := List.mem_of_getElem? (i := 31) rfl
set_option maxRecDepth 100000 in
theorem k_32 : (Cond.initialized "java/lang/Math") ∈ bgT := List.mem_of_getElem? (i := 32) rfl
set_option maxRecDepth 100000 in
theorem k_33 : (Cond.classLink "LoanDeskLaw" 7 "LoanDesk") ∈ bgT := List.mem_of_getElem? (i := 33) rfl
set_option maxRecDepth 100000 in
theorem k_34 : (Cond.instantiable "LoanDesk" 7) ∈ bgT := List.mem_of_getElem? (i := 34) rfl
set_option maxRecDepth 100000 in
theorem k_35 : (Cond.methodLink "LoanDeskLaw" 9 y_iD) ∈ bgT := List.mem_of_getElem? (i := 35) rfl
set_option maxRecDepth 100000 in
theorem k_36 : (Cond.instanceMethod y_iD) ∈ bgT := List.mem_of_getElem? (i := 36) rfl
set_option maxRecDepth 100000 in
theorem k_37 : (Cond.code y_iD prog_1_method_1_code 1 none) ∈ bgT := List.mem_of_getElem? (i := 37) rfl
set_option maxRecDepth 100000 in
theorem k_38 : (Cond.methodLink "LoanDesk" 1 objectInit) ∈ bgT := List.mem_of_getElem? (i := 38) rfl
set_option maxRecDepth 100000 in
theorem k_39 : (Cond.instanceMethod objectInit) ∈ bgT := List.mem_of_getElem? (i := 39) rfl
set_option maxRecDepth 100000 in
theorem k_40 : (Cond.code objectInit object_method_1_code 1 none) ∈ bgT := List.mem_of_getElem? (i := 40) rfl
set_option maxRecDepth 100000 in
theorem k_41 : (Cond.classLink "LoanDesk" 7 "LoanDesk$Graph") ∈ bgT := List.mem_of_getElem? (i := 41) rfl
set_option maxRecDepth 100000 in
theorem k_42 : (Cond.instantiable "LoanDesk$Graph" 7) ∈ bgT := List.mem_of_getElem? (i := 42) rfl
set_option maxRecDepth 100000 in
theorem k_43 : (Cond.instanceMethod y_iG) ∈ bgT := List.mem_of_getElem? (i := 43) rfl
set_option maxRecDepth 100000 in
theorem k_44 : (Cond.code y_iG prog_2_method_1_code 1 none) ∈ bgT := List.mem_of_getElem? (i := 44) rfl
set_option maxRecDepth 100000 in
theorem k_45 : (Cond.methodLink "LoanDesk$Graph" 3 objectInit) ∈ bgT := List.mem_of_getElem? (i := 45) rfl
set_option maxRecDepth 100000 in
theorem k_46 : (Cond.fieldLink "LoanDesk$Graph" 9 "LoanDesk$Graph" "doings" "[I") ∈ bgT := List.mem_of_getElem? (i := 46) rfl
set_option maxRecDepth 100000 in
theorem k_47 : (Cond.fieldLink "LoanDesk$Graph" 15 "LoanDesk$Graph" "as" "[I") ∈ bgT := List.mem_of_getElem? (i := 47) rfl
set_option maxRecDepth 100000 in
theorem k_48 : (Cond.fieldLink "LoanDesk$Graph" 18 "LoanDesk$Graph" "bs" "[I") ∈ bgT := List.mem_of_getElem? (i := 48) rfl
set_option maxRecDepth 100000 in
theorem k_49 : (Cond.fieldLink "LoanDesk$Graph" 21 "LoanDesk$Graph" "cs" "[I") ∈ bgT := List.mem_of_getElem? (i := 49) rfl
set_option maxRecDepth 100000 in
theorem k_50 : (Cond.fieldLink "LoanDesk$Graph" 24 "LoanDesk$Graph" "xs" "[I") ∈ bgT := List.mem_of_getElem? (i := 50) rfl
set_option maxRecDepth 100000 in
theorem k_51 : (Cond.fieldLink "LoanDesk$Graph" 27 "LoanDesk$Graph" "ys" "[I") ∈ bgT := List.mem_of_getElem? (i := 51) rfl
set_option maxRecDepth 100000 in
theorem k_52 : (Cond.fieldLink "LoanDesk$Graph" 30 "LoanDesk$Graph" "size" "I") ∈ bgT := List.mem_of_getElem? (i := 52) rfl
set_option maxRecDepth 100000 in
theorem k_53 : (Cond.laysFinal "LoanDesk$Graph" "LoanDesk$Graph" "doings" "[I") ∈ bgT := List.mem_of_getElem? (i := 53) rfl
set_option maxRecDepth 100000 in
theorem k_54 : (Cond.laysFinal "LoanDesk$Graph" "LoanDesk$Graph" "as" "[I") ∈ bgT := List.mem_of_getElem? (i := 54) rfl
set_option maxRecDepth 100000 in
theorem k_55 : (Cond.laysFinal "LoanDesk$Graph" "LoanDesk$Graph" "bs" "[I") ∈ bgT := List.mem_of_getElem? (i := 55) rfl
set_option maxRecDepth 100000 in
theorem k_56 : (Cond.laysFinal "LoanDesk$Graph" "LoanDesk$Graph" "cs" "[I") ∈ bgT := List.mem_of_getElem? (i := 56) rfl
set_option maxRecDepth 100000 in
theorem k_57 : (Cond.laysFinal "LoanDesk$Graph" "LoanDesk$Graph" "xs" "[I") ∈ bgT := List.mem_of_getElem? (i := 57) rfl
set_option maxRecDepth 100000 in
theorem k_58 : (Cond.laysFinal "LoanDesk$Graph" "LoanDesk$Graph" "ys" "[I") ∈ bgT := List.mem_of_getElem? (i := 58) rfl
set_option maxRecDepth 100000 in
theorem k_59 : (Cond.lays "LoanDesk$Graph" "LoanDesk$Graph" "size" "I") ∈ bgT := List.mem_of_getElem? (i := 59) rfl
set_option maxRecDepth 100000 in
theorem k_60 : (Cond.arrayClass .int) ∈ bgT := List.mem_of_getElem? (i := 60) rfl
set_option maxRecDepth 100000 in
theorem k_61 : (Cond.classLink "LoanDesk" 16 "LoanDesk$Reach") ∈ bgT := List.mem_of_getElem? (i := 61) rfl
set_option maxRecDepth 100000 in
theorem k_62 : (Cond.instantiable "LoanDesk$Reach" 2) ∈ bgT := List.mem_of_getElem? (i := 62) rfl
set_option maxRecDepth 100000 in
theorem k_63 : (Cond.instanceMethod y_iR) ∈ bgT := List.mem_of_getElem? (i := 63) rfl
set_option maxRecDepth 100000 in
theorem k_64 : (Cond.code y_iR prog_6_method_1_code 1 none) ∈ bgT := List.mem_of_getElem? (i := 64) rfl
set_option maxRecDepth 100000 in
theorem k_65 : (Cond.methodLink "LoanDesk$Reach" 3 objectInit) ∈ bgT := List.mem_of_getElem? (i := 65) rfl
set_option maxRecDepth 100000 in
theorem k_66 : (Cond.classLink "LoanDesk$Reach" 15 "LoanDesk$Pile") ∈ bgT := List.mem_of_getElem? (i := 66) rfl
set_option maxRecDepth 100000 in
theorem k_67 : (Cond.instantiable "LoanDesk$Pile" 3) ∈ bgT := List.mem_of_getElem? (i := 67) rfl
set_option maxRecDepth 100000 in
theorem k_68 : (Cond.instanceMethod y_iP) ∈ bgT := List.mem_of_getElem? (i := 68) rfl
set_option maxRecDepth 100000 in
theorem k_69 : (Cond.code y_iP prog_5_method_1_code 1 none) ∈ bgT := List.mem_of_getElem? (i := 69) rfl
set_option maxRecDepth 100000 in
theorem k_70 : (Cond.methodLink "LoanDesk$Pile" 3 objectInit) ∈ bgT := List.mem_of_getElem? (i := 70) rfl
set_option maxRecDepth 100000 in
theorem k_71 : (Cond.fieldLink "LoanDesk$Pile" 9 "LoanDesk$Pile" "points" "[I") ∈ bgT := List.mem_of_getElem? (i := 71) rfl
set_option maxRecDepth 100000 in
theorem k_72 : (Cond.fieldLink "LoanDesk$Pile" 15 "LoanDesk$Pile" "isIn" "[Z") ∈ bgT := List.mem_of_getElem? (i := 72) rfl
set_option maxRecDepth 100000 in
theorem k_73 : (Cond.fieldLink "LoanDesk$Pile" 19 "LoanDesk$Pile" "size" "I") ∈ bgT := List.mem_of_getElem? (i := 73) rfl
set_option maxRecDepth 100000 in
theorem k_74 : (Cond.laysFinal "LoanDesk$Pile" "LoanDesk$Pile" "points" "[I") ∈ bgT := List.mem_of_getElem? (i := 74) rfl
set_option maxRecDepth 100000 in
theorem k_75 : (Cond.laysFinal "LoanDesk$Pile" "LoanDesk$Pile" "isIn" "[Z") ∈ bgT := List.mem_of_getElem? (i := 75) rfl
set_option maxRecDepth 100000 in
theorem k_76 : (Cond.lays "LoanDesk$Pile" "LoanDesk$Pile" "size" "I") ∈ bgT := List.mem_of_getElem? (i := 76) rfl
set_option maxRecDepth 100000 in
theorem k_77 : (Cond.arrayClass .boolean) ∈ bgT := List.mem_of_getElem? (i := 77) rfl
set_option maxRecDepth 100000 in
theorem k_78 : (Cond.fieldLink "LoanDesk$Reach" 9 "LoanDesk$Reach" "reached" "[I") ∈ bgT := List.mem_of_getElem? (i := 78) rfl
set_option maxRecDepth 100000 in
theorem k_79 : (Cond.fieldLink "LoanDesk$Reach" 18 "LoanDesk$Reach" "pile" "LLoanDesk$Pile;") ∈ bgT := List.mem_of_getElem? (i := 79) rfl
set_option maxRecDepth 100000 in
theorem k_80 : (Cond.laysFinal "LoanDesk$Reach" "LoanDesk$Reach" "reached" "[I") ∈ bgT := List.mem_of_getElem? (i := 80) rfl
set_option maxRecDepth 100000 in
theorem k_81 : (Cond.laysFinal "LoanDesk$Reach" "LoanDesk$Reach" "pile" "LLoanDesk$Pile;") ∈ bgT := List.mem_of_getElem? (i := 81) rfl
set_option maxRecDepth 100000 in
theorem k_82 : (Cond.classLink "LoanDesk" 23 "LoanDesk$Uses") ∈ bgT := List.mem_of_getElem? (i := 82) rfl
set_option maxRecDepth 100000 in
theorem k_83 : (Cond.instantiable "LoanDesk$Uses" 1) ∈ bgT := List.mem_of_getElem? (i := 83) rfl
set_option maxRecDepth 100000 in
theorem k_84 : (Cond.instanceMethod y_iU) ∈ bgT := List.mem_of_getElem? (i := 84) rfl
set_option maxRecDepth 100000 in
theorem k_85 : (Cond.code y_iU prog_7_method_1_code 1 none) ∈ bgT := List.mem_of_getElem? (i := 85) rfl
set_option maxRecDepth 100000 in
theorem k_86 : (Cond.methodLink "LoanDesk$Uses" 3 objectInit) ∈ bgT := List.mem_of_getElem? (i := 86) rfl
set_option maxRecDepth 100000 in
theorem k_87 : (Cond.fieldLink "LoanDesk$Uses" 9 "LoanDesk$Uses" "later" "[I") ∈ bgT := List.mem_of_getElem? (i := 87) rfl
set_option maxRecDepth 100000 in
theorem k_88 : (Cond.laysFinal "LoanDesk$Uses" "LoanDesk$Uses" "later" "[I") ∈ bgT := List.mem_of_getElem? (i := 88) rfl
set_option maxRecDepth 100000 in
theorem k_89 : (Cond.classLink "LoanDesk" 30 "LoanDesk$Holding") ∈ bgT := List.mem_of_getElem? (i := 89) rfl
set_option maxRecDepth 100000 in
theorem k_90 : (Cond.instantiable "LoanDesk$Holding" 3) ∈ bgT := List.mem_of_getElem? (i := 90) rfl
set_option maxRecDepth 100000 in
theorem k_91 : (Cond.instanceMethod y_iH) ∈ bgT := List.mem_of_getElem? (i := 91) rfl
set_option maxRecDepth 100000 in
theorem k_92 : (Cond.code y_iH prog_3_method_1_code 1 none) ∈ bgT := List.mem_of_getElem? (i := 92) rfl
set_option maxRecDepth 100000 in
theorem k_93 : (Cond.methodLink "LoanDesk$Holding" 3 objectInit) ∈ bgT := List.mem_of_getElem? (i := 93) rfl
set_option maxRecDepth 100000 in
theorem k_94 : (Cond.classLink "LoanDesk$Holding" 18 "LoanDesk$Pile") ∈ bgT := List.mem_of_getElem? (i := 94) rfl
set_option maxRecDepth 100000 in
theorem k_95 : (Cond.fieldLink "LoanDesk$Holding" 9 "LoanDesk$Holding" "ahead" "[I") ∈ bgT := List.mem_of_getElem? (i := 95) rfl
set_option maxRecDepth 100000 in
theorem k_96 : (Cond.fieldLink "LoanDesk$Holding" 15 "LoanDesk$Holding" "behind" "[I") ∈ bgT := List.mem_of_getElem? (i := 96) rfl
set_option maxRecDepth 100000 in
theorem k_97 : (Cond.fieldLink "LoanDesk$Holding" 21 "LoanDesk$Holding" "pile" "LLoanDesk$Pile;") ∈ bgT := List.mem_of_getElem? (i := 97) rfl
set_option maxRecDepth 100000 in
theorem k_98 : (Cond.laysFinal "LoanDesk$Holding" "LoanDesk$Holding" "ahead" "[I") ∈ bgT := List.mem_of_getElem? (i := 98) rfl
set_option maxRecDepth 100000 in
theorem k_99 : (Cond.laysFinal "LoanDesk$Holding" "LoanDesk$Holding" "behind" "[I") ∈ bgT := List.mem_of_getElem? (i := 99) rfl
set_option maxRecDepth 100000 in
theorem k_100 : (Cond.laysFinal "LoanDesk$Holding" "LoanDesk$Holding" "pile" "LLoanDesk$Pile;") ∈ bgT := List.mem_of_getElem? (i := 100) rfl
set_option maxRecDepth 100000 in
theorem k_101 : (Cond.classLink "LoanDesk" 37 "LoanDesk$Meetings") ∈ bgT := List.mem_of_getElem? (i := 101) rfl
set_option maxRecDepth 100000 in
theorem k_102 : (Cond.instantiable "LoanDesk$Meetings" 1) ∈ bgT := List.mem_of_getElem? (i := 102) rfl
set_option maxRecDepth 100000 in
theorem k_103 : (Cond.instanceMethod y_iM) ∈ bgT := List.mem_of_getElem? (i := 103) rfl
set_option maxRecDepth 100000 in
theorem k_104 : (Cond.code y_iM prog_4_method_1_code 1 none) ∈ bgT := List.mem_of_getElem? (i := 104) rfl
set_option maxRecDepth 100000 in
theorem k_105 : (Cond.methodLink "LoanDesk$Meetings" 3 objectInit) ∈ bgT := List.mem_of_getElem? (i := 105) rfl
set_option maxRecDepth 100000 in
theorem k_106 : (Cond.fieldLink "LoanDesk$Meetings" 9 "LoanDesk$Meetings" "words" "[J") ∈ bgT := List.mem_of_getElem? (i := 106) rfl
set_option maxRecDepth 100000 in
theorem k_107 : (Cond.laysFinal "LoanDesk$Meetings" "LoanDesk$Meetings" "words" "[J") ∈ bgT := List.mem_of_getElem? (i := 107) rfl
set_option maxRecDepth 100000 in
theorem k_108 : (Cond.arrayClass .long) ∈ bgT := List.mem_of_getElem? (i := 108) rfl
set_option maxRecDepth 100000 in
theorem k_109 : (Cond.fieldLink "LoanDesk" 10 "LoanDesk" "graph" "LLoanDesk$Graph;") ∈ bgT := List.mem_of_getElem? (i := 109) rfl
set_option maxRecDepth 100000 in
theorem k_110 : (Cond.fieldLink "LoanDesk" 19 "LoanDesk" "reach" "LLoanDesk$Reach;") ∈ bgT := List.mem_of_getElem? (i := 110) rfl
set_option maxRecDepth 100000 in
theorem k_111 : (Cond.fieldLink "LoanDesk" 26 "LoanDesk" "uses" "LLoanDesk$Uses;") ∈ bgT := List.mem_of_getElem? (i := 111) rfl
set_option maxRecDepth 100000 in
theorem k_112 : (Cond.fieldLink "LoanDesk" 33 "LoanDesk" "holding" "LLoanDesk$Holding;") ∈ bgT := List.mem_of_getElem? (i := 112) rfl
set_option maxRecDepth 100000 in
theorem k_113 : (Cond.fieldLink "LoanDesk" 40 "LoanDesk" "meetings" "LLoanDesk$Meetings;") ∈ bgT := List.mem_of_getElem? (i := 113) rfl
set_option maxRecDepth 100000 in
theorem k_114 : (Cond.fieldLink "LoanDesk" 44 "LoanDesk" "waysKnown" "Z") ∈ bgT := List.mem_of_getElem? (i := 114) rfl
set_option maxRecDepth 100000 in
theorem k_115 : (Cond.fieldLink "LoanDesk" 48 "LoanDesk" "meetingsKnown" "Z") ∈ bgT := List.mem_of_getElem? (i := 115) rfl
set_option maxRecDepth 100000 in
theorem k_116 : (Cond.laysFinal "LoanDesk" "LoanDesk" "graph" "LLoanDesk$Graph;") ∈ bgT := List.mem_of_getElem? (i := 116) rfl
set_option maxRecDepth 100000 in
theorem k_117 : (Cond.laysFinal "LoanDesk" "LoanDesk" "reach" "LLoanDesk$Reach;") ∈ bgT := List.mem_of_getElem? (i := 117) rfl
set_option maxRecDepth 100000 in
theorem k_118 : (Cond.laysFinal "LoanDesk" "LoanDesk" "uses" "LLoanDesk$Uses;") ∈ bgT := List.mem_of_getElem? (i := 118) rfl
set_option maxRecDepth 100000 in
theorem k_119 : (Cond.laysFinal "LoanDesk" "LoanDesk" "holding" "LLoanDesk$Holding;") ∈ bgT := List.mem_of_getElem? (i := 119) rfl
set_option maxRecDepth 100000 in
theorem k_120 : (Cond.laysFinal "LoanDesk" "LoanDesk" "meetings" "LLoanDesk$Meetings;") ∈ bgT := List.mem_of_getElem? (i := 120) rfl
set_option maxRecDepth 100000 in
theorem k_121 : (Cond.lays "LoanDesk" "LoanDesk" "waysKnown" "Z") ∈ bgT := List.mem_of_getElem? (i := 121) rfl
set_option maxRecDepth 100000 in
theorem k_122 : (Cond.lays "LoanDesk" "LoanDesk" "meetingsKnown" "Z") ∈ bgT := List.mem_of_getElem? (i := 122) rfl
set_option maxRecDepth 100000 in
theorem k_123 : (Cond.methodLink "LoanDeskLaw" 13 y_point) ∈ bgT := List.mem_of_getElem? (i := 123) rfl
set_option maxRecDepth 100000 in
theorem k_124 : (Cond.instanceMethod y_point) ∈ bgT := List.mem_of_getElem? (i := 124) rfl
set_option maxRecDepth 100000 in
theorem k_125 : (Cond.selects "LoanDesk" y_point y_point) ∈ bgT := List.mem_of_getElem? (i := 125) rfl
set_option maxRecDepth 100000 in
theorem k_126 : (Cond.code y_point prog_1_method_2_code 5 (some .int)) ∈ bgT := List.mem_of_getElem? (i := 126) rfl
set_option maxRecDepth 100000 in
theorem k_127 : (Cond.methodLink "LoanDesk" 51 y_isDoing) ∈ bgT := List.mem_of_getElem? (i := 127) rfl
set_option maxRecDepth 100000 in
theorem k_128 : (Cond.static y_isDoing) ∈ bgT := List.mem_of_getElem? (i := 128) rfl
set_option maxRecDepth 100000 in
theorem k_129 : (Cond.code y_isDoing prog_1_method_11_code 4 (some .boolean)) ∈ bgT := List.mem_of_getElem? (i := 129) rfl
set_option maxRecDepth 100000 in
theorem k_130 : (Cond.methodLink "LoanDesk" 125 y_isRef) ∈ bgT := List.mem_of_getElem? (i := 130) rfl
set_option maxRecDepth 100000 in
theorem k_131 : (Cond.static y_isRef) ∈ bgT := List.mem_of_getElem? (i := 131) rfl
set_option maxRecDepth 100000 in
theorem k_132 : (Cond.code y_isRef prog_1_method_12_code 1 (some .boolean)) ∈ bgT := List.mem_of_getElem? (i := 132) rfl
set_option maxRecDepth 100000 in
theorem k_133 : (Cond.methodLink "LoanDesk" 128 y_isPlace) ∈ bgT := List.mem_of_getElem? (i := 133) rfl
set_option maxRecDepth 100000 in
theorem k_134 : (Cond.static y_isPlace) ∈ bgT := List.mem_of_getElem? (i := 134) rfl
set_option maxRecDepth 100000 in
theorem k_135 : (Cond.code y_isPlace prog_1_method_13_code 3 (some .boolean)) ∈ bgT := List.mem_of_getElem? (i := 135) rfl
set_option maxRecDepth 100000 in
theorem k_136 : (Cond.methodLink "LoanDesk" 55 y_hasRoom) ∈ bgT := List.mem_of_getElem? (i := 136) rfl
set_option maxRecDepth 100000 in
theorem k_137 : (Cond.instanceMethod y_hasRoom) ∈ bgT := List.mem_of_getElem? (i := 137) rfl
set_option maxRecDepth 100000 in
theorem k_138 : (Cond.selects "LoanDesk$Graph" y_hasRoom y_hasRoom) ∈ bgT := List.mem_of_getElem? (i := 138) rfl
set_option maxRecDepth 100000 in
theorem k_139 : (Cond.code y_hasRoom prog_2_method_3_code 1 (some .boolean)) ∈ bgT := List.mem_of_getElem? (i := 139) rfl
set_option maxRecDepth 100000 in
theorem k_140 : (Cond.methodLink "LoanDesk" 59 y_forget) ∈ bgT := List.mem_of_getElem? (i := 140) rfl
set_option maxRecDepth 100000 in
theorem k_141 : (Cond.instanceMethod y_forget) ∈ bgT := List.mem_of_getElem? (i := 141) rfl
set_option maxRecDepth 100000 in
theorem k_142 : (Cond.code y_forget prog_1_method_16_code 1 none) ∈ bgT := List.mem_of_getElem? (i := 142) rfl
set_option maxRecDepth 100000 in
theorem k_143 : (Cond.methodLink "LoanDesk" 62 y_add) ∈ bgT := List.mem_of_getElem? (i := 143) rfl
set_option maxRecDepth 100000 in
theorem k_144 : (Cond.instanceMethod y_add) ∈ bgT := List.mem_of_getElem? (i := 144) rfl
set_option maxRecDepth 100000 in
theorem k_145 : (Cond.selects "LoanDesk$Graph" y_add y_add) ∈ bgT := List.mem_of_getElem? (i := 145) rfl
set_option maxRecDepth 100000 in
theorem k_146 : (Cond.code y_add prog_2_method_7_code 6 (some .int)) ∈ bgT := List.mem_of_getElem? (i := 146) rfl
set_option maxRecDepth 100000 in
theorem k_147 : (Cond.methodLink "LoanDesk$Graph" 41 y_hasRoom) ∈ bgT := List.mem_of_getElem? (i := 147) rfl
set_option maxRecDepth 100000 in
theorem k_148 : (Cond.methodLink "LoanDeskLaw" 18 y_next) ∈ bgT := List.mem_of_getElem? (i := 148) rfl
set_option maxRecDepth 100000 in
theorem k_149 : (Cond.instanceMethod y_next) ∈ bgT := List.mem_of_getElem? (i := 149) rfl
set_option maxRecDepth 100000 in
theorem k_150 : (Cond.selects "LoanDesk" y_next y_next) ∈ bgT := List.mem_of_getElem? (i := 150) rfl
set_option maxRecDepth 100000 in
theorem k_151 : (Cond.code y_next prog_1_method_3_code 4 (some .boolean)) ∈ bgT := List.mem_of_getElem? (i := 151) rfl
set_option maxRecDepth 100000 in
theorem k_152 : (Cond.methodLink "LoanDesk" 66 y_isPoint) ∈ bgT := List.mem_of_getElem? (i := 152) rfl
set_option maxRecDepth 100000 in
theorem k_153 : (Cond.instanceMethod y_isPoint) ∈ bgT := List.mem_of_getElem? (i := 153) rfl
set_option maxRecDepth 100000 in
theorem k_154 : (Cond.selects "LoanDesk$Graph" y_isPoint y_isPoint) ∈ bgT := List.mem_of_getElem? (i := 154) rfl
set_option maxRecDepth 100000 in
theorem k_155 : (Cond.code y_isPoint prog_2_method_4_code 2 (some .boolean)) ∈ bgT := List.mem_of_getElem? (i := 155) rfl
set_option maxRecDepth 100000 in
theorem k_156 : (Cond.methodLink "LoanDesk" 70 y_isNext) ∈ bgT := List.mem_of_getElem? (i := 156) rfl
set_option maxRecDepth 100000 in
theorem k_157 : (Cond.static y_isNext) ∈ bgT := List.mem_of_getElem? (i := 157) rfl
set_option maxRecDepth 100000 in
theorem k_158 : (Cond.code y_isNext prog_1_method_14_code 1 (some .boolean)) ∈ bgT := List.mem_of_getElem? (i := 158) rfl
set_option maxRecDepth 100000 in
theorem k_159 : (Cond.methodLink "LoanDesk" 131 y_isIndex) ∈ bgT := List.mem_of_getElem? (i := 159) rfl
set_option maxRecDepth 100000 in
theorem k_160 : (Cond.static y_isIndex) ∈ bgT := List.mem_of_getElem? (i := 160) rfl
set_option maxRecDepth 100000 in
theorem k_161 : (Cond.code y_isIndex prog_1_method_15_code 1 (some .boolean)) ∈ bgT := List.mem_of_getElem? (i := 161) rfl
set_option maxRecDepth 100000 in
theorem k_162 : (Cond.methodLink "LoanDesk" 73 y_tellNext) ∈ bgT := List.mem_of_getElem? (i := 162) rfl
set_option maxRecDepth 100000 in
theorem k_163 : (Cond.instanceMethod y_tellNext) ∈ bgT := List.mem_of_getElem? (i := 163) rfl
set_option maxRecDepth 100000 in
theorem k_164 : (Cond.selects "LoanDesk$Graph" y_tellNext y_tellNext) ∈ bgT := List.mem_of_getElem? (i := 164) rfl
set_option maxRecDepth 100000 in
theorem k_165 : (Cond.code y_tellNext prog_2_method_8_code 4 none) ∈ bgT := List.mem_of_getElem? (i := 165) rfl
set_option maxRecDepth 100000 in
theorem k_166 : (Cond.methodLink "LoanDesk$Graph" 34 y_isPoint) ∈ bgT := List.mem_of_getElem? (i := 166) rfl
set_option maxRecDepth 100000 in
theorem k_167 : (Cond.methodLink "LoanDeskLaw" 23 y_isReached) ∈ bgT := List.mem_of_getElem? (i := 167) rfl
set_option maxRecDepth 100000 in
theorem k_168 : (Cond.instanceMethod y_isReached) ∈ bgT := List.mem_of_getElem? (i := 168) rfl
set_option maxRecDepth 100000 in
theorem k_169 : (Cond.selects "LoanDesk" y_isReached y_isReached) ∈ bgT := List.mem_of_getElem? (i := 169) rfl
set_option maxRecDepth 100000 in
theorem k_170 : (Cond.code y_isReached prog_1_method_4_code 2 (some .boolean)) ∈ bgT := List.mem_of_getElem? (i := 170) rfl
set_option maxRecDepth 100000 in
theorem k_171 : (Cond.methodLink "LoanDesk" 77 y_findWays) ∈ bgT := List.mem_of_getElem? (i := 171) rfl
set_option maxRecDepth 100000 in
theorem k_172 : (Cond.instanceMethod y_findWays) ∈ bgT := List.mem_of_getElem? (i := 172) rfl
set_option maxRecDepth 100000 in
theorem k_173 : (Cond.code y_findWays prog_1_method_17_code 1 none) ∈ bgT := List.mem_of_getElem? (i := 173) rfl
set_option maxRecDepth 100000 in
theorem k_174 : (Cond.methodLink "LoanDesk" 134 y_rfind) ∈ bgT := List.mem_of_getElem? (i := 174) rfl
set_option maxRecDepth 100000 in
theorem k_175 : (Cond.instanceMethod y_rfind) ∈ bgT := List.mem_of_getElem? (i := 175) rfl
set_option maxRecDepth 100000 in
theorem k_176 : (Cond.selects "LoanDesk$Reach" y_rfind y_rfind) ∈ bgT := List.mem_of_getElem? (i := 176) rfl
set_option maxRecDepth 100000 in
theorem k_177 : (Cond.code y_rfind prog_6_method_4_code 4 none) ∈ bgT := List.mem_of_getElem? (i := 177) rfl
set_option maxRecDepth 100000 in
theorem k_178 : (Cond.methodLink "LoanDesk$Reach" 26 y_fillI) ∈ bgT := List.mem_of_getElem? (i := 178) rfl
set_option maxRecDepth 100000 in
theorem k_179 : (Cond.static y_fillI) ∈ bgT := List.mem_of_getElem? (i := 179) rfl
set_option maxRecDepth 100000 in
theorem k_180 : (Cond.code y_fillI prog_11_method_103_code 4 none) ∈ bgT := List.mem_of_getElem? (i := 180) rfl
set_option maxRecDepth 100000 in
theorem k_181 : (Cond.methodLink "LoanDesk$Reach" 32 y_arrive) ∈ bgT := List.mem_of_getElem? (i := 181) rfl
set_option maxRecDepth 100000 in
theorem k_182 : (Cond.instanceMethod y_arrive) ∈ bgT := List.mem_of_getElem? (i := 182) rfl
set_option maxRecDepth 100000 in
theorem k_183 : (Cond.code y_arrive prog_6_method_5_code 3 none) ∈ bgT := List.mem_of_getElem? (i := 183) rfl
set_option maxRecDepth 100000 in
theorem k_184 : (Cond.methodLink "LoanDesk$Reach" 53 y_isPoint) ∈ bgT := List.mem_of_getElem? (i := 184) rfl
set_option maxRecDepth 100000 in
theorem k_185 : (Cond.methodLink "LoanDesk$Reach" 56 y_comesTo) ∈ bgT := List.mem_of_getElem? (i := 185) rfl
set_option maxRecDepth 100000 in
theorem k_186 : (Cond.instanceMethod y_comesTo) ∈ bgT := List.mem_of_getElem? (i := 186) rfl
set_option maxRecDepth 100000 in
theorem k_187 : (Cond.selects "LoanDesk$Reach" y_comesTo y_comesTo) ∈ bgT := List.mem_of_getElem? (i := 187) rfl
set_option maxRecDepth 100000 in
theorem k_188 : (Cond.code y_comesTo prog_6_method_2_code 2 (some .boolean)) ∈ bgT := List.mem_of_getElem? (i := 188) rfl
set_option maxRecDepth 100000 in
theorem k_189 : (Cond.methodLink "LoanDesk$Reach" 59 y_put) ∈ bgT := List.mem_of_getElem? (i := 189) rfl
set_option maxRecDepth 100000 in
theorem k_190 : (Cond.instanceMethod y_put) ∈ bgT := List.mem_of_getElem? (i := 190) rfl
set_option maxRecDepth 100000 in
theorem k_191 : (Cond.selects "LoanDesk$Pile" y_put y_put) ∈ bgT := List.mem_of_getElem? (i := 191) rfl
set_option maxRecDepth 100000 in
theorem k_192 : (Cond.code y_put prog_5_method_3_code 2 none) ∈ bgT := List.mem_of_getElem? (i := 192) rfl
set_option maxRecDepth 100000 in
theorem k_193 : (Cond.methodLink "LoanDesk$Reach" 36 y_pEmpty) ∈ bgT := List.mem_of_getElem? (i := 193) rfl
set_option maxRecDepth 100000 in
theorem k_194 : (Cond.instanceMethod y_pEmpty) ∈ bgT := List.mem_of_getElem? (i := 194) rfl
set_option maxRecDepth 100000 in
theorem k_195 : (Cond.selects "LoanDesk$Pile" y_pEmpty y_pEmpty) ∈ bgT := List.mem_of_getElem? (i := 195) rfl
set_option maxRecDepth 100000 in
theorem k_196 : (Cond.code y_pEmpty prog_5_method_2_code 1 (some .boolean)) ∈ bgT := List.mem_of_getElem? (i := 196) rfl
set_option maxRecDepth 100000 in
theorem k_197 : (Cond.methodLink "LoanDesk$Reach" 40 y_take) ∈ bgT := List.mem_of_getElem? (i := 197) rfl
set_option maxRecDepth 100000 in
theorem k_198 : (Cond.instanceMethod y_take) ∈ bgT := List.mem_of_getElem? (i := 198) rfl
set_option maxRecDepth 100000 in
theorem k_199 : (Cond.selects "LoanDesk$Pile" y_take y_take) ∈ bgT := List.mem_of_getElem? (i := 199) rfl
set_option maxRecDepth 100000 in
theorem k_200 : (Cond.code y_take prog_5_method_4_code 2 (some .int)) ∈ bgT := List.mem_of_getElem? (i := 200) rfl
set_option maxRecDepth 100000 in
theorem k_201 : (Cond.methodLink "LoanDesk$Reach" 44 y_firstNext) ∈ bgT := List.mem_of_getElem? (i := 201) rfl
set_option maxRecDepth 100000 in
theorem k_202 : (Cond.instanceMethod y_firstNext) ∈ bgT := List.mem_of_getElem? (i := 202) rfl
set_option maxRecDepth 100000 in
theorem k_203 : (Cond.selects "LoanDesk$Graph" y_firstNext y_firstNext) ∈ bgT := List.mem_of_getElem? (i := 203) rfl
set_option maxRecDepth 100000 in
theorem k_204 : (Cond.code y_firstNext prog_2_method_10_code 2 (some .int)) ∈ bgT := List.mem_of_getElem? (i := 204) rfl
set_option maxRecDepth 100000 in
theorem k_205 : (Cond.methodLink "LoanDesk$Reach" 50 y_secondNext) ∈ bgT := List.mem_of_getElem? (i := 205) rfl
set_option maxRecDepth 100000 in
theorem k_206 : (Cond.instanceMethod y_secondNext) ∈ bgT := List.mem_of_getElem? (i := 206) rfl
set_option maxRecDepth 100000 in
theorem k_207 : (Cond.selects "LoanDesk$Graph" y_secondNext y_secondNext) ∈ bgT := List.mem_of_getElem? (i := 207) rfl
set_option maxRecDepth 100000 in
theorem k_208 : (Cond.code y_secondNext prog_2_method_11_code 2 (some .int)) ∈ bgT := List.mem_of_getElem? (i := 208) rfl
set_option maxRecDepth 100000 in
theorem k_209 : (Cond.methodLink "LoanDesk" 138 y_ufind) ∈ bgT := List.mem_of_getElem? (i := 209) rfl
set_option maxRecDepth 100000 in
theorem k_210 : (Cond.instanceMethod y_ufind) ∈ bgT := List.mem_of_getElem? (i := 210) rfl
set_option maxRecDepth 100000 in
theorem k_211 : (Cond.selects "LoanDesk$Uses" y_ufind y_ufind) ∈ bgT := List.mem_of_getElem? (i := 211) rfl
set_option maxRecDepth 100000 in
theorem k_212 : (Cond.code y_ufind prog_7_method_3_code 4 none) ∈ bgT := List.mem_of_getElem? (i := 212) rfl
set_option maxRecDepth 100000 in
theorem k_213 : (Cond.methodLink "LoanDesk$Uses" 19 y_fillI) ∈ bgT := List.mem_of_getElem? (i := 213) rfl
set_option maxRecDepth 100000 in
theorem k_214 : (Cond.methodLink "LoanDesk$Uses" 25 y_growAll) ∈ bgT := List.mem_of_getElem? (i := 214) rfl
set_option maxRecDepth 100000 in
theorem k_215 : (Cond.instanceMethod y_growAll) ∈ bgT := List.mem_of_getElem? (i := 215) rfl
set_option maxRecDepth 100000 in
theorem k_216 : (Cond.code y_growAll prog_7_method_4_code 7 (some .boolean)) ∈ bgT := List.mem_of_getElem? (i := 216) rfl
set_option maxRecDepth 100000 in
theorem k_217 : (Cond.methodLink "LoanDesk$Uses" 29 y_gsize) ∈ bgT := List.mem_of_getElem? (i := 217) rfl
set_option maxRecDepth 100000 in
theorem k_218 : (Cond.instanceMethod y_gsize) ∈ bgT := List.mem_of_getElem? (i := 218) rfl
set_option maxRecDepth 100000 in
theorem k_219 : (Cond.selects "LoanDesk$Graph" y_gsize y_gsize) ∈ bgT := List.mem_of_getElem? (i := 219) rfl
set_option maxRecDepth 100000 in
theorem k_220 : (Cond.code y_gsize prog_2_method_2_code 1 (some .int)) ∈ bgT := List.mem_of_getElem? (i := 220) rfl
set_option maxRecDepth 100000 in
theorem k_221 : (Cond.methodLink "LoanDesk$Uses" 35 y_math_min) ∈ bgT := List.mem_of_getElem? (i := 221) rfl
set_option maxRecDepth 100000 in
theorem k_222 : (Cond.static y_math_min) ∈ bgT := List.mem_of_getElem? (i := 222) rfl
set_option maxRecDepth 100000 in
theorem k_223 : (Cond.code y_math_min prog_10_method_69_code 2 (some .int)) ∈ bgT := List.mem_of_getElem? (i := 223) rfl
set_option maxRecDepth 100000 in
theorem k_224 : (Cond.methodLink "LoanDesk$Uses" 41 y_firstNext) ∈ bgT := List.mem_of_getElem? (i := 224) rfl
set_option maxRecDepth 100000 in
theorem k_225 : (Cond.methodLink "LoanDesk$Uses" 45 y_secondNext) ∈ bgT := List.mem_of_getElem? (i := 225) rfl
set_option maxRecDepth 100000 in
theorem k_226 : (Cond.methodLink "LoanDesk$Uses" 48 y_ubehind) ∈ bgT := List.mem_of_getElem? (i := 226) rfl
set_option maxRecDepth 100000 in
theorem k_227 : (Cond.instanceMethod y_ubehind) ∈ bgT := List.mem_of_getElem? (i := 227) rfl
set_option maxRecDepth 100000 in
theorem k_228 : (Cond.selects "LoanDesk$Uses" y_ubehind y_ubehind) ∈ bgT := List.mem_of_getElem? (i := 228) rfl
set_option maxRecDepth 100000 in
theorem k_229 : (Cond.code y_ubehind prog_7_method_2_code 2 (some .int)) ∈ bgT := List.mem_of_getElem? (i := 229) rfl
set_option maxRecDepth 100000 in
theorem k_230 : (Cond.methodLink "LoanDesk$Uses" 51 y_usedFrom) ∈ bgT := List.mem_of_getElem? (i := 230) rfl
set_option maxRecDepth 100000 in
theorem k_231 : (Cond.instanceMethod y_usedFrom) ∈ bgT := List.mem_of_getElem? (i := 231) rfl
set_option maxRecDepth 100000 in
theorem k_232 : (Cond.selects "LoanDesk$Graph" y_usedFrom y_usedFrom) ∈ bgT := List.mem_of_getElem? (i := 232) rfl
set_option maxRecDepth 100000 in
theorem k_233 : (Cond.code y_usedFrom prog_2_method_14_code 3 (some .int)) ∈ bgT := List.mem_of_getElem? (i := 233) rfl
set_option maxRecDepth 100000 in
theorem k_234 : (Cond.methodLink "LoanDesk" 80 y_comesTo) ∈ bgT := List.mem_of_getElem? (i := 234) rfl
set_option maxRecDepth 100000 in
theorem k_235 : (Cond.methodLink "LoanDeskLaw" 28 y_holders) ∈ bgT := List.mem_of_getElem? (i := 235) rfl
set_option maxRecDepth 100000 in
theorem k_236 : (Cond.instanceMethod y_holders) ∈ bgT := List.mem_of_getElem? (i := 236) rfl
set_option maxRecDepth 100000 in
theorem k_237 : (Cond.selects "LoanDesk" y_holders y_holders) ∈ bgT := List.mem_of_getElem? (i := 237) rfl
set_option maxRecDepth 100000 in
theorem k_238 : (Cond.code y_holders prog_1_method_5_code 3 (some .int)) ∈ bgT := List.mem_of_getElem? (i := 238) rfl
set_option maxRecDepth 100000 in
theorem k_239 : (Cond.methodLink "LoanDesk" 83 y_isLoan) ∈ bgT := List.mem_of_getElem? (i := 239) rfl
set_option maxRecDepth 100000 in
theorem k_240 : (Cond.instanceMethod y_isLoan) ∈ bgT := List.mem_of_getElem? (i := 240) rfl
set_option maxRecDepth 100000 in
theorem k_241 : (Cond.selects "LoanDesk$Graph" y_isLoan y_isLoan) ∈ bgT := List.mem_of_getElem? (i := 241) rfl
set_option maxRecDepth 100000 in
theorem k_242 : (Cond.code y_isLoan prog_2_method_5_code 2 (some .boolean)) ∈ bgT := List.mem_of_getElem? (i := 242) rfl
set_option maxRecDepth 100000 in
theorem k_243 : (Cond.methodLink "LoanDesk" 86 y_follow) ∈ bgT := List.mem_of_getElem? (i := 243) rfl
set_option maxRecDepth 100000 in
theorem k_244 : (Cond.instanceMethod y_follow) ∈ bgT := List.mem_of_getElem? (i := 244) rfl
set_option maxRecDepth 100000 in
theorem k_245 : (Cond.selects "LoanDesk$Holding" y_follow y_follow) ∈ bgT := List.mem_of_getElem? (i := 245) rfl
set_option maxRecDepth 100000 in
theorem k_246 : (Cond.code y_follow prog_3_method_3_code 4 none) ∈ bgT := List.mem_of_getElem? (i := 246) rfl
set_option maxRecDepth 100000 in
theorem k_247 : (Cond.methodLink "LoanDesk$Holding" 29 y_fillI) ∈ bgT := List.mem_of_getElem? (i := 247) rfl
set_option maxRecDepth 100000 in
theorem k_248 : (Cond.methodLink "LoanDesk$Holding" 35 y_put) ∈ bgT := List.mem_of_getElem? (i := 248) rfl
set_option maxRecDepth 100000 in
theorem k_249 : (Cond.methodLink "LoanDesk$Holding" 39 y_pEmpty) ∈ bgT := List.mem_of_getElem? (i := 249) rfl
set_option maxRecDepth 100000 in
theorem k_250 : (Cond.methodLink "LoanDesk$Holding" 43 y_take) ∈ bgT := List.mem_of_getElem? (i := 250) rfl
set_option maxRecDepth 100000 in
theorem k_251 : (Cond.methodLink "LoanDesk$Holding" 47 y_pass) ∈ bgT := List.mem_of_getElem? (i := 251) rfl
set_option maxRecDepth 100000 in
theorem k_252 : (Cond.instanceMethod y_pass) ∈ bgT := List.mem_of_getElem? (i := 252) rfl
set_option maxRecDepth 100000 in
theorem k_253 : (Cond.code y_pass prog_3_method_4_code 5 none) ∈ bgT := List.mem_of_getElem? (i := 253) rfl
set_option maxRecDepth 100000 in
theorem k_254 : (Cond.methodLink "LoanDesk$Holding" 51 y_heldBehind) ∈ bgT := List.mem_of_getElem? (i := 254) rfl
set_option maxRecDepth 100000 in
theorem k_255 : (Cond.instanceMethod y_heldBehind) ∈ bgT := List.mem_of_getElem? (i := 255) rfl
set_option maxRecDepth 100000 in
theorem k_256 : (Cond.selects "LoanDesk$Graph" y_heldBehind y_heldBehind) ∈ bgT := List.mem_of_getElem? (i := 256) rfl
set_option maxRecDepth 100000 in
theorem k_257 : (Cond.code y_heldBehind prog_2_method_12_code 4 (some .int)) ∈ bgT := List.mem_of_getElem? (i := 257) rfl
set_option maxRecDepth 100000 in
theorem k_258 : (Cond.methodLink "LoanDesk$Graph" 45 y_withHolder) ∈ bgT := List.mem_of_getElem? (i := 258) rfl
set_option maxRecDepth 100000 in
theorem k_259 : (Cond.static y_withHolder) ∈ bgT := List.mem_of_getElem? (i := 259) rfl
set_option maxRecDepth 100000 in
theorem k_260 : (Cond.code y_withHolder prog_2_method_13_code 4 (some .int)) ∈ bgT := List.mem_of_getElem? (i := 260) rfl
set_option maxRecDepth 100000 in
theorem k_261 : (Cond.methodLink "LoanDesk$Holding" 57 y_firstNext) ∈ bgT := List.mem_of_getElem? (i := 261) rfl
set_option maxRecDepth 100000 in
theorem k_262 : (Cond.methodLink "LoanDesk$Holding" 61 y_handOn) ∈ bgT := List.mem_of_getElem? (i := 262) rfl
set_option maxRecDepth 100000 in
theorem k_263 : (Cond.instanceMethod y_handOn) ∈ bgT := List.mem_of_getElem? (i := 263) rfl
set_option maxRecDepth 100000 in
theorem k_264 : (Cond.code y_handOn prog_3_method_5_code 5 none) ∈ bgT := List.mem_of_getElem? (i := 264) rfl
set_option maxRecDepth 100000 in
theorem k_265 : (Cond.methodLink "LoanDesk$Holding" 67 y_isPoint) ∈ bgT := List.mem_of_getElem? (i := 265) rfl
set_option maxRecDepth 100000 in
theorem k_266 : (Cond.methodLink "LoanDesk$Holding" 64 y_secondNext) ∈ bgT := List.mem_of_getElem? (i := 266) rfl
set_option maxRecDepth 100000 in
theorem k_267 : (Cond.methodLink "LoanDesk" 90 y_hbehind) ∈ bgT := List.mem_of_getElem? (i := 267) rfl
set_option maxRecDepth 100000 in
theorem k_268 : (Cond.instanceMethod y_hbehind) ∈ bgT := List.mem_of_getElem? (i := 268) rfl
set_option maxRecDepth 100000 in
theorem k_269 : (Cond.selects "LoanDesk$Holding" y_hbehind y_hbehind) ∈ bgT := List.mem_of_getElem? (i := 269) rfl
set_option maxRecDepth 100000 in
theorem k_270 : (Cond.code y_hbehind prog_3_method_2_code 2 (some .int)) ∈ bgT := List.mem_of_getElem? (i := 270) rfl
set_option maxRecDepth 100000 in
theorem k_271 : (Cond.methodLink "LoanDeskLaw" 33 y_used) ∈ bgT := List.mem_of_getElem? (i := 271) rfl
set_option maxRecDepth 100000 in
theorem k_272 : (Cond.instanceMethod y_used) ∈ bgT := List.mem_of_getElem? (i := 272) rfl
set_option maxRecDepth 100000 in
theorem k_273 : (Cond.selects "LoanDesk" y_used y_used) ∈ bgT := List.mem_of_getElem? (i := 273) rfl
set_option maxRecDepth 100000 in
theorem k_274 : (Cond.code y_used prog_1_method_6_code 2 (some .int)) ∈ bgT := List.mem_of_getElem? (i := 274) rfl
set_option maxRecDepth 100000 in
theorem k_275 : (Cond.methodLink "LoanDesk" 94 y_ubehind) ∈ bgT := List.mem_of_getElem? (i := 275) rfl
set_option maxRecDepth 100000 in
theorem k_276 : (Cond.methodLink "LoanDeskLaw" 38 y_isAlive) ∈ bgT := List.mem_of_getElem? (i := 276) rfl
set_option maxRecDepth 100000 in
theorem k_277 : (Cond.instanceMethod y_isAlive) ∈ bgT := List.mem_of_getElem? (i := 277) rfl
set_option maxRecDepth 100000 in
theorem k_278 : (Cond.selects "LoanDesk" y_isAlive y_isAlive) ∈ bgT := List.mem_of_getElem? (i := 278) rfl
set_option maxRecDepth 100000 in
theorem k_279 : (Cond.code y_isAlive prog_1_method_7_code 3 (some .boolean)) ∈ bgT := List.mem_of_getElem? (i := 279) rfl
set_option maxRecDepth 100000 in
theorem k_280 : (Cond.methodLink "LoanDesk" 95 y_holders) ∈ bgT := List.mem_of_getElem? (i := 280) rfl
set_option maxRecDepth 100000 in
theorem k_281 : (Cond.methodLink "LoanDesk" 99 y_used) ∈ bgT := List.mem_of_getElem? (i := 281) rfl
set_option maxRecDepth 100000 in
theorem k_282 : (Cond.methodLink "LoanDeskLaw" 43 y_met) ∈ bgT := List.mem_of_getElem? (i := 282) rfl
set_option maxRecDepth 100000 in
theorem k_283 : (Cond.instanceMethod y_met) ∈ bgT := List.mem_of_getElem? (i := 283) rfl
set_option maxRecDepth 100000 in
theorem k_284 : (Cond.selects "LoanDesk" y_met y_met) ∈ bgT := List.mem_of_getElem? (i := 284) rfl
set_option maxRecDepth 100000 in
theorem k_285 : (Cond.code y_met prog_1_method_8_code 3 (some .int)) ∈ bgT := List.mem_of_getElem? (i := 285) rfl
set_option maxRecDepth 100000 in
theorem k_286 : (Cond.methodLink "LoanDesk" 102 y_findMeet) ∈ bgT := List.mem_of_getElem? (i := 286) rfl
set_option maxRecDepth 100000 in
theorem k_287 : (Cond.instanceMethod y_findMeet) ∈ bgT := List.mem_of_getElem? (i := 287) rfl
set_option maxRecDepth 100000 in
theorem k_288 : (Cond.code y_findMeet prog_1_method_18_code 2 none) ∈ bgT := List.mem_of_getElem? (i := 288) rfl
set_option maxRecDepth 100000 in
theorem k_289 : (Cond.methodLink "LoanDesk" 139 y_mempty) ∈ bgT := List.mem_of_getElem? (i := 289) rfl
set_option maxRecDepth 100000 in
theorem k_290 : (Cond.instanceMethod y_mempty) ∈ bgT := List.mem_of_getElem? (i := 290) rfl
set_option maxRecDepth 100000 in
theorem k_291 : (Cond.selects "LoanDesk$Meetings" y_mempty y_mempty) ∈ bgT := List.mem_of_getElem? (i := 291) rfl
set_option maxRecDepth 100000 in
theorem k_292 : (Cond.code y_mempty prog_4_method_2_code 1 none) ∈ bgT := List.mem_of_getElem? (i := 292) rfl
set_option maxRecDepth 100000 in
theorem k_293 : (Cond.methodLink "LoanDesk$Meetings" 15 y_fillJ) ∈ bgT := List.mem_of_getElem? (i := 293) rfl
set_option maxRecDepth 100000 in
theorem k_294 : (Cond.static y_fillJ) ∈ bgT := List.mem_of_getElem? (i := 294) rfl
set_option maxRecDepth 100000 in
theorem k_295 : (Cond.code y_fillJ prog_11_method_101_code 5 none) ∈ bgT := List.mem_of_getElem? (i := 295) rfl
set_option maxRecDepth 100000 in
theorem k_296 : (Cond.methodLink "LoanDesk" 108 y_gsize) ∈ bgT := List.mem_of_getElem? (i := 296) rfl
set_option maxRecDepth 100000 in
theorem k_297 : (Cond.methodLink "LoanDesk" 140 y_addMeet) ∈ bgT := List.mem_of_getElem? (i := 297) rfl
set_option maxRecDepth 100000 in
theorem k_298 : (Cond.instanceMethod y_addMeet) ∈ bgT := List.mem_of_getElem? (i := 298) rfl
set_option maxRecDepth 100000 in
theorem k_299 : (Cond.code y_addMeet prog_1_method_19_code 4 none) ∈ bgT := List.mem_of_getElem? (i := 299) rfl
set_option maxRecDepth 100000 in
theorem k_300 : (Cond.methodLink "LoanDesk" 144 y_borrowing) ∈ bgT := List.mem_of_getElem? (i := 300) rfl
set_option maxRecDepth 100000 in
theorem k_301 : (Cond.instanceMethod y_borrowing) ∈ bgT := List.mem_of_getElem? (i := 301) rfl
set_option maxRecDepth 100000 in
theorem k_302 : (Cond.selects "LoanDesk$Graph" y_borrowing y_borrowing) ∈ bgT := List.mem_of_getElem? (i := 302) rfl
set_option maxRecDepth 100000 in
theorem k_303 : (Cond.code y_borrowing prog_2_method_15_code 2 (some .int)) ∈ bgT := List.mem_of_getElem? (i := 303) rfl
set_option maxRecDepth 100000 in
theorem k_304 : (Cond.methodLink "LoanDesk$Graph" 38 y_isLoan) ∈ bgT := List.mem_of_getElem? (i := 304) rfl
set_option maxRecDepth 100000 in
theorem k_305 : (Cond.methodLink "LoanDesk" 147 y_touches) ∈ bgT := List.mem_of_getElem? (i := 305) rfl
set_option maxRecDepth 100000 in
theorem k_306 : (Cond.instanceMethod y_touches) ∈ bgT := List.mem_of_getElem? (i := 306) rfl
set_option maxRecDepth 100000 in
theorem k_307 : (Cond.selects "LoanDesk$Graph" y_touches y_touches) ∈ bgT := List.mem_of_getElem? (i := 307) rfl
set_option maxRecDepth 100000 in
theorem k_308 : (Cond.code y_touches prog_2_method_16_code 4 (some .boolean)) ∈ bgT := List.mem_of_getElem? (i := 308) rfl
set_option maxRecDepth 100000 in
theorem k_309 : (Cond.methodLink "LoanDesk$Graph" 49 y_isChange) ∈ bgT := List.mem_of_getElem? (i := 309) rfl
set_option maxRecDepth 100000 in
theorem k_310 : (Cond.instanceMethod y_isChange) ∈ bgT := List.mem_of_getElem? (i := 310) rfl
set_option maxRecDepth 100000 in
theorem k_311 : (Cond.code y_isChange prog_2_method_17_code 2 (some .boolean)) ∈ bgT := List.mem_of_getElem? (i := 311) rfl
set_option maxRecDepth 100000 in
theorem k_312 : (Cond.methodLink "LoanDesk$Graph" 52 y_isLook) ∈ bgT := List.mem_of_getElem? (i := 312) rfl
set_option maxRecDepth 100000 in
theorem k_313 : (Cond.instanceMethod y_isLook) ∈ bgT := List.mem_of_getElem? (i := 313) rfl
set_option maxRecDepth 100000 in
theorem k_314 : (Cond.code y_isLook prog_2_method_18_code 2 (some .boolean)) ∈ bgT := List.mem_of_getElem? (i := 314) rfl
set_option maxRecDepth 100000 in
theorem k_315 : (Cond.methodLink "LoanDesk$Graph" 55 y_overlap) ∈ bgT := List.mem_of_getElem? (i := 315) rfl
set_option maxRecDepth 100000 in
theorem k_316 : (Cond.static y_overlap) ∈ bgT := List.mem_of_getElem? (i := 316) rfl
set_option maxRecDepth 100000 in
theorem k_317 : (Cond.code y_overlap prog_2_method_19_code 5 (some .boolean)) ∈ bgT := List.mem_of_getElem? (i := 317) rfl
set_option maxRecDepth 100000 in
theorem k_318 : (Cond.methodLink "LoanDesk$Graph" 59 y_math_min) ∈ bgT := List.mem_of_getElem? (i := 318) rfl
set_option maxRecDepth 100000 in
theorem k_319 : (Cond.methodLink "LoanDesk$Graph" 65 y_math_max) ∈ bgT := List.mem_of_getElem? (i := 319) rfl
set_option maxRecDepth 100000 in
theorem k_320 : (Cond.static y_math_max) ∈ bgT := List.mem_of_getElem? (i := 320) rfl
set_option maxRecDepth 100000 in
theorem k_321 : (Cond.code y_math_max prog_10_method_65_code 2 (some .int)) ∈ bgT := List.mem_of_getElem? (i := 321) rfl
set_option maxRecDepth 100000 in
theorem k_322 : (Cond.methodLink "LoanDesk" 151 y_madd) ∈ bgT := List.mem_of_getElem? (i := 322) rfl
set_option maxRecDepth 100000 in
theorem k_323 : (Cond.instanceMethod y_madd) ∈ bgT := List.mem_of_getElem? (i := 323) rfl
set_option maxRecDepth 100000 in
theorem k_324 : (Cond.selects "LoanDesk$Meetings" y_madd y_madd) ∈ bgT := List.mem_of_getElem? (i := 324) rfl
set_option maxRecDepth 100000 in
theorem k_325 : (Cond.code y_madd prog_4_method_3_code 3 none) ∈ bgT := List.mem_of_getElem? (i := 325) rfl
set_option maxRecDepth 100000 in
theorem k_326 : (Cond.methodLink "LoanDesk" 105 y_least) ∈ bgT := List.mem_of_getElem? (i := 326) rfl
set_option maxRecDepth 100000 in
theorem k_327 : (Cond.instanceMethod y_least) ∈ bgT := List.mem_of_getElem? (i := 327) rfl
set_option maxRecDepth 100000 in
theorem k_328 : (Cond.selects "LoanDesk$Meetings" y_least y_least) ∈ bgT := List.mem_of_getElem? (i := 328) rfl
set_option maxRecDepth 100000 in
theorem k_329 : (Cond.code y_least prog_4_method_6_code 4 (some .int)) ∈ bgT := List.mem_of_getElem? (i := 329) rfl
set_option maxRecDepth 100000 in
theorem k_330 : (Cond.methodLink "LoanDesk$Meetings" 28 y_isAt) ∈ bgT := List.mem_of_getElem? (i := 330) rfl
set_option maxRecDepth 100000 in
theorem k_331 : (Cond.instanceMethod y_isAt) ∈ bgT := List.mem_of_getElem? (i := 331) rfl
set_option maxRecDepth 100000 in
theorem k_332 : (Cond.code y_isAt prog_4_method_8_code 3 (some .boolean)) ∈ bgT := List.mem_of_getElem? (i := 332) rfl
set_option maxRecDepth 100000 in
theorem k_333 : (Cond.methodLink "LoanDeskLaw" 47 y_count) ∈ bgT := List.mem_of_getElem? (i := 333) rfl
set_option maxRecDepth 100000 in
theorem k_334 : (Cond.instanceMethod y_count) ∈ bgT := List.mem_of_getElem? (i := 334) rfl
set_option maxRecDepth 100000 in
theorem k_335 : (Cond.selects "LoanDesk" y_count y_count) ∈ bgT := List.mem_of_getElem? (i := 335) rfl
set_option maxRecDepth 100000 in
theorem k_336 : (Cond.code y_count prog_1_method_9_code 2 (some .int)) ∈ bgT := List.mem_of_getElem? (i := 336) rfl
set_option maxRecDepth 100000 in
theorem k_337 : (Cond.methodLink "LoanDesk" 112 y_rcount) ∈ bgT := List.mem_of_getElem? (i := 337) rfl
set_option maxRecDepth 100000 in
theorem k_338 : (Cond.instanceMethod y_rcount) ∈ bgT := List.mem_of_getElem? (i := 338) rfl
set_option maxRecDepth 100000 in
theorem k_339 : (Cond.selects "LoanDesk$Reach" y_rcount y_rcount) ∈ bgT := List.mem_of_getElem? (i := 339) rfl
set_option maxRecDepth 100000 in
theorem k_340 : (Cond.code y_rcount prog_6_method_3_code 3 (some .int)) ∈ bgT := List.mem_of_getElem? (i := 340) rfl
set_option maxRecDepth 100000 in
theorem k_341 : (Cond.methodLink "LoanDesk" 115 y_mcount) ∈ bgT := List.mem_of_getElem? (i := 341) rfl
set_option maxRecDepth 100000 in
theorem k_342 : (Cond.instanceMethod y_mcount) ∈ bgT := List.mem_of_getElem? (i := 342) rfl
set_option maxRecDepth 100000 in
theorem k_343 : (Cond.selects "LoanDesk$Meetings" y_mcount y_mcount) ∈ bgT := List.mem_of_getElem? (i := 343) rfl
set_option maxRecDepth 100000 in
theorem k_344 : (Cond.code y_mcount prog_4_method_4_code 3 (some .int)) ∈ bgT := List.mem_of_getElem? (i := 344) rfl
set_option maxRecDepth 100000 in
theorem k_345 : (Cond.methodLink "LoanDesk$Meetings" 25 y_isAnyAt) ∈ bgT := List.mem_of_getElem? (i := 345) rfl
set_option maxRecDepth 100000 in
theorem k_346 : (Cond.instanceMethod y_isAnyAt) ∈ bgT := List.mem_of_getElem? (i := 346) rfl
set_option maxRecDepth 100000 in
theorem k_347 : (Cond.code y_isAnyAt prog_4_method_7_code 2 (some .boolean)) ∈ bgT := List.mem_of_getElem? (i := 347) rfl
set_option maxRecDepth 100000 in
theorem k_348 : (Cond.methodLink "LoanDesk" 116 y_mfirst) ∈ bgT := List.mem_of_getElem? (i := 348) rfl
set_option maxRecDepth 100000 in
theorem k_349 : (Cond.instanceMethod y_mfirst) ∈ bgT := List.mem_of_getElem? (i := 349) rfl
set_option maxRecDepth 100000 in
theorem k_350 : (Cond.selects "LoanDesk$Meetings" y_mfirst y_mfirst) ∈ bgT := List.mem_of_getElem? (i := 350) rfl
set_option maxRecDepth 100000 in
theorem k_351 : (Cond.code y_mfirst prog_4_method_5_code 2 (some .int)) ∈ bgT := List.mem_of_getElem? (i := 351) rfl
set_option maxRecDepth 100000 in
theorem k_352 : (Cond.methodLink "LoanDesk" 119 y_countLoans) ∈ bgT := List.mem_of_getElem? (i := 352) rfl
set_option maxRecDepth 100000 in
theorem k_353 : (Cond.instanceMethod y_countLoans) ∈ bgT := List.mem_of_getElem? (i := 353) rfl
set_option maxRecDepth 100000 in
theorem k_354 : (Cond.selects "LoanDesk$Graph" y_countLoans y_countLoans) ∈ bgT := List.mem_of_getElem? (i := 354) rfl
set_option maxRecDepth 100000 in
theorem k_355 : (Cond.code y_countLoans prog_2_method_6_code 3 (some .int)) ∈ bgT := List.mem_of_getElem? (i := 355) rfl
set_option maxRecDepth 100000 in
theorem k_356 : (Cond.methodLink "LoanDeskLaw" 51 y_clear) ∈ bgT := List.mem_of_getElem? (i := 356) rfl
set_option maxRecDepth 100000 in
theorem k_357 : (Cond.instanceMethod y_clear) ∈ bgT := List.mem_of_getElem? (i := 357) rfl
set_option maxRecDepth 100000 in
theorem k_358 : (Cond.selects "LoanDesk" y_clear y_clear) ∈ bgT := List.mem_of_getElem? (i := 358) rfl
set_option maxRecDepth 100000 in
theorem k_359 : (Cond.code y_clear prog_1_method_10_code 2 (some .int)) ∈ bgT := List.mem_of_getElem? (i := 359) rfl
set_option maxRecDepth 100000 in
theorem k_360 : (Cond.methodLink "LoanDesk" 122 y_gempty) ∈ bgT := List.mem_of_getElem? (i := 360) rfl
set_option maxRecDepth 100000 in
theorem k_361 : (Cond.instanceMethod y_gempty) ∈ bgT := List.mem_of_getElem? (i := 361) rfl
set_option maxRecDepth 100000 in
theorem k_362 : (Cond.selects "LoanDesk$Graph" y_gempty y_gempty) ∈ bgT := List.mem_of_getElem? (i := 362) rfl
set_option maxRecDepth 100000 in
theorem k_363 : (Cond.code y_gempty prog_2_method_9_code 1 none) ∈ bgT := List.mem_of_getElem? (i := 363) rfl
set_option maxRecDepth 100000 in
theorem k_364 : (Cond.classLink "LoanDeskLaw" 10 "LoanDeskModel") ∈ bgT := List.mem_of_getElem? (i := 364) rfl
set_option maxRecDepth 100000 in
theorem k_365 : (Cond.instantiable "LoanDeskModel" 14) ∈ bgT := List.mem_of_getElem? (i := 365) rfl
set_option maxRecDepth 100000 in
theorem k_366 : (Cond.methodLink "LoanDeskLaw" 12 y_iF) ∈ bgT := List.mem_of_getElem? (i := 366) rfl
set_option maxRecDepth 100000 in
theorem k_367 : (Cond.instanceMethod y_iF) ∈ bgT := List.mem_of_getElem? (i := 367) rfl
set_option maxRecDepth 100000 in
theorem k_368 : (Cond.code y_iF prog_9_method_1_code 1 none) ∈ bgT := List.mem_of_getElem? (i := 368) rfl
set_option maxRecDepth 100000 in
theorem k_369 : (Cond.methodLink "LoanDeskModel" 1 objectInit) ∈ bgT := List.mem_of_getElem? (i := 369) rfl
set_option maxRecDepth 100000 in
theorem k_370 : (Cond.fieldLink "LoanDeskModel" 44 "LoanDeskModel" "points" "I") ∈ bgT := List.mem_of_getElem? (i := 370) rfl
set_option maxRecDepth 100000 in
theorem k_371 : (Cond.fieldLink "LoanDeskModel" 7 "LoanDeskModel" "doings" "[I") ∈ bgT := List.mem_of_getElem? (i := 371) rfl
set_option maxRecDepth 100000 in
theorem k_372 : (Cond.fieldLink "LoanDeskModel" 13 "LoanDeskModel" "as" "[I") ∈ bgT := List.mem_of_getElem? (i := 372) rfl
set_option maxRecDepth 100000 in
theorem k_373 : (Cond.fieldLink "LoanDeskModel" 16 "LoanDeskModel" "bs" "[I") ∈ bgT := List.mem_of_getElem? (i := 373) rfl
set_option maxRecDepth 100000 in
theorem k_374 : (Cond.fieldLink "LoanDeskModel" 19 "LoanDeskModel" "cs" "[I") ∈ bgT := List.mem_of_getElem? (i := 374) rfl
set_option maxRecDepth 100000 in
theorem k_375 : (Cond.fieldLink "LoanDeskModel" 22 "LoanDeskModel" "xs" "[I") ∈ bgT := List.mem_of_getElem? (i := 375) rfl
set_option maxRecDepth 100000 in
theorem k_376 : (Cond.fieldLink "LoanDeskModel" 25 "LoanDeskModel" "ys" "[I") ∈ bgT := List.mem_of_getElem? (i := 376) rfl
set_option maxRecDepth 100000 in
theorem k_377 : (Cond.fieldLink "LoanDeskModel" 55 "LoanDeskModel" "known" "Z") ∈ bgT := List.mem_of_getElem? (i := 377) rfl
set_option maxRecDepth 100000 in
theorem k_378 : (Cond.fieldLink "LoanDeskModel" 28 "LoanDeskModel" "reached" "[Z") ∈ bgT := List.mem_of_getElem? (i := 378) rfl
set_option maxRecDepth 100000 in
theorem k_379 : (Cond.fieldLink "LoanDeskModel" 32 "LoanDeskModel" "later" "[I") ∈ bgT := List.mem_of_getElem? (i := 379) rfl
set_option maxRecDepth 100000 in
theorem k_380 : (Cond.fieldLink "LoanDeskModel" 35 "LoanDeskModel" "holds" "[I") ∈ bgT := List.mem_of_getElem? (i := 380) rfl
set_option maxRecDepth 100000 in
theorem k_381 : (Cond.fieldLink "LoanDeskModel" 38 "LoanDeskModel" "pile" "[I") ∈ bgT := List.mem_of_getElem? (i := 381) rfl
set_option maxRecDepth 100000 in
theorem k_382 : (Cond.fieldLink "LoanDeskModel" 41 "LoanDeskModel" "seen" "[Z") ∈ bgT := List.mem_of_getElem? (i := 382) rfl
set_option maxRecDepth 100000 in
theorem k_383 : (Cond.fieldLink "LoanDeskModel" 59 "LoanDeskModel" "high" "I") ∈ bgT := List.mem_of_getElem? (i := 383) rfl
set_option maxRecDepth 100000 in
theorem k_384 : (Cond.lays "LoanDeskModel" "LoanDeskModel" "points" "I") ∈ bgT := List.mem_of_getElem? (i := 384) rfl
set_option maxRecDepth 100000 in
theorem k_385 : (Cond.laysFinal "LoanDeskModel" "LoanDeskModel" "doings" "[I") ∈ bgT := List.mem_of_getElem? (i := 385) rfl
set_option maxRecDepth 100000 in
theorem k_386 : (Cond.laysFinal "LoanDeskModel" "LoanDeskModel" "as" "[I") ∈ bgT := List.mem_of_getElem? (i := 386) rfl
set_option maxRecDepth 100000 in
theorem k_387 : (Cond.laysFinal "LoanDeskModel" "LoanDeskModel" "bs" "[I") ∈ bgT := List.mem_of_getElem? (i := 387) rfl
set_option maxRecDepth 100000 in
theorem k_388 : (Cond.laysFinal "LoanDeskModel" "LoanDeskModel" "cs" "[I") ∈ bgT := List.mem_of_getElem? (i := 388) rfl
set_option maxRecDepth 100000 in
theorem k_389 : (Cond.laysFinal "LoanDeskModel" "LoanDeskModel" "xs" "[I") ∈ bgT := List.mem_of_getElem? (i := 389) rfl
set_option maxRecDepth 100000 in
theorem k_390 : (Cond.laysFinal "LoanDeskModel" "LoanDeskModel" "ys" "[I") ∈ bgT := List.mem_of_getElem? (i := 390) rfl
set_option maxRecDepth 100000 in
theorem k_391 : (Cond.lays "LoanDeskModel" "LoanDeskModel" "known" "Z") ∈ bgT := List.mem_of_getElem? (i := 391) rfl
set_option maxRecDepth 100000 in
theorem k_392 : (Cond.laysFinal "LoanDeskModel" "LoanDeskModel" "reached" "[Z") ∈ bgT := List.mem_of_getElem? (i := 392) rfl
set_option maxRecDepth 100000 in
theorem k_393 : (Cond.laysFinal "LoanDeskModel" "LoanDeskModel" "later" "[I") ∈ bgT := List.mem_of_getElem? (i := 393) rfl
set_option maxRecDepth 100000 in
theorem k_394 : (Cond.laysFinal "LoanDeskModel" "LoanDeskModel" "holds" "[I") ∈ bgT := List.mem_of_getElem? (i := 394) rfl
set_option maxRecDepth 100000 in
theorem k_395 : (Cond.laysFinal "LoanDeskModel" "LoanDeskModel" "pile" "[I") ∈ bgT := List.mem_of_getElem? (i := 395) rfl
set_option maxRecDepth 100000 in
theorem k_396 : (Cond.laysFinal "LoanDeskModel" "LoanDeskModel" "seen" "[Z") ∈ bgT := List.mem_of_getElem? (i := 396) rfl
set_option maxRecDepth 100000 in
theorem k_397 : (Cond.lays "LoanDeskModel" "LoanDeskModel" "high" "I") ∈ bgT := List.mem_of_getElem? (i := 397) rfl
set_option maxRecDepth 100000 in
theorem k_398 : (Cond.methodLink "LoanDeskLaw" 17 y_fpoint) ∈ bgT := List.mem_of_getElem? (i := 398) rfl
set_option maxRecDepth 100000 in
theorem k_399 : (Cond.instanceMethod y_fpoint) ∈ bgT := List.mem_of_getElem? (i := 399) rfl
set_option maxRecDepth 100000 in
theorem k_400 : (Cond.selects "LoanDeskModel" y_fpoint y_fpoint) ∈ bgT := List.mem_of_getElem? (i := 400) rfl
set_option maxRecDepth 100000 in
theorem k_401 : (Cond.code y_fpoint prog_9_method_4_code 6 (some .int)) ∈ bgT := List.mem_of_getElem? (i := 401) rfl
set_option maxRecDepth 100000 in
theorem k_402 : (Cond.methodLink "LoanDeskModel" 48 y_fIsRef) ∈ bgT := List.mem_of_getElem? (i := 402) rfl
set_option maxRecDepth 100000 in
theorem k_403 : (Cond.static y_fIsRef) ∈ bgT := List.mem_of_getElem? (i := 403) rfl
set_option maxRecDepth 100000 in
theorem k_404 : (Cond.code y_fIsRef prog_9_method_2_code 1 (some .boolean)) ∈ bgT := List.mem_of_getElem? (i := 404) rfl
set_option maxRecDepth 100000 in
theorem k_405 : (Cond.methodLink "LoanDeskModel" 52 y_fIsPlace) ∈ bgT := List.mem_of_getElem? (i := 405) rfl
set_option maxRecDepth 100000 in
theorem k_406 : (Cond.static y_fIsPlace) ∈ bgT := List.mem_of_getElem? (i := 406) rfl
set_option maxRecDepth 100000 in
theorem k_407 : (Cond.code y_fIsPlace prog_9_method_3_code 4 (some .boolean)) ∈ bgT := List.mem_of_getElem? (i := 407) rfl
set_option maxRecDepth 100000 in
theorem k_408 : (Cond.methodLink "LoanDeskLaw" 22 y_fnext) ∈ bgT := List.mem_of_getElem? (i := 408) rfl
set_option maxRecDepth 100000 in
theorem k_409 : (Cond.instanceMethod y_fnext) ∈ bgT := List.mem_of_getElem? (i := 409) rfl
set_option maxRecDepth 100000 in
theorem k_410 : (Cond.selects "LoanDeskModel" y_fnext y_fnext) ∈ bgT := List.mem_of_getElem? (i := 410) rfl
set_option maxRecDepth 100000 in
theorem k_411 : (Cond.code y_fnext prog_9_method_5_code 4 (some .boolean)) ∈ bgT := List.mem_of_getElem? (i := 411) rfl
set_option maxRecDepth 100000 in
theorem k_412 : (Cond.methodLink "LoanDeskLaw" 27 y_fIsReached) ∈ bgT := List.mem_of_getElem? (i := 412) rfl
set_option maxRecDepth 100000 in
theorem k_413 : (Cond.instanceMethod y_fIsReached) ∈ bgT := List.mem_of_getElem? (i := 413) rfl
set_option maxRecDepth 100000 in
theorem k_414 : (Cond.selects "LoanDeskModel" y_fIsReached y_fIsReached) ∈ bgT := List.mem_of_getElem? (i := 414) rfl
set_option maxRecDepth 100000 in
theorem k_415 : (Cond.code y_fIsReached prog_9_method_15_code 2 (some .boolean)) ∈ bgT := List.mem_of_getElem? (i := 415) rfl
set_option maxRecDepth 100000 in
theorem k_416 : (Cond.methodLink "LoanDeskModel" 89 y_flearn) ∈ bgT := List.mem_of_getElem? (i := 416) rfl
set_option maxRecDepth 100000 in
theorem k_417 : (Cond.instanceMethod y_flearn) ∈ bgT := List.mem_of_getElem? (i := 417) rfl
set_option maxRecDepth 100000 in
theorem k_418 : (Cond.code y_flearn prog_9_method_14_code 3 none) ∈ bgT := List.mem_of_getElem? (i := 418) rfl
set_option maxRecDepth 100000 in
theorem k_419 : (Cond.methodLink "LoanDeskModel" 73 y_fforget) ∈ bgT := List.mem_of_getElem? (i := 419) rfl
set_option maxRecDepth 100000 in
theorem k_420 : (Cond.instanceMethod y_fforget) ∈ bgT := List.mem_of_getElem? (i := 420) rfl
set_option maxRecDepth 100000 in
theorem k_421 : (Cond.code y_fforget prog_9_method_7_code 2 none) ∈ bgT := List.mem_of_getElem? (i := 421) rfl
set_option maxRecDepth 100000 in
theorem k_422 : (Cond.methodLink "LoanDeskModel" 69 y_fmeet) ∈ bgT := List.mem_of_getElem? (i := 422) rfl
set_option maxRecDepth 100000 in
theorem k_423 : (Cond.instanceMethod y_fmeet) ∈ bgT := List.mem_of_getElem? (i := 423) rfl
set_option maxRecDepth 100000 in
theorem k_424 : (Cond.code y_fmeet prog_9_method_8_code 3 none) ∈ bgT := List.mem_of_getElem? (i := 424) rfl
set_option maxRecDepth 100000 in
theorem k_425 : (Cond.methodLink "LoanDeskModel" 62 y_fIsPoint) ∈ bgT := List.mem_of_getElem? (i := 425) rfl
set_option maxRecDepth 100000 in
theorem k_426 : (Cond.instanceMethod y_fIsPoint) ∈ bgT := List.mem_of_getElem? (i := 426) rfl
set_option maxRecDepth 100000 in
theorem k_427 : (Cond.code y_fIsPoint prog_9_method_6_code 2 (some .boolean)) ∈ bgT := List.mem_of_getElem? (i := 427) rfl
set_option maxRecDepth 100000 in
theorem k_428 : (Cond.methodLink "LoanDeskModel" 82 y_fIsUsed) ∈ bgT := List.mem_of_getElem? (i := 428) rfl
set_option maxRecDepth 100000 in
theorem k_429 : (Cond.instanceMethod y_fIsUsed) ∈ bgT := List.mem_of_getElem? (i := 429) rfl
set_option maxRecDepth 100000 in
theorem k_430 : (Cond.code y_fIsUsed prog_9_method_13_code 4 (some .boolean)) ∈ bgT := List.mem_of_getElem? (i := 430) rfl
set_option maxRecDepth 100000 in
theorem k_431 : (Cond.methodLink "LoanDeskModel" 79 y_fuses) ∈ bgT := List.mem_of_getElem? (i := 431) rfl
set_option maxRecDepth 100000 in
theorem k_432 : (Cond.instanceMethod y_fuses) ∈ bgT := List.mem_of_getElem? (i := 432) rfl
set_option maxRecDepth 100000 in
theorem k_433 : (Cond.code y_fuses prog_9_method_10_code 3 (some .boolean)) ∈ bgT := List.mem_of_getElem? (i := 433) rfl
set_option maxRecDepth 100000 in
theorem k_434 : (Cond.methodLink "LoanDeskModel" 65 y_fchanges) ∈ bgT := List.mem_of_getElem? (i := 434) rfl
set_option maxRecDepth 100000 in
theorem k_435 : (Cond.instanceMethod y_fchanges) ∈ bgT := List.mem_of_getElem? (i := 435) rfl
set_option maxRecDepth 100000 in
theorem k_436 : (Cond.code y_fchanges prog_9_method_9_code 3 (some .boolean)) ∈ bgT := List.mem_of_getElem? (i := 436) rfl
set_option maxRecDepth 100000 in
theorem k_437 : (Cond.methodLink "LoanDeskModel" 85 y_fgoAll) ∈ bgT := List.mem_of_getElem? (i := 437) rfl
set_option maxRecDepth 100000 in
theorem k_438 : (Cond.instanceMethod y_fgoAll) ∈ bgT := List.mem_of_getElem? (i := 438) rfl
set_option maxRecDepth 100000 in
theorem k_439 : (Cond.code y_fgoAll prog_9_method_12_code 4 none) ∈ bgT := List.mem_of_getElem? (i := 439) rfl
set_option maxRecDepth 100000 in
theorem k_440 : (Cond.methodLink "LoanDeskModel" 76 y_fthrough) ∈ bgT := List.mem_of_getElem? (i := 440) rfl
set_option maxRecDepth 100000 in
theorem k_441 : (Cond.instanceMethod y_fthrough) ∈ bgT := List.mem_of_getElem? (i := 441) rfl
set_option maxRecDepth 100000 in
theorem k_442 : (Cond.code y_fthrough prog_9_method_11_code 3 none) ∈ bgT := List.mem_of_getElem? (i := 442) rfl
set_option maxRecDepth 100000 in
theorem k_443 : (Cond.methodLink "LoanDeskLaw" 32 y_fholders) ∈ bgT := List.mem_of_getElem? (i := 443) rfl
set_option maxRecDepth 100000 in
theorem k_444 : (Cond.instanceMethod y_fholders) ∈ bgT := List.mem_of_getElem? (i := 444) rfl
set_option maxRecDepth 100000 in
theorem k_445 : (Cond.selects "LoanDeskModel" y_fholders y_fholders) ∈ bgT := List.mem_of_getElem? (i := 445) rfl
set_option maxRecDepth 100000 in
theorem k_446 : (Cond.code y_fholders prog_9_method_16_code 3 (some .int)) ∈ bgT := List.mem_of_getElem? (i := 446) rfl
set_option maxRecDepth 100000 in
theorem k_447 : (Cond.methodLink "LoanDeskLaw" 37 y_fused) ∈ bgT := List.mem_of_getElem? (i := 447) rfl
set_option maxRecDepth 100000 in
theorem k_448 : (Cond.instanceMethod y_fused) ∈ bgT := List.mem_of_getElem? (i := 448) rfl
set_option maxRecDepth 100000 in
theorem k_449 : (Cond.selects "LoanDeskModel" y_fused y_fused) ∈ bgT := List.mem_of_getElem? (i := 449) rfl
set_option maxRecDepth 100000 in
theorem k_450 : (Cond.code y_fused prog_9_method_17_code 2 (some .int)) ∈ bgT := List.mem_of_getElem? (i := 450) rfl
set_option maxRecDepth 100000 in
theorem k_451 : (Cond.methodLink "LoanDeskLaw" 42 y_fIsAlive) ∈ bgT := List.mem_of_getElem? (i := 451) rfl
set_option maxRecDepth 100000 in
theorem k_452 : (Cond.instanceMethod y_fIsAlive) ∈ bgT := List.mem_of_getElem? (i := 452) rfl
set_option maxRecDepth 100000 in
theorem k_453 : (Cond.selects "LoanDeskModel" y_fIsAlive y_fIsAlive) ∈ bgT := List.mem_of_getElem? (i := 453) rfl
set_option maxRecDepth 100000 in
theorem k_454 : (Cond.code y_fIsAlive prog_9_method_18_code 3 (some .boolean)) ∈ bgT := List.mem_of_getElem? (i := 454) rfl
set_option maxRecDepth 100000 in
theorem k_455 : (Cond.methodLink "LoanDeskModel" 92 y_fholders) ∈ bgT := List.mem_of_getElem? (i := 455) rfl
set_option maxRecDepth 100000 in
theorem k_456 : (Cond.methodLink "LoanDeskModel" 96 y_fused) ∈ bgT := List.mem_of_getElem? (i := 456) rfl
set_option maxRecDepth 100000 in
theorem k_457 : (Cond.methodLink "LoanDeskLaw" 46 y_fmet) ∈ bgT := List.mem_of_getElem? (i := 457) rfl
set_option maxRecDepth 100000 in
theorem k_458 : (Cond.instanceMethod y_fmet) ∈ bgT := List.mem_of_getElem? (i := 458) rfl
set_option maxRecDepth 100000 in
theorem k_459 : (Cond.selects "LoanDeskModel" y_fmet y_fmet) ∈ bgT := List.mem_of_getElem? (i := 459) rfl
set_option maxRecDepth 100000 in
theorem k_460 : (Cond.code y_fmet prog_9_method_21_code 5 (some .int)) ∈ bgT := List.mem_of_getElem? (i := 460) rfl
set_option maxRecDepth 100000 in
theorem k_461 : (Cond.methodLink "LoanDeskModel" 109 y_fmeets) ∈ bgT := List.mem_of_getElem? (i := 461) rfl
set_option maxRecDepth 100000 in
theorem k_462 : (Cond.instanceMethod y_fmeets) ∈ bgT := List.mem_of_getElem? (i := 462) rfl
set_option maxRecDepth 100000 in
theorem k_463 : (Cond.code y_fmeets prog_9_method_20_code 5 (some .boolean)) ∈ bgT := List.mem_of_getElem? (i := 463) rfl
set_option maxRecDepth 100000 in
theorem k_464 : (Cond.methodLink "LoanDeskModel" 100 y_fIsReached) ∈ bgT := List.mem_of_getElem? (i := 464) rfl
set_option maxRecDepth 100000 in
theorem k_465 : (Cond.methodLink "LoanDeskModel" 103 y_fIsAlive) ∈ bgT := List.mem_of_getElem? (i := 465) rfl
set_option maxRecDepth 100000 in
theorem k_466 : (Cond.methodLink "LoanDeskModel" 106 y_foverlap) ∈ bgT := List.mem_of_getElem? (i := 466) rfl
set_option maxRecDepth 100000 in
theorem k_467 : (Cond.static y_foverlap) ∈ bgT := List.mem_of_getElem? (i := 467) rfl
set_option maxRecDepth 100000 in
theorem k_468 : (Cond.code y_foverlap prog_9_method_19_code 4 (some .boolean)) ∈ bgT := List.mem_of_getElem? (i := 468) rfl
set_option maxRecDepth 100000 in
theorem k_469 : (Cond.methodLink "LoanDeskLaw" 50 y_fcount) ∈ bgT := List.mem_of_getElem? (i := 469) rfl
set_option maxRecDepth 100000 in
theorem k_470 : (Cond.instanceMethod y_fcount) ∈ bgT := List.mem_of_getElem? (i := 470) rfl
set_option maxRecDepth 100000 in
theorem k_471 : (Cond.selects "LoanDeskModel" y_fcount y_fcount) ∈ bgT := List.mem_of_getElem? (i := 471) rfl
set_option maxRecDepth 100000 in
theorem k_472 : (Cond.code y_fcount prog_9_method_22_code 8 (some .int)) ∈ bgT := List.mem_of_getElem? (i := 472) rfl
set_option maxRecDepth 100000 in
theorem k_473 : (Cond.methodLink "LoanDeskModel" 112 y_fmet) ∈ bgT := List.mem_of_getElem? (i := 473) rfl
set_option maxRecDepth 100000 in
theorem k_474 : (Cond.methodLink "LoanDeskLaw" 55 y_fclear) ∈ bgT := List.mem_of_getElem? (i := 474) rfl
set_option maxRecDepth 100000 in
theorem k_475 : (Cond.instanceMethod y_fclear) ∈ bgT := List.mem_of_getElem? (i := 475) rfl
set_option maxRecDepth 100000 in
theorem k_476 : (Cond.selects "LoanDeskModel" y_fclear y_fclear) ∈ bgT := List.mem_of_getElem? (i := 476) rfl
set_option maxRecDepth 100000 in
theorem k_477 : (Cond.code y_fclear prog_9_method_23_code 2 (some .int)) ∈ bgT := List.mem_of_getElem? (i := 477) rfl
def ld_nwT : List (String × Nat × MethodName × String) := [("LoanDesk", 9, y_iG, "LoanDesk"), ("LoanDesk", 18, y_iR, "LoanDesk"), ("LoanDesk$Reach", 17, y_iP, "LoanDesk"), ("LoanDesk", 25, y_iU, "LoanDesk"), ("LoanDesk", 32, y_iH, "LoanDesk"), ("LoanDesk$Holding", 20, y_iP, "LoanDesk"), ("LoanDesk", 39, y_iM, "LoanDesk"), ("LoanDesk$Reach", 22, y_isIndex, "LoanDesk"), ("LoanDesk$Pile", 23, y_isIndex, "LoanDesk"), ("LoanDesk$Uses", 15, y_isIndex, "LoanDesk"), ("LoanDesk$Holding", 25, y_isIndex, "LoanDesk"), ("LoanDesk$Meetings", 21, y_isIndex, "LoanDesk")]
def ld_nwc (q : String × Nat × MethodName × String) : Cond := .methodLinkNest q.1 q.2.1 q.2.2.1 q.2.2.2
def ld_nw (U : State) : Prop := ∀ q ∈ ld_nwT, va_Nw (ld_nwc q) U
theorem ld_nwm (i : Nat) {q : String × Nat × MethodName × String} (h : ld_nwT[i]? = some q) : q ∈ ld_nwT := List.mem_of_getElem? h
theorem ld_nw_warm {s U : State} (hW : s.WarmedH U.vm) (h : ld_nw s) : ld_nw U := fun q hq => va_Nw.warmM hW (h q hq)
theorem ld_nw_same {u U : State} (e : u.vm = U.vm) (h : ld_nw u) : ld_nw U := fun q hq => va_Nw.same rfl e (h q hq)
def T_Graph : u_T := fun k => match k with
  | 0 => ("LoanDesk$Graph", "doings", "[I", true)
  | 1 => ("LoanDesk$Graph", "as", "[I", true)
  | 2 => ("LoanDesk$Graph", "bs", "[I", true)
  | 3 => ("LoanDesk$Graph", "cs", "[I", true)
  | 4 => ("LoanDesk$Graph", "xs", "[I", true)
  | 5 => ("LoanDesk$Graph", "ys", "[I", true)
  | _ => ("LoanDesk$Graph", "size", "I", false)
def t_Graph : Nat → FieldType := fun k => match k with
  | 0 => .array .int
  | 1 => .array .int
  | 2 => .array .int
  | 3 => .array .int
  | 4 => .array .int
  | 5 => .array .int
  | _ => .int
theorem n_Graph : ∀ a, a < 7 → ∀ b, b < 7 → a ≠ b → (T_Graph a).2.1 ≠ (T_Graph b).2.1 := by decide +kernel
theorem tk_Graph : ∀ k, k < 7 → parseFieldDescriptor (T_Graph k).2.2.1 = some (t_Graph k) := by decide +kernel
theorem u_Graph : ∀ w ∈ u_ws "LoanDesk$Graph" T_Graph 7, w ∈ bgT := by decide +kernel
def T_Pile : u_T := fun k => match k with
  | 0 => ("LoanDesk$Pile", "points", "[I", true)
  | 1 => ("LoanDesk$Pile", "isIn", "[Z", true)
  | _ => ("LoanDesk$Pile", "size", "I", false)
def t_Pile : Nat → FieldType := fun k => match k with
  | 0 => .array .int
  | 1 => .array .boolean
  | _ => .int
theorem n_Pile : ∀ a, a < 3 → ∀ b, b < 3 → a ≠ b → (T_Pile a).2.1 ≠ (T_Pile b).2.1 := by decide +kernel
theorem tk_Pile : ∀ k, k < 3 → parseFieldDescriptor (T_Pile k).2.2.1 = some (t_Pile k) := by decide +kernel
theorem u_Pile : ∀ w ∈ u_ws "LoanDesk$Pile" T_Pile 3, w ∈ bgT := by decide +kernel
def T_Reach : u_T := fun k => match k with
  | 0 => ("LoanDesk$Reach", "reached", "[I", true)
  | _ => ("LoanDesk$Reach", "pile", "LLoanDesk$Pile;", true)
def t_Reach : Nat → FieldType := fun k => match k with
  | 0 => .array .int
  | _ => .object "LoanDesk$Pile"
theorem n_Reach : ∀ a, a < 2 → ∀ b, b < 2 → a ≠ b → (T_Reach a).2.1 ≠ (T_Reach b).2.1 := by decide +kernel
theorem tk_Reach : ∀ k, k < 2 → parseFieldDescriptor (T_Reach k).2.2.1 = some (t_Reach k) := by decide +kernel
theorem u_Reach : ∀ w ∈ u_ws "LoanDesk$Reach" T_Reach 2, w ∈ bgT := by decide +kernel
def T_Uses : u_T := fun k => match k with
  | _ => ("LoanDesk$Uses", "later", "[I", true)
def t_Uses : Nat → FieldType := fun k => match k with
  | _ => .array .int
theorem n_Uses : ∀ a, a < 1 → ∀ b, b < 1 → a ≠ b → (T_Uses a).2.1 ≠ (T_Uses b).2.1 := by decide +kernel
theorem tk_Uses : ∀ k, k < 1 → parseFieldDescriptor (T_Uses k).2.2.1 = some (t_Uses k) := by decide +kernel
theorem u_Uses : ∀ w ∈ u_ws "LoanDesk$Uses" T_Uses 1, w ∈ bgT := by decide +kernel
def T_Holding : u_T := fun k => match k with
  | 0 => ("LoanDesk$Holding", "ahead", "[I", true)
  | 1 => ("LoanDesk$Holding", "behind", "[I", true)
  | _ => ("LoanDesk$Holding", "pile", "LLoanDesk$Pile;", true)
def t_Holding : Nat → FieldType := fun k => match k with
  | 0 => .array .int
  | 1 => .array .int
  | _ => .object "LoanDesk$Pile"
theorem n_Holding : ∀ a, a < 3 → ∀ b, b < 3 → a ≠ b → (T_Holding a).2.1 ≠ (T_Holding b).2.1 := by decide +kernel
theorem tk_Holding : ∀ k, k < 3 → parseFieldDescriptor (T_Holding k).2.2.1 = some (t_Holding k) := by decide +kernel
theorem u_Holding : ∀ w ∈ u_ws "LoanDesk$Holding" T_Holding 3, w ∈ bgT := by decide +kernel
def T_Meetings : u_T := fun k => match k with
  | _ => ("LoanDesk$Meetings", "words", "[J", true)
def t_Meetings : Nat → FieldType := fun k => match k with
  | _ => .array .long
theorem n_Meetings : ∀ a, a < 1 → ∀ b, b < 1 → a ≠ b → (T_Meetings a).2.1 ≠ (T_Meetings b).2.1 := by decide +kernel
theorem tk_Meetings : ∀ k, k < 1 → parseFieldDescriptor (T_Meetings k).2.2.1 = some (t_Meetings k) := by decide +kernel
theorem u_Meetings : ∀ w ∈ u_ws "LoanDesk$Meetings" T_Meetings 1, w ∈ bgT := by decide +kernel
def T_Desk : u_T := fun k => match k with
  | 0 => ("LoanDesk", "graph", "LLoanDesk$Graph;", true)
  | 1 => ("LoanDesk", "reach", "LLoanDesk$Reach;", true)
  | 2 => ("LoanDesk", "uses", "LLoanDesk$Uses;", true)
  | 3 => ("LoanDesk", "holding", "LLoanDesk$Holding;", true)
  | 4 => ("LoanDesk", "meetings", "LLoanDesk$Meetings;", true)
  | 5 => ("LoanDesk", "waysKnown", "Z", false)
  | _ => ("LoanDesk", "meetingsKnown", "Z", false)
def t_Desk : Nat → FieldType := fun k => match k with
  | 0 => .object "LoanDesk$Graph"
  | 1 => .object "LoanDesk$Reach"
  | 2 => .object "LoanDesk$Uses"
  | 3 => .object "LoanDesk$Holding"
  | 4 => .object "LoanDesk$Meetings"
  | 5 => .boolean
  | _ => .boolean
theorem n_Desk : ∀ a, a < 7 → ∀ b, b < 7 → a ≠ b → (T_Desk a).2.1 ≠ (T_Desk b).2.1 := by decide +kernel
theorem tk_Desk : ∀ k, k < 7 → parseFieldDescriptor (T_Desk k).2.2.1 = some (t_Desk k) := by decide +kernel
theorem u_Desk : ∀ w ∈ u_ws "LoanDesk" T_Desk 7, w ∈ bgT := by decide +kernel
def T_Ref : u_T := fun k => match k with
  | 0 => ("LoanDeskModel", "points", "I", false)
  | 1 => ("LoanDeskModel", "doings", "[I", true)
  | 2 => ("LoanDeskModel", "as", "[I", true)
  | 3 => ("LoanDeskModel", "bs", "[I", true)
  | 4 => ("LoanDeskModel", "cs", "[I", true)
  | 5 => ("LoanDeskModel", "xs", "[I", true)
  | 6 => ("LoanDeskModel", "ys", "[I", true)
  | 7 => ("LoanDeskModel", "known", "Z", false)
  | 8 => ("LoanDeskModel", "reached", "[Z", true)
  | 9 => ("LoanDeskModel", "later", "[I", true)
  | 10 => ("LoanDeskModel", "holds", "[I", true)
  | 11 => ("LoanDeskModel", "pile", "[I", true)
  | 12 => ("LoanDeskModel", "seen", "[Z", true)
  | _ => ("LoanDeskModel", "high", "I", false)
def t_Ref : Nat → FieldType := fun k => match k with
  | 0 => .int
  | 1 => .array .int
  | 2 => .array .int
  | 3 => .array .int
  | 4 => .array .int
  | 5 => .array .int
  | 6 => .array .int
  | 7 => .boolean
  | 8 => .array .boolean
  | 9 => .array .int
  | 10 => .array .int
  | 11 => .array .int
  | 12 => .array .boolean
  | _ => .int
theorem n_Ref : ∀ a, a < 14 → ∀ b, b < 14 → a ≠ b → (T_Ref a).2.1 ≠ (T_Ref b).2.1 := by decide +kernel
theorem tk_Ref : ∀ k, k < 14 → parseFieldDescriptor (T_Ref k).2.2.1 = some (t_Ref k) := by decide +kernel
theorem u_Ref : ∀ w ∈ u_ws "LoanDeskModel" T_Ref 14, w ∈ bgT := by decide +kernel
abbrev vwCl : List vw_C := [("LoanDesk$Graph", T_Graph, 7), ("LoanDesk$Pile", T_Pile, 3), ("LoanDesk$Reach", T_Reach, 2), ("LoanDesk$Uses", T_Uses, 1), ("LoanDesk$Holding", T_Holding, 3), ("LoanDesk$Meetings", T_Meetings, 1), ("LoanDesk", T_Desk, 7), ("LoanDeskModel", T_Ref, 14)]
theorem hd_add : y_add.cls ≠ "java/lang/invoke/MethodHandle" ∧ y_add.cls ≠ "java/lang/invoke/VarHandle" ∧ (parseMethodDescriptor y_add.desc).map (fun d => d.parameters.length) = some 4 := by decide +kernel
theorem hd_addMeet : y_addMeet.cls ≠ "java/lang/invoke/MethodHandle" ∧ y_addMeet.cls ≠ "java/lang/invoke/VarHandle" ∧ (parseMethodDescriptor y_addMeet.desc).map (fun d => d.parameters.length) = some 1 := by decide +kernel
theorem hd_arrive : y_arrive.cls ≠ "java/lang/invoke/MethodHandle" ∧ y_arrive.cls ≠ "java/lang/invoke/VarHandle" ∧ (parseMethodDescriptor y_arrive.desc).map (fun d => d.parameters.length) = some 2 := by decide +kernel
theorem hd_borrowing : y_borrowing.cls ≠ "java/lang/invoke/MethodHandle" ∧ y_borrowing.cls ≠ "java/lang/invoke/VarHandle" ∧ (parseMethodDescriptor y_borrowing.desc).map (fun d => d.parameters.length) = some 1 := by decide +kernel
theorem hd_clear : y_clear.cls ≠ "java/lang/invoke/MethodHandle" ∧ y_clear.cls ≠ "java/lang/invoke/VarHandle" ∧ (parseMethodDescriptor y_clear.desc).map (fun d => d.parameters.length) = some 0 := by decide +kernel
theorem hd_comesTo : y_comesTo.cls ≠ "java/lang/invoke/MethodHandle" ∧ y_comesTo.cls ≠ "java/lang/invoke/VarHandle" ∧ (parseMethodDescriptor y_comesTo.desc).map (fun d => d.parameters.length) = some 1 := by decide +kernel
theorem hd_count : y_count.cls ≠ "java/lang/invoke/MethodHandle" ∧ y_count.cls ≠ "java/lang/invoke/VarHandle" ∧ (parseMethodDescriptor y_count.desc).map (fun d => d.parameters.length) = some 1 := by decide +kernel
theorem hd_countLoans : y_countLoans.cls ≠ "java/lang/invoke/MethodHandle" ∧ y_countLoans.cls ≠ "java/lang/invoke/VarHandle" ∧ (parseMethodDescriptor y_countLoans.desc).map (fun d => d.parameters.length) = some 0 := by decide +kernel
theorem hd_fIsAlive : y_fIsAlive.cls ≠ "java/lang/invoke/MethodHandle" ∧ y_fIsAlive.cls ≠ "java/lang/invoke/VarHandle" ∧ (parseMethodDescriptor y_fIsAlive.desc).map (fun d => d.parameters.length) = some 2 := by decide +kernel
theorem hd_fIsPlace : y_fIsPlace.cls ≠ "java/lang/invoke/MethodHandle" ∧ y_fIsPlace.cls ≠ "java/lang/invoke/VarHandle" ∧ (parseMethodDescriptor y_fIsPlace.desc).map (fun d => d.parameters.length) = some 1 := by decide +kernel
theorem hd_fIsPoint : y_fIsPoint.cls ≠ "java/lang/invoke/MethodHandle" ∧ y_fIsPoint.cls ≠ "java/lang/invoke/VarHandle" ∧ (parseMethodDescriptor y_fIsPoint.desc).map (fun d => d.parameters.length) = some 1 := by decide +kernel
theorem hd_fIsReached : y_fIsReached.cls ≠ "java/lang/invoke/MethodHandle" ∧ y_fIsReached.cls ≠ "java/lang/invoke/VarHandle" ∧ (parseMethodDescriptor y_fIsReached.desc).map (fun d => d.parameters.length) = some 1 := by decide +kernel
theorem hd_fIsRef : y_fIsRef.cls ≠ "java/lang/invoke/MethodHandle" ∧ y_fIsRef.cls ≠ "java/lang/invoke/VarHandle" ∧ (parseMethodDescriptor y_fIsRef.desc).map (fun d => d.parameters.length) = some 1 := by decide +kernel
theorem hd_fIsUsed : y_fIsUsed.cls ≠ "java/lang/invoke/MethodHandle" ∧ y_fIsUsed.cls ≠ "java/lang/invoke/VarHandle" ∧ (parseMethodDescriptor y_fIsUsed.desc).map (fun d => d.parameters.length) = some 2 := by decide +kernel
theorem hd_fchanges : y_fchanges.cls ≠ "java/lang/invoke/MethodHandle" ∧ y_fchanges.cls ≠ "java/lang/invoke/VarHandle" ∧ (parseMethodDescriptor y_fchanges.desc).map (fun d => d.parameters.length) = some 2 := by decide +kernel
theorem hd_fclear : y_fclear.cls ≠ "java/lang/invoke/MethodHandle" ∧ y_fclear.cls ≠ "java/lang/invoke/VarHandle" ∧ (parseMethodDescriptor y_fclear.desc).map (fun d => d.parameters.length) = some 0 := by decide +kernel
theorem hd_fcount : y_fcount.cls ≠ "java/lang/invoke/MethodHandle" ∧ y_fcount.cls ≠ "java/lang/invoke/VarHandle" ∧ (parseMethodDescriptor y_fcount.desc).map (fun d => d.parameters.length) = some 1 := by decide +kernel
theorem hd_fforget : y_fforget.cls ≠ "java/lang/invoke/MethodHandle" ∧ y_fforget.cls ≠ "java/lang/invoke/VarHandle" ∧ (parseMethodDescriptor y_fforget.desc).map (fun d => d.parameters.length) = some 0 := by decide +kernel
theorem hd_fgoAll : y_fgoAll.cls ≠ "java/lang/invoke/MethodHandle" ∧ y_fgoAll.cls ≠ "java/lang/invoke/VarHandle" ∧ (parseMethodDescriptor y_fgoAll.desc).map (fun d => d.parameters.length) = some 1 := by decide +kernel
theorem hd_fholders : y_fholders.cls ≠ "java/lang/invoke/MethodHandle" ∧ y_fholders.cls ≠ "java/lang/invoke/VarHandle" ∧ (parseMethodDescriptor y_fholders.desc).map (fun d => d.parameters.length) = some 2 := by decide +kernel
theorem hd_fillI : y_fillI.cls ≠ "java/lang/invoke/MethodHandle" ∧ y_fillI.cls ≠ "java/lang/invoke/VarHandle" ∧ (parseMethodDescriptor y_fillI.desc).map (fun d => d.parameters.length) = some 2 := by decide +kernel
theorem hd_fillJ : y_fillJ.cls ≠ "java/lang/invoke/MethodHandle" ∧ y_fillJ.cls ≠ "java/lang/invoke/VarHandle" ∧ (parseMethodDescriptor y_fillJ.desc).map (fun d => d.parameters.length) = some 2 := by decide +kernel
theorem hd_findMeet : y_findMeet.cls ≠ "java/lang/invoke/MethodHandle" ∧ y_findMeet.cls ≠ "java/lang/invoke/VarHandle" ∧ (parseMethodDescriptor y_findMeet.desc).map (fun d => d.parameters.length) = some 0 := by decide +kernel
theorem hd_findWays : y_findWays.cls ≠ "java/lang/invoke/MethodHandle" ∧ y_findWays.cls ≠ "java/lang/invoke/VarHandle" ∧ (parseMethodDescriptor y_findWays.desc).map (fun d => d.parameters.length) = some 0 := by decide +kernel
theorem hd_firstNext : y_firstNext.cls ≠ "java/lang/invoke/MethodHandle" ∧ y_firstNext.cls ≠ "java/lang/invoke/VarHandle" ∧ (parseMethodDescriptor y_firstNext.desc).map (fun d => d.parameters.length) = some 1 := by decide +kernel
theorem hd_flearn : y_flearn.cls ≠ "java/lang/invoke/MethodHandle" ∧ y_flearn.cls ≠ "java/lang/invoke/VarHandle" ∧ (parseMethodDescriptor y_flearn.desc).map (fun d => d.parameters.length) = some 0 := by decide +kernel
theorem hd_fmeet : y_fmeet.cls ≠ "java/lang/invoke/MethodHandle" ∧ y_fmeet.cls ≠ "java/lang/invoke/VarHandle" ∧ (parseMethodDescriptor y_fmeet.desc).map (fun d => d.parameters.length) = some 2 := by decide +kernel
theorem hd_fmeets : y_fmeets.cls ≠ "java/lang/invoke/MethodHandle" ∧ y_fmeets.cls ≠ "java/lang/invoke/VarHandle" ∧ (parseMethodDescriptor y_fmeets.desc).map (fun d => d.parameters.length) = some 2 := by decide +kernel
theorem hd_fmet : y_fmet.cls ≠ "java/lang/invoke/MethodHandle" ∧ y_fmet.cls ≠ "java/lang/invoke/VarHandle" ∧ (parseMethodDescriptor y_fmet.desc).map (fun d => d.parameters.length) = some 2 := by decide +kernel
theorem hd_fnext : y_fnext.cls ≠ "java/lang/invoke/MethodHandle" ∧ y_fnext.cls ≠ "java/lang/invoke/VarHandle" ∧ (parseMethodDescriptor y_fnext.desc).map (fun d => d.parameters.length) = some 3 := by decide +kernel
theorem hd_follow : y_follow.cls ≠ "java/lang/invoke/MethodHandle" ∧ y_follow.cls ≠ "java/lang/invoke/VarHandle" ∧ (parseMethodDescriptor y_follow.desc).map (fun d => d.parameters.length) = some 2 := by decide +kernel
theorem hd_forget : y_forget.cls ≠ "java/lang/invoke/MethodHandle" ∧ y_forget.cls ≠ "java/lang/invoke/VarHandle" ∧ (parseMethodDescriptor y_forget.desc).map (fun d => d.parameters.length) = some 0 := by decide +kernel
theorem hd_foverlap : y_foverlap.cls ≠ "java/lang/invoke/MethodHandle" ∧ y_foverlap.cls ≠ "java/lang/invoke/VarHandle" ∧ (parseMethodDescriptor y_foverlap.desc).map (fun d => d.parameters.length) = some 2 := by decide +kernel
theorem hd_fpoint : y_fpoint.cls ≠ "java/lang/invoke/MethodHandle" ∧ y_fpoint.cls ≠ "java/lang/invoke/VarHandle" ∧ (parseMethodDescriptor y_fpoint.desc).map (fun d => d.parameters.length) = some 4 := by decide +kernel
theorem hd_fthrough : y_fthrough.cls ≠ "java/lang/invoke/MethodHandle" ∧ y_fthrough.cls ≠ "java/lang/invoke/VarHandle" ∧ (parseMethodDescriptor y_fthrough.desc).map (fun d => d.parameters.length) = some 2 := by decide +kernel
theorem hd_fused : y_fused.cls ≠ "java/lang/invoke/MethodHandle" ∧ y_fused.cls ≠ "java/lang/invoke/VarHandle" ∧ (parseMethodDescriptor y_fused.desc).map (fun d => d.parameters.length) = some 1 := by decide +kernel
theorem hd_fuses : y_fuses.cls ≠ "java/lang/invoke/MethodHandle" ∧ y_fuses.cls ≠ "java/lang/invoke/VarHandle" ∧ (parseMethodDescriptor y_fuses.desc).map (fun d => d.parameters.length) = some 2 := by decide +kernel
theorem hd_gempty : y_gempty.cls ≠ "java/lang/invoke/MethodHandle" ∧ y_gempty.cls ≠ "java/lang/invoke/VarHandle" ∧ (parseMethodDescriptor y_gempty.desc).map (fun d => d.parameters.length) = some 0 := by decide +kernel
theorem hd_growAll : y_growAll.cls ≠ "java/lang/invoke/MethodHandle" ∧ y_growAll.cls ≠ "java/lang/invoke/VarHandle" ∧ (parseMethodDescriptor y_growAll.desc).map (fun d => d.parameters.length) = some 1 := by decide +kernel
theorem hd_gsize : y_gsize.cls ≠ "java/lang/invoke/MethodHandle" ∧ y_gsize.cls ≠ "java/lang/invoke/VarHandle" ∧ (parseMethodDescriptor y_gsize.desc).map (fun d => d.parameters.length) = some 0 := by decide +kernel
theorem hd_handOn : y_handOn.cls ≠ "java/lang/invoke/MethodHandle" ∧ y_handOn.cls ≠ "java/lang/invoke/VarHandle" ∧ (parseMethodDescriptor y_handOn.desc).map (fun d => d.parameters.length) = some 3 := by decide +kernel
theorem hd_hasRoom : y_hasRoom.cls ≠ "java/lang/invoke/MethodHandle" ∧ y_hasRoom.cls ≠ "java/lang/invoke/VarHandle" ∧ (parseMethodDescriptor y_hasRoom.desc).map (fun d => d.parameters.length) = some 0 := by decide +kernel
theorem hd_hbehind : y_hbehind.cls ≠ "java/lang/invoke/MethodHandle" ∧ y_hbehind.cls ≠ "java/lang/invoke/VarHandle" ∧ (parseMethodDescriptor y_hbehind.desc).map (fun d => d.parameters.length) = some 1 := by decide +kernel
theorem hd_heldBehind : y_heldBehind.cls ≠ "java/lang/invoke/MethodHandle" ∧ y_heldBehind.cls ≠ "java/lang/invoke/VarHandle" ∧ (parseMethodDescriptor y_heldBehind.desc).map (fun d => d.parameters.length) = some 3 := by decide +kernel
theorem hd_holders : y_holders.cls ≠ "java/lang/invoke/MethodHandle" ∧ y_holders.cls ≠ "java/lang/invoke/VarHandle" ∧ (parseMethodDescriptor y_holders.desc).map (fun d => d.parameters.length) = some 2 := by decide +kernel
theorem hd_iD : y_iD.cls ≠ "java/lang/invoke/MethodHandle" ∧ y_iD.cls ≠ "java/lang/invoke/VarHandle" ∧ (parseMethodDescriptor y_iD.desc).map (fun d => d.parameters.length) = some 0 := by decide +kernel
theorem hd_iF : y_iF.cls ≠ "java/lang/invoke/MethodHandle" ∧ y_iF.cls ≠ "java/lang/invoke/VarHandle" ∧ (parseMethodDescriptor y_iF.desc).map (fun d => d.parameters.length) = some 0 := by decide +kernel
theorem hd_iG : y_iG.cls ≠ "java/lang/invoke/MethodHandle" ∧ y_iG.cls ≠ "java/lang/invoke/VarHandle" ∧ (parseMethodDescriptor y_iG.desc).map (fun d => d.parameters.length) = some 0 := by decide +kernel
theorem hd_iH : y_iH.cls ≠ "java/lang/invoke/MethodHandle" ∧ y_iH.cls ≠ "java/lang/invoke/VarHandle" ∧ (parseMethodDescriptor y_iH.desc).map (fun d => d.parameters.length) = some 0 := by decide +kernel
theorem hd_iM : y_iM.cls ≠ "java/lang/invoke/MethodHandle" ∧ y_iM.cls ≠ "java/lang/invoke/VarHandle" ∧ (parseMethodDescriptor y_iM.desc).map (fun d => d.parameters.length) = some 0 := by decide +kernel
theorem hd_iP : y_iP.cls ≠ "java/lang/invoke/MethodHandle" ∧ y_iP.cls ≠ "java/lang/invoke/VarHandle" ∧ (parseMethodDescriptor y_iP.desc).map (fun d => d.parameters.length) = some 0 := by decide +kernel
theorem hd_iR : y_iR.cls ≠ "java/lang/invoke/MethodHandle" ∧ y_iR.cls ≠ "java/lang/invoke/VarHandle" ∧ (parseMethodDescriptor y_iR.desc).map (fun d => d.parameters.length) = some 0 := by decide +kernel
theorem hd_iU : y_iU.cls ≠ "java/lang/invoke/MethodHandle" ∧ y_iU.cls ≠ "java/lang/invoke/VarHandle" ∧ (parseMethodDescriptor y_iU.desc).map (fun d => d.parameters.length) = some 0 := by decide +kernel
theorem hd_isAlive : y_isAlive.cls ≠ "java/lang/invoke/MethodHandle" ∧ y_isAlive.cls ≠ "java/lang/invoke/VarHandle" ∧ (parseMethodDescriptor y_isAlive.desc).map (fun d => d.parameters.length) = some 2 := by decide +kernel
theorem hd_isAnyAt : y_isAnyAt.cls ≠ "java/lang/invoke/MethodHandle" ∧ y_isAnyAt.cls ≠ "java/lang/invoke/VarHandle" ∧ (parseMethodDescriptor y_isAnyAt.desc).map (fun d => d.parameters.length) = some 1 := by decide +kernel
theorem hd_isAt : y_isAt.cls ≠ "java/lang/invoke/MethodHandle" ∧ y_isAt.cls ≠ "java/lang/invoke/VarHandle" ∧ (parseMethodDescriptor y_isAt.desc).map (fun d => d.parameters.length) = some 2 := by decide +kernel
theorem hd_isChange : y_isChange.cls ≠ "java/lang/invoke/MethodHandle" ∧ y_isChange.cls ≠ "java/lang/invoke/VarHandle" ∧ (parseMethodDescriptor y_isChange.desc).map (fun d => d.parameters.length) = some 1 := by decide +kernel
theorem hd_isDoing : y_isDoing.cls ≠ "java/lang/invoke/MethodHandle" ∧ y_isDoing.cls ≠ "java/lang/invoke/VarHandle" ∧ (parseMethodDescriptor y_isDoing.desc).map (fun d => d.parameters.length) = some 4 := by decide +kernel
theorem hd_isIndex : y_isIndex.cls ≠ "java/lang/invoke/MethodHandle" ∧ y_isIndex.cls ≠ "java/lang/invoke/VarHandle" ∧ (parseMethodDescriptor y_isIndex.desc).map (fun d => d.parameters.length) = some 1 := by decide +kernel
theorem hd_isLoan : y_isLoan.cls ≠ "java/lang/invoke/MethodHandle" ∧ y_isLoan.cls ≠ "java/lang/invoke/VarHandle" ∧ (parseMethodDescriptor y_isLoan.desc).map (fun d => d.parameters.length) = some 1 := by decide +kernel
theorem hd_isLook : y_isLook.cls ≠ "java/lang/invoke/MethodHandle" ∧ y_isLook.cls ≠ "java/lang/invoke/VarHandle" ∧ (parseMethodDescriptor y_isLook.desc).map (fun d => d.parameters.length) = some 1 := by decide +kernel
theorem hd_isNext : y_isNext.cls ≠ "java/lang/invoke/MethodHandle" ∧ y_isNext.cls ≠ "java/lang/invoke/VarHandle" ∧ (parseMethodDescriptor y_isNext.desc).map (fun d => d.parameters.length) = some 1 := by decide +kernel
theorem hd_isPlace : y_isPlace.cls ≠ "java/lang/invoke/MethodHandle" ∧ y_isPlace.cls ≠ "java/lang/invoke/VarHandle" ∧ (parseMethodDescriptor y_isPlace.desc).map (fun d => d.parameters.length) = some 1 := by decide +kernel
theorem hd_isPoint : y_isPoint.cls ≠ "java/lang/invoke/MethodHandle" ∧ y_isPoint.cls ≠ "java/lang/invoke/VarHandle" ∧ (parseMethodDescriptor y_isPoint.desc).map (fun d => d.parameters.length) = some 1 := by decide +kernel
theorem hd_isReached : y_isReached.cls ≠ "java/lang/invoke/MethodHandle" ∧ y_isReached.cls ≠ "java/lang/invoke/VarHandle" ∧ (parseMethodDescriptor y_isReached.desc).map (fun d => d.parameters.length) = some 1 := by decide +kernel
theorem hd_isRef : y_isRef.cls ≠ "java/lang/invoke/MethodHandle" ∧ y_isRef.cls ≠ "java/lang/invoke/VarHandle" ∧ (parseMethodDescriptor y_isRef.desc).map (fun d => d.parameters.length) = some 1 := by decide +kernel
theorem hd_least : y_least.cls ≠ "java/lang/invoke/MethodHandle" ∧ y_least.cls ≠ "java/lang/invoke/VarHandle" ∧ (parseMethodDescriptor y_least.desc).map (fun d => d.parameters.length) = some 2 := by decide +kernel
theorem hd_madd : y_madd.cls ≠ "java/lang/invoke/MethodHandle" ∧ y_madd.cls ≠ "java/lang/invoke/VarHandle" ∧ (parseMethodDescriptor y_madd.desc).map (fun d => d.parameters.length) = some 2 := by decide +kernel
theorem hd_math_max : y_math_max.cls ≠ "java/lang/invoke/MethodHandle" ∧ y_math_max.cls ≠ "java/lang/invoke/VarHandle" ∧ (parseMethodDescriptor y_math_max.desc).map (fun d => d.parameters.length) = some 2 := by decide +kernel
theorem hd_math_min : y_math_min.cls ≠ "java/lang/invoke/MethodHandle" ∧ y_math_min.cls ≠ "java/lang/invoke/VarHandle" ∧ (parseMethodDescriptor y_math_min.desc).map (fun d => d.parameters.length) = some 2 := by decide +kernel
theorem hd_mcount : y_mcount.cls ≠ "java/lang/invoke/MethodHandle" ∧ y_mcount.cls ≠ "java/lang/invoke/VarHandle" ∧ (parseMethodDescriptor y_mcount.desc).map (fun d => d.parameters.length) = some 0 := by decide +kernel
theorem hd_mempty : y_mempty.cls ≠ "java/lang/invoke/MethodHandle" ∧ y_mempty.cls ≠ "java/lang/invoke/VarHandle" ∧ (parseMethodDescriptor y_mempty.desc).map (fun d => d.parameters.length) = some 0 := by decide +kernel
theorem hd_met : y_met.cls ≠ "java/lang/invoke/MethodHandle" ∧ y_met.cls ≠ "java/lang/invoke/VarHandle" ∧ (parseMethodDescriptor y_met.desc).map (fun d => d.parameters.length) = some 2 := by decide +kernel
theorem hd_mfirst : y_mfirst.cls ≠ "java/lang/invoke/MethodHandle" ∧ y_mfirst.cls ≠ "java/lang/invoke/VarHandle" ∧ (parseMethodDescriptor y_mfirst.desc).map (fun d => d.parameters.length) = some 0 := by decide +kernel
theorem hd_next : y_next.cls ≠ "java/lang/invoke/MethodHandle" ∧ y_next.cls ≠ "java/lang/invoke/VarHandle" ∧ (parseMethodDescriptor y_next.desc).map (fun d => d.parameters.length) = some 3 := by decide +kernel
theorem hd_overlap : y_overlap.cls ≠ "java/lang/invoke/MethodHandle" ∧ y_overlap.cls ≠ "java/lang/invoke/VarHandle" ∧ (parseMethodDescriptor y_overlap.desc).map (fun d => d.parameters.length) = some 2 := by decide +kernel
theorem hd_pEmpty : y_pEmpty.cls ≠ "java/lang/invoke/MethodHandle" ∧ y_pEmpty.cls ≠ "java/lang/invoke/VarHandle" ∧ (parseMethodDescriptor y_pEmpty.desc).map (fun d => d.parameters.length) = some 0 := by decide +kernel
theorem hd_pass : y_pass.cls ≠ "java/lang/invoke/MethodHandle" ∧ y_pass.cls ≠ "java/lang/invoke/VarHandle" ∧ (parseMethodDescriptor y_pass.desc).map (fun d => d.parameters.length) = some 3 := by decide +kernel
theorem hd_point : y_point.cls ≠ "java/lang/invoke/MethodHandle" ∧ y_point.cls ≠ "java/lang/invoke/VarHandle" ∧ (parseMethodDescriptor y_point.desc).map (fun d => d.parameters.length) = some 4 := by decide +kernel
theorem hd_put : y_put.cls ≠ "java/lang/invoke/MethodHandle" ∧ y_put.cls ≠ "java/lang/invoke/VarHandle" ∧ (parseMethodDescriptor y_put.desc).map (fun d => d.parameters.length) = some 1 := by decide +kernel
theorem hd_rcount : y_rcount.cls ≠ "java/lang/invoke/MethodHandle" ∧ y_rcount.cls ≠ "java/lang/invoke/VarHandle" ∧ (parseMethodDescriptor y_rcount.desc).map (fun d => d.parameters.length) = some 0 := by decide +kernel
theorem hd_rfind : y_rfind.cls ≠ "java/lang/invoke/MethodHandle" ∧ y_rfind.cls ≠ "java/lang/invoke/VarHandle" ∧ (parseMethodDescriptor y_rfind.desc).map (fun d => d.parameters.length) = some 1 := by decide +kernel
theorem hd_secondNext : y_secondNext.cls ≠ "java/lang/invoke/MethodHandle" ∧ y_secondNext.cls ≠ "java/lang/invoke/VarHandle" ∧ (parseMethodDescriptor y_secondNext.desc).map (fun d => d.parameters.length) = some 1 := by decide +kernel
theorem hd_take : y_take.cls ≠ "java/lang/invoke/MethodHandle" ∧ y_take.cls ≠ "java/lang/invoke/VarHandle" ∧ (parseMethodDescriptor y_take.desc).map (fun d => d.parameters.length) = some 0 := by decide +kernel
theorem hd_tellNext : y_tellNext.cls ≠ "java/lang/invoke/MethodHandle" ∧ y_tellNext.cls ≠ "java/lang/invoke/VarHandle" ∧ (parseMethodDescriptor y_tellNext.desc).map (fun d => d.parameters.length) = some 3 := by decide +kernel
theorem hd_touches : y_touches.cls ≠ "java/lang/invoke/MethodHandle" ∧ y_touches.cls ≠ "java/lang/invoke/VarHandle" ∧ (parseMethodDescriptor y_touches.desc).map (fun d => d.parameters.length) = some 2 := by decide +kernel
theorem hd_ubehind : y_ubehind.cls ≠ "java/lang/invoke/MethodHandle" ∧ y_ubehind.cls ≠ "java/lang/invoke/VarHandle" ∧ (parseMethodDescriptor y_ubehind.desc).map (fun d => d.parameters.length) = some 1 := by decide +kernel
theorem hd_ufind : y_ufind.cls ≠ "java/lang/invoke/MethodHandle" ∧ y_ufind.cls ≠ "java/lang/invoke/VarHandle" ∧ (parseMethodDescriptor y_ufind.desc).map (fun d => d.parameters.length) = some 1 := by decide +kernel
theorem hd_used : y_used.cls ≠ "java/lang/invoke/MethodHandle" ∧ y_used.cls ≠ "java/lang/invoke/VarHandle" ∧ (parseMethodDescriptor y_used.desc).map (fun d => d.parameters.length) = some 1 := by decide +kernel
theorem hd_usedFrom : y_usedFrom.cls ≠ "java/lang/invoke/MethodHandle" ∧ y_usedFrom.cls ≠ "java/lang/invoke/VarHandle" ∧ (parseMethodDescriptor y_usedFrom.desc).map (fun d => d.parameters.length) = some 2 := by decide +kernel
theorem hd_withHolder : y_withHolder.cls ≠ "java/lang/invoke/MethodHandle" ∧ y_withHolder.cls ≠ "java/lang/invoke/VarHandle" ∧ (parseMethodDescriptor y_withHolder.desc).map (fun d => d.parameters.length) = some 3 := by decide +kernel
