section
-- ===== PART A: goes FIRST, ahead of the names: the tables' words, and 'selects' of the private methods out of them =====
/-- a private method of a class that the tables say can be made, by its rows of tables_1 -/
def lw_okq (q : MethodName × Nat) : Prop := (q.1.cls ≠ "java/lang/invoke/MethodHandle" ∧ q.1.cls ≠ "java/lang/invoke/VarHandle") ∧ Cond.instantiable q.1.cls q.2 ∈ tables_1 ∧ Cond.privateMethod q.1 ∈ tables_1 ∧ Cond.instanceMethod q.1 ∈ tables_1
theorem lw_p0 : lw_okq (⟨"ThreePhaseGroup", "give", "(II)Z"⟩, 5) := ⟨⟨by decide +kernel, by decide +kernel⟩, List.mem_of_getElem? (i := 13) (by decide +kernel), List.mem_of_getElem? (i := 263) (by decide +kernel), List.mem_of_getElem? (i := 264) (by decide +kernel)⟩
theorem lw_p1 : lw_okq (⟨"ThreePhaseGroup$Client", "countReplies", "(I)I"⟩, 6) := ⟨⟨by decide +kernel, by decide +kernel⟩, List.mem_of_getElem? (i := 183) (by decide +kernel), List.mem_of_getElem? (i := 271) (by decide +kernel), List.mem_of_getElem? (i := 272) (by decide +kernel)⟩
theorem lw_p2 : lw_okq (⟨"ThreePhaseGroup$Replica", "takesRequest", "(I)Z"⟩, 14) := ⟨⟨by decide +kernel, by decide +kernel⟩, List.mem_of_getElem? (i := 76) (by decide +kernel), List.mem_of_getElem? (i := 279) (by decide +kernel), List.mem_of_getElem? (i := 280) (by decide +kernel)⟩
theorem lw_p3 : lw_okq (⟨"ThreePhaseGroup$Replica", "wouldWait", "(I)Z"⟩, 14) := ⟨⟨by decide +kernel, by decide +kernel⟩, List.mem_of_getElem? (i := 76) (by decide +kernel), List.mem_of_getElem? (i := 287) (by decide +kernel), List.mem_of_getElem? (i := 288) (by decide +kernel)⟩
theorem lw_p4 : lw_okq (⟨"ThreePhaseGroup$Replica", "learn", "(I)V"⟩, 14) := ⟨⟨by decide +kernel, by decide +kernel⟩, List.mem_of_getElem? (i := 76) (by decide +kernel), List.mem_of_getElem? (i := 294) (by decide +kernel), List.mem_of_getElem? (i := 295) (by decide +kernel)⟩
theorem lw_p5 : lw_okq (⟨"ThreePhaseGroup$Replica", "takesPrePrepare", "(I)Z"⟩, 14) := ⟨⟨by decide +kernel, by decide +kernel⟩, List.mem_of_getElem? (i := 76) (by decide +kernel), List.mem_of_getElem? (i := 303) (by decide +kernel), List.mem_of_getElem? (i := 304) (by decide +kernel)⟩
theorem lw_p6 : lw_okq (⟨"ThreePhaseGroup$Replica", "isOfThisView", "(I)Z"⟩, 14) := ⟨⟨by decide +kernel, by decide +kernel⟩, List.mem_of_getElem? (i := 76) (by decide +kernel), List.mem_of_getElem? (i := 307) (by decide +kernel), List.mem_of_getElem? (i := 308) (by decide +kernel)⟩
theorem lw_p7 : lw_okq (⟨"ThreePhaseGroup$Replica", "takesPhase", "(I)Z"⟩, 14) := ⟨⟨by decide +kernel, by decide +kernel⟩, List.mem_of_getElem? (i := 76) (by decide +kernel), List.mem_of_getElem? (i := 326) (by decide +kernel), List.mem_of_getElem? (i := 327) (by decide +kernel)⟩
theorem lw_p8 : lw_okq (⟨"ThreePhaseGroup$Replica", "takesCheckpoint", "(I)Z"⟩, 14) := ⟨⟨by decide +kernel, by decide +kernel⟩, List.mem_of_getElem? (i := 76) (by decide +kernel), List.mem_of_getElem? (i := 331) (by decide +kernel), List.mem_of_getElem? (i := 332) (by decide +kernel)⟩
theorem lw_p9 : lw_okq (⟨"ThreePhaseGroup$Replica", "takesViewChange", "(I)Z"⟩, 14) := ⟨⟨by decide +kernel, by decide +kernel⟩, List.mem_of_getElem? (i := 76) (by decide +kernel), List.mem_of_getElem? (i := 335) (by decide +kernel), List.mem_of_getElem? (i := 336) (by decide +kernel)⟩
theorem lw_p10 : lw_okq (⟨"ThreePhaseGroup$Replica", "isAhead", "(I)Z"⟩, 14) := ⟨⟨by decide +kernel, by decide +kernel⟩, List.mem_of_getElem? (i := 76) (by decide +kernel), List.mem_of_getElem? (i := 339) (by decide +kernel), List.mem_of_getElem? (i := 340) (by decide +kernel)⟩
theorem lw_p11 : lw_okq (⟨"ThreePhaseGroup$Replica", "takesNewView", "(I)Z"⟩, 14) := ⟨⟨by decide +kernel, by decide +kernel⟩, List.mem_of_getElem? (i := 76) (by decide +kernel), List.mem_of_getElem? (i := 343) (by decide +kernel), List.mem_of_getElem? (i := 344) (by decide +kernel)⟩
theorem lw_p12 : lw_okq (⟨"ThreePhaseGroup$Replica", "enter", "(I)V"⟩, 14) := ⟨⟨by decide +kernel, by decide +kernel⟩, List.mem_of_getElem? (i := 76) (by decide +kernel), List.mem_of_getElem? (i := 347) (by decide +kernel), List.mem_of_getElem? (i := 348) (by decide +kernel)⟩
theorem lw_p13 : lw_okq (⟨"ThreePhaseGroup$Replica", "moveTo", "(I)V"⟩, 14) := ⟨⟨by decide +kernel, by decide +kernel⟩, List.mem_of_getElem? (i := 76) (by decide +kernel), List.mem_of_getElem? (i := 351) (by decide +kernel), List.mem_of_getElem? (i := 352) (by decide +kernel)⟩
theorem lw_p14 : lw_okq (⟨"ThreePhaseGroup$Board", "countCheckpoints", "(II)I"⟩, 8) := ⟨⟨by decide +kernel, by decide +kernel⟩, List.mem_of_getElem? (i := 21) (by decide +kernel), List.mem_of_getElem? (i := 370) (by decide +kernel), List.mem_of_getElem? (i := 371) (by decide +kernel)⟩
theorem lw_p15 : lw_okq (⟨"ThreePhaseGroup$Replica", "settle", "(IJ)V"⟩, 14) := ⟨⟨by decide +kernel, by decide +kernel⟩, List.mem_of_getElem? (i := 76) (by decide +kernel), List.mem_of_getElem? (i := 380) (by decide +kernel), List.mem_of_getElem? (i := 381) (by decide +kernel)⟩
def lw_privs_1 : List (MethodName × Nat) := [(⟨"ThreePhaseGroup", "give", "(II)Z"⟩, 5), (⟨"ThreePhaseGroup$Client", "countReplies", "(I)I"⟩, 6), (⟨"ThreePhaseGroup$Replica", "takesRequest", "(I)Z"⟩, 14), (⟨"ThreePhaseGroup$Replica", "wouldWait", "(I)Z"⟩, 14), (⟨"ThreePhaseGroup$Replica", "learn", "(I)V"⟩, 14), (⟨"ThreePhaseGroup$Replica", "takesPrePrepare", "(I)Z"⟩, 14), (⟨"ThreePhaseGroup$Replica", "isOfThisView", "(I)Z"⟩, 14), (⟨"ThreePhaseGroup$Replica", "takesPhase", "(I)Z"⟩, 14), (⟨"ThreePhaseGroup$Replica", "takesCheckpoint", "(I)Z"⟩, 14), (⟨"ThreePhaseGroup$Replica", "takesViewChange", "(I)Z"⟩, 14), (⟨"ThreePhaseGroup$Replica", "isAhead", "(I)Z"⟩, 14), (⟨"ThreePhaseGroup$Replica", "takesNewView", "(I)Z"⟩, 14), (⟨"ThreePhaseGroup$Replica", "enter", "(I)V"⟩, 14), (⟨"ThreePhaseGroup$Replica", "moveTo", "(I)V"⟩, 14), (⟨"ThreePhaseGroup$Board", "countCheckpoints", "(II)I"⟩, 8), (⟨"ThreePhaseGroup$Replica", "settle", "(IJ)V"⟩, 14)]
theorem lw_r1 : ∀ q ∈ lw_privs_1, lw_okq q := List.forall_mem_cons.mpr ⟨lw_p0, List.forall_mem_cons.mpr ⟨lw_p1, List.forall_mem_cons.mpr ⟨lw_p2, List.forall_mem_cons.mpr ⟨lw_p3, List.forall_mem_cons.mpr ⟨lw_p4, List.forall_mem_cons.mpr ⟨lw_p5, List.forall_mem_cons.mpr ⟨lw_p6, List.forall_mem_cons.mpr ⟨lw_p7, List.forall_mem_cons.mpr ⟨lw_p8, List.forall_mem_cons.mpr ⟨lw_p9, List.forall_mem_cons.mpr ⟨lw_p10, List.forall_mem_cons.mpr ⟨lw_p11, List.forall_mem_cons.mpr ⟨lw_p12, List.forall_mem_cons.mpr ⟨lw_p13, List.forall_mem_cons.mpr ⟨lw_p14, List.forall_mem_cons.mpr ⟨lw_p15, fun _ h => absurd h List.not_mem_nil⟩⟩⟩⟩⟩⟩⟩⟩⟩⟩⟩⟩⟩⟩⟩⟩
theorem lw_p16 : lw_okq (⟨"ThreePhaseGroup$Replica", "prepareNext", "()Z"⟩, 14) := ⟨⟨by decide +kernel, by decide +kernel⟩, List.mem_of_getElem? (i := 76) (by decide +kernel), List.mem_of_getElem? (i := 393) (by decide +kernel), List.mem_of_getElem? (i := 394) (by decide +kernel)⟩
theorem lw_p17 : lw_okq (⟨"ThreePhaseGroup$Replica", "isPrimary", "()Z"⟩, 14) := ⟨⟨by decide +kernel, by decide +kernel⟩, List.mem_of_getElem? (i := 76) (by decide +kernel), List.mem_of_getElem? (i := 397) (by decide +kernel), List.mem_of_getElem? (i := 398) (by decide +kernel)⟩
theorem lw_p18 : lw_okq (⟨"ThreePhaseGroup$Replica", "commitNext", "()Z"⟩, 14) := ⟨⟨by decide +kernel, by decide +kernel⟩, List.mem_of_getElem? (i := 76) (by decide +kernel), List.mem_of_getElem? (i := 402) (by decide +kernel), List.mem_of_getElem? (i := 403) (by decide +kernel)⟩
theorem lw_p19 : lw_okq (⟨"ThreePhaseGroup$Slot", "countAccepted", "([J)I"⟩, 5) := ⟨⟨by decide +kernel, by decide +kernel⟩, List.mem_of_getElem? (i := 98) (by decide +kernel), List.mem_of_getElem? (i := 410) (by decide +kernel), List.mem_of_getElem? (i := 411) (by decide +kernel)⟩
theorem lw_p20 : lw_okq (⟨"ThreePhaseGroup$Replica", "decideNext", "()Z"⟩, 14) := ⟨⟨by decide +kernel, by decide +kernel⟩, List.mem_of_getElem? (i := 76) (by decide +kernel), List.mem_of_getElem? (i := 414) (by decide +kernel), List.mem_of_getElem? (i := 415) (by decide +kernel)⟩
theorem lw_p21 : lw_okq (⟨"ThreePhaseGroup$Replica", "executeNext", "()Z"⟩, 14) := ⟨⟨by decide +kernel, by decide +kernel⟩, List.mem_of_getElem? (i := 76) (by decide +kernel), List.mem_of_getElem? (i := 422) (by decide +kernel), List.mem_of_getElem? (i := 423) (by decide +kernel)⟩
theorem lw_p22 : lw_okq (⟨"ThreePhaseGroup$Replica", "execute", "(I)V"⟩, 14) := ⟨⟨by decide +kernel, by decide +kernel⟩, List.mem_of_getElem? (i := 76) (by decide +kernel), List.mem_of_getElem? (i := 426) (by decide +kernel), List.mem_of_getElem? (i := 427) (by decide +kernel)⟩
theorem lw_p23 : lw_okq (⟨"ThreePhaseGroup$Replica", "settleNext", "()Z"⟩, 14) := ⟨⟨by decide +kernel, by decide +kernel⟩, List.mem_of_getElem? (i := 76) (by decide +kernel), List.mem_of_getElem? (i := 448) (by decide +kernel), List.mem_of_getElem? (i := 449) (by decide +kernel)⟩
theorem lw_p24 : lw_okq (⟨"ThreePhaseGroup$Replica", "countNotedLike", "(I)I"⟩, 14) := ⟨⟨by decide +kernel, by decide +kernel⟩, List.mem_of_getElem? (i := 76) (by decide +kernel), List.mem_of_getElem? (i := 452) (by decide +kernel), List.mem_of_getElem? (i := 453) (by decide +kernel)⟩
theorem lw_p25 : lw_okq (⟨"ThreePhaseGroup$Replica", "joinChange", "()Z"⟩, 14) := ⟨⟨by decide +kernel, by decide +kernel⟩, List.mem_of_getElem? (i := 76) (by decide +kernel), List.mem_of_getElem? (i := 457) (by decide +kernel), List.mem_of_getElem? (i := 458) (by decide +kernel)⟩
theorem lw_p26 : lw_okq (⟨"ThreePhaseGroup$Replica", "begin", "(I)V"⟩, 14) := ⟨⟨by decide +kernel, by decide +kernel⟩, List.mem_of_getElem? (i := 76) (by decide +kernel), List.mem_of_getElem? (i := 464) (by decide +kernel), List.mem_of_getElem? (i := 465) (by decide +kernel)⟩
theorem lw_p27 : lw_okq (⟨"ThreePhaseGroup$Replica", "openView", "()Z"⟩, 14) := ⟨⟨by decide +kernel, by decide +kernel⟩, List.mem_of_getElem? (i := 76) (by decide +kernel), List.mem_of_getElem? (i := 468) (by decide +kernel), List.mem_of_getElem? (i := 469) (by decide +kernel)⟩
theorem lw_p28 : lw_okq (⟨"ThreePhaseGroup$Replica", "votesForView", "(I)Z"⟩, 14) := ⟨⟨by decide +kernel, by decide +kernel⟩, List.mem_of_getElem? (i := 76) (by decide +kernel), List.mem_of_getElem? (i := 472) (by decide +kernel), List.mem_of_getElem? (i := 473) (by decide +kernel)⟩
theorem lw_p29 : lw_okq (⟨"ThreePhaseGroup$Board", "greatestClaimant", "(II)I"⟩, 8) := ⟨⟨by decide +kernel, by decide +kernel⟩, List.mem_of_getElem? (i := 21) (by decide +kernel), List.mem_of_getElem? (i := 481) (by decide +kernel), List.mem_of_getElem? (i := 482) (by decide +kernel)⟩
theorem lw_p30 : lw_okq (⟨"ThreePhaseGroup$Board", "claimFor", "(II)I"⟩, 8) := ⟨⟨by decide +kernel, by decide +kernel⟩, List.mem_of_getElem? (i := 21) (by decide +kernel), List.mem_of_getElem? (i := 485) (by decide +kernel), List.mem_of_getElem? (i := 486) (by decide +kernel)⟩
theorem lw_p31 : lw_okq (⟨"ThreePhaseGroup$Board", "backing", "(III)I"⟩, 8) := ⟨⟨by decide +kernel, by decide +kernel⟩, List.mem_of_getElem? (i := 21) (by decide +kernel), List.mem_of_getElem? (i := 489) (by decide +kernel), List.mem_of_getElem? (i := 490) (by decide +kernel)⟩
def lw_privs_2 : List (MethodName × Nat) := [(⟨"ThreePhaseGroup$Replica", "prepareNext", "()Z"⟩, 14), (⟨"ThreePhaseGroup$Replica", "isPrimary", "()Z"⟩, 14), (⟨"ThreePhaseGroup$Replica", "commitNext", "()Z"⟩, 14), (⟨"ThreePhaseGroup$Slot", "countAccepted", "([J)I"⟩, 5), (⟨"ThreePhaseGroup$Replica", "decideNext", "()Z"⟩, 14), (⟨"ThreePhaseGroup$Replica", "executeNext", "()Z"⟩, 14), (⟨"ThreePhaseGroup$Replica", "execute", "(I)V"⟩, 14), (⟨"ThreePhaseGroup$Replica", "settleNext", "()Z"⟩, 14), (⟨"ThreePhaseGroup$Replica", "countNotedLike", "(I)I"⟩, 14), (⟨"ThreePhaseGroup$Replica", "joinChange", "()Z"⟩, 14), (⟨"ThreePhaseGroup$Replica", "begin", "(I)V"⟩, 14), (⟨"ThreePhaseGroup$Replica", "openView", "()Z"⟩, 14), (⟨"ThreePhaseGroup$Replica", "votesForView", "(I)Z"⟩, 14), (⟨"ThreePhaseGroup$Board", "greatestClaimant", "(II)I"⟩, 8), (⟨"ThreePhaseGroup$Board", "claimFor", "(II)I"⟩, 8), (⟨"ThreePhaseGroup$Board", "backing", "(III)I"⟩, 8)]
theorem lw_r2 : ∀ q ∈ lw_privs_2, lw_okq q := List.forall_mem_cons.mpr ⟨lw_p16, List.forall_mem_cons.mpr ⟨lw_p17, List.forall_mem_cons.mpr ⟨lw_p18, List.forall_mem_cons.mpr ⟨lw_p19, List.forall_mem_cons.mpr ⟨lw_p20, List.forall_mem_cons.mpr ⟨lw_p21, List.forall_mem_cons.mpr ⟨lw_p22, List.forall_mem_cons.mpr ⟨lw_p23, List.forall_mem_cons.mpr ⟨lw_p24, List.forall_mem_cons.mpr ⟨lw_p25, List.forall_mem_cons.mpr ⟨lw_p26, List.forall_mem_cons.mpr ⟨lw_p27, List.forall_mem_cons.mpr ⟨lw_p28, List.forall_mem_cons.mpr ⟨lw_p29, List.forall_mem_cons.mpr ⟨lw_p30, List.forall_mem_cons.mpr ⟨lw_p31, fun _ h => absurd h List.not_mem_nil⟩⟩⟩⟩⟩⟩⟩⟩⟩⟩⟩⟩⟩⟩⟩⟩
theorem lw_p32 : lw_okq (⟨"ThreePhaseGroup$Board", "isPrepare", "(III)Z"⟩, 8) := ⟨⟨by decide +kernel, by decide +kernel⟩, List.mem_of_getElem? (i := 21) (by decide +kernel), List.mem_of_getElem? (i := 494) (by decide +kernel), List.mem_of_getElem? (i := 495) (by decide +kernel)⟩
theorem lw_p33 : lw_okq (⟨"ThreePhaseGroup$Replica", "orderNext", "()Z"⟩, 14) := ⟨⟨by decide +kernel, by decide +kernel⟩, List.mem_of_getElem? (i := 76) (by decide +kernel), List.mem_of_getElem? (i := 498) (by decide +kernel), List.mem_of_getElem? (i := 499) (by decide +kernel)⟩
theorem lw_p34 : lw_okq (⟨"ThreePhaseGroup$Replica", "leastUnordered", "()I"⟩, 14) := ⟨⟨by decide +kernel, by decide +kernel⟩, List.mem_of_getElem? (i := 76) (by decide +kernel), List.mem_of_getElem? (i := 502) (by decide +kernel), List.mem_of_getElem? (i := 503) (by decide +kernel)⟩
theorem lw_p35 : lw_okq (⟨"ThreePhaseGroup$Replica", "isAccepted", "(I)Z"⟩, 14) := ⟨⟨by decide +kernel, by decide +kernel⟩, List.mem_of_getElem? (i := 76) (by decide +kernel), List.mem_of_getElem? (i := 506) (by decide +kernel), List.mem_of_getElem? (i := 507) (by decide +kernel)⟩
theorem lw_p36 : lw_okq (⟨"ThreePhaseGroup$Replica", "setTimer", "()V"⟩, 14) := ⟨⟨by decide +kernel, by decide +kernel⟩, List.mem_of_getElem? (i := 76) (by decide +kernel), List.mem_of_getElem? (i := 510) (by decide +kernel), List.mem_of_getElem? (i := 511) (by decide +kernel)⟩
theorem lw_p37 : lw_okq (⟨"ThreePhaseGroup$Board", "isValidViewChange", "(I)Z"⟩, 8) := ⟨⟨by decide +kernel, by decide +kernel⟩, List.mem_of_getElem? (i := 21) (by decide +kernel), List.mem_of_getElem? (i := 522) (by decide +kernel), List.mem_of_getElem? (i := 523) (by decide +kernel)⟩
theorem lw_p38 : lw_okq (⟨"ThreePhaseGroup$Board", "isValidNewView", "(I)Z"⟩, 8) := ⟨⟨by decide +kernel, by decide +kernel⟩, List.mem_of_getElem? (i := 21) (by decide +kernel), List.mem_of_getElem? (i := 530) (by decide +kernel), List.mem_of_getElem? (i := 531) (by decide +kernel)⟩
theorem lw_p39 : lw_okq (⟨"ThreePhaseGroup", "postForged", "(IIJI)I"⟩, 5) := ⟨⟨by decide +kernel, by decide +kernel⟩, List.mem_of_getElem? (i := 13) (by decide +kernel), List.mem_of_getElem? (i := 558) (by decide +kernel), List.mem_of_getElem? (i := 559) (by decide +kernel)⟩
theorem lw_p40 : lw_okq (⟨"ThreePhaseGroupModel", "waits", "(II)Z"⟩, 27) := ⟨⟨by decide +kernel, by decide +kernel⟩, List.mem_of_getElem? (i := 628) (by decide +kernel), List.mem_of_getElem? (i := 723) (by decide +kernel), List.mem_of_getElem? (i := 724) (by decide +kernel)⟩
theorem lw_p41 : lw_okq (⟨"ThreePhaseGroupModel", "send", "(IIIJI)I"⟩, 27) := ⟨⟨by decide +kernel, by decide +kernel⟩, List.mem_of_getElem? (i := 628) (by decide +kernel), List.mem_of_getElem? (i := 732) (by decide +kernel), List.mem_of_getElem? (i := 733) (by decide +kernel)⟩
theorem lw_p42 : lw_okq (⟨"ThreePhaseGroupModel", "give", "(II)Z"⟩, 27) := ⟨⟨by decide +kernel, by decide +kernel⟩, List.mem_of_getElem? (i := 628) (by decide +kernel), List.mem_of_getElem? (i := 740) (by decide +kernel), List.mem_of_getElem? (i := 741) (by decide +kernel)⟩
theorem lw_p43 : lw_okq (⟨"ThreePhaseGroupModel", "answered", "(II)Z"⟩, 27) := ⟨⟨by decide +kernel, by decide +kernel⟩, List.mem_of_getElem? (i := 628) (by decide +kernel), List.mem_of_getElem? (i := 744) (by decide +kernel), List.mem_of_getElem? (i := 745) (by decide +kernel)⟩
theorem lw_p44 : lw_okq (⟨"ThreePhaseGroupModel", "takes", "(II)Z"⟩, 27) := ⟨⟨by decide +kernel, by decide +kernel⟩, List.mem_of_getElem? (i := 628) (by decide +kernel), List.mem_of_getElem? (i := 748) (by decide +kernel), List.mem_of_getElem? (i := 749) (by decide +kernel)⟩
theorem lw_p45 : lw_okq (⟨"ThreePhaseGroupModel", "window", "(IJ)Z"⟩, 27) := ⟨⟨by decide +kernel, by decide +kernel⟩, List.mem_of_getElem? (i := 628) (by decide +kernel), List.mem_of_getElem? (i := 752) (by decide +kernel), List.mem_of_getElem? (i := 753) (by decide +kernel)⟩
theorem lw_p46 : lw_okq (⟨"ThreePhaseGroupModel", "takesRequest", "(II)Z"⟩, 27) := ⟨⟨by decide +kernel, by decide +kernel⟩, List.mem_of_getElem? (i := 628) (by decide +kernel), List.mem_of_getElem? (i := 756) (by decide +kernel), List.mem_of_getElem? (i := 757) (by decide +kernel)⟩
theorem lw_p47 : lw_okq (⟨"ThreePhaseGroupModel", "takesOrder", "(II)Z"⟩, 27) := ⟨⟨by decide +kernel, by decide +kernel⟩, List.mem_of_getElem? (i := 628) (by decide +kernel), List.mem_of_getElem? (i := 760) (by decide +kernel), List.mem_of_getElem? (i := 761) (by decide +kernel)⟩
def lw_privs_3 : List (MethodName × Nat) := [(⟨"ThreePhaseGroup$Board", "isPrepare", "(III)Z"⟩, 8), (⟨"ThreePhaseGroup$Replica", "orderNext", "()Z"⟩, 14), (⟨"ThreePhaseGroup$Replica", "leastUnordered", "()I"⟩, 14), (⟨"ThreePhaseGroup$Replica", "isAccepted", "(I)Z"⟩, 14), (⟨"ThreePhaseGroup$Replica", "setTimer", "()V"⟩, 14), (⟨"ThreePhaseGroup$Board", "isValidViewChange", "(I)Z"⟩, 8), (⟨"ThreePhaseGroup$Board", "isValidNewView", "(I)Z"⟩, 8), (⟨"ThreePhaseGroup", "postForged", "(IIJI)I"⟩, 5), (⟨"ThreePhaseGroupModel", "waits", "(II)Z"⟩, 27), (⟨"ThreePhaseGroupModel", "send", "(IIIJI)I"⟩, 27), (⟨"ThreePhaseGroupModel", "give", "(II)Z"⟩, 27), (⟨"ThreePhaseGroupModel", "answered", "(II)Z"⟩, 27), (⟨"ThreePhaseGroupModel", "takes", "(II)Z"⟩, 27), (⟨"ThreePhaseGroupModel", "window", "(IJ)Z"⟩, 27), (⟨"ThreePhaseGroupModel", "takesRequest", "(II)Z"⟩, 27), (⟨"ThreePhaseGroupModel", "takesOrder", "(II)Z"⟩, 27)]
theorem lw_r3 : ∀ q ∈ lw_privs_3, lw_okq q := List.forall_mem_cons.mpr ⟨lw_p32, List.forall_mem_cons.mpr ⟨lw_p33, List.forall_mem_cons.mpr ⟨lw_p34, List.forall_mem_cons.mpr ⟨lw_p35, List.forall_mem_cons.mpr ⟨lw_p36, List.forall_mem_cons.mpr ⟨lw_p37, List.forall_mem_cons.mpr ⟨lw_p38, List.forall_mem_cons.mpr ⟨lw_p39, List.forall_mem_cons.mpr ⟨lw_p40, List.forall_mem_cons.mpr ⟨lw_p41, List.forall_mem_cons.mpr ⟨lw_p42, List.forall_mem_cons.mpr ⟨lw_p43, List.forall_mem_cons.mpr ⟨lw_p44, List.forall_mem_cons.mpr ⟨lw_p45, List.forall_mem_cons.mpr ⟨lw_p46, List.forall_mem_cons.mpr ⟨lw_p47, fun _ h => absurd h List.not_mem_nil⟩⟩⟩⟩⟩⟩⟩⟩⟩⟩⟩⟩⟩⟩⟩⟩
theorem lw_p48 : lw_okq (⟨"ThreePhaseGroupModel", "notes", "(IIIIJ)Z"⟩, 27) := ⟨⟨by decide +kernel, by decide +kernel⟩, List.mem_of_getElem? (i := 628) (by decide +kernel), List.mem_of_getElem? (i := 764) (by decide +kernel), List.mem_of_getElem? (i := 765) (by decide +kernel)⟩
theorem lw_p49 : lw_okq (⟨"ThreePhaseGroupModel", "goodChange", "(I)Z"⟩, 27) := ⟨⟨by decide +kernel, by decide +kernel⟩, List.mem_of_getElem? (i := 628) (by decide +kernel), List.mem_of_getElem? (i := 768) (by decide +kernel), List.mem_of_getElem? (i := 769) (by decide +kernel)⟩
theorem lw_p50 : lw_okq (⟨"ThreePhaseGroupModel", "proof", "(JI)I"⟩, 27) := ⟨⟨by decide +kernel, by decide +kernel⟩, List.mem_of_getElem? (i := 628) (by decide +kernel), List.mem_of_getElem? (i := 772) (by decide +kernel), List.mem_of_getElem? (i := 773) (by decide +kernel)⟩
theorem lw_p51 : lw_okq (⟨"ThreePhaseGroupModel", "senders", "(IIIJII)I"⟩, 27) := ⟨⟨by decide +kernel, by decide +kernel⟩, List.mem_of_getElem? (i := 628) (by decide +kernel), List.mem_of_getElem? (i := 776) (by decide +kernel), List.mem_of_getElem? (i := 777) (by decide +kernel)⟩
theorem lw_p52 : lw_okq (⟨"ThreePhaseGroupModel", "backing", "(IJI)I"⟩, 27) := ⟨⟨by decide +kernel, by decide +kernel⟩, List.mem_of_getElem? (i := 628) (by decide +kernel), List.mem_of_getElem? (i := 780) (by decide +kernel), List.mem_of_getElem? (i := 781) (by decide +kernel)⟩
theorem lw_p53 : lw_okq (⟨"ThreePhaseGroupModel", "takesChange", "(II)Z"⟩, 27) := ⟨⟨by decide +kernel, by decide +kernel⟩, List.mem_of_getElem? (i := 628) (by decide +kernel), List.mem_of_getElem? (i := 784) (by decide +kernel), List.mem_of_getElem? (i := 785) (by decide +kernel)⟩
theorem lw_p54 : lw_okq (⟨"ThreePhaseGroupModel", "goodNew", "(I)Z"⟩, 27) := ⟨⟨by decide +kernel, by decide +kernel⟩, List.mem_of_getElem? (i := 628) (by decide +kernel), List.mem_of_getElem? (i := 788) (by decide +kernel), List.mem_of_getElem? (i := 789) (by decide +kernel)⟩
theorem lw_p55 : lw_okq (⟨"ThreePhaseGroupModel", "vote", "(II)I"⟩, 27) := ⟨⟨by decide +kernel, by decide +kernel⟩, List.mem_of_getElem? (i := 628) (by decide +kernel), List.mem_of_getElem? (i := 793) (by decide +kernel), List.mem_of_getElem? (i := 794) (by decide +kernel)⟩
theorem lw_p56 : lw_okq (⟨"ThreePhaseGroupModel", "orders", "(I)I"⟩, 27) := ⟨⟨by decide +kernel, by decide +kernel⟩, List.mem_of_getElem? (i := 628) (by decide +kernel), List.mem_of_getElem? (i := 797) (by decide +kernel), List.mem_of_getElem? (i := 798) (by decide +kernel)⟩
theorem lw_p57 : lw_okq (⟨"ThreePhaseGroupModel", "start", "(I)I"⟩, 27) := ⟨⟨by decide +kernel, by decide +kernel⟩, List.mem_of_getElem? (i := 628) (by decide +kernel), List.mem_of_getElem? (i := 801) (by decide +kernel), List.mem_of_getElem? (i := 802) (by decide +kernel)⟩
theorem lw_p58 : lw_okq (⟨"ThreePhaseGroupModel", "claim", "(II)I"⟩, 27) := ⟨⟨by decide +kernel, by decide +kernel⟩, List.mem_of_getElem? (i := 628) (by decide +kernel), List.mem_of_getElem? (i := 805) (by decide +kernel), List.mem_of_getElem? (i := 806) (by decide +kernel)⟩
theorem lw_p59 : lw_okq (⟨"ThreePhaseGroupModel", "enters", "(II)Z"⟩, 27) := ⟨⟨by decide +kernel, by decide +kernel⟩, List.mem_of_getElem? (i := 628) (by decide +kernel), List.mem_of_getElem? (i := 810) (by decide +kernel), List.mem_of_getElem? (i := 811) (by decide +kernel)⟩
theorem lw_p60 : lw_okq (⟨"ThreePhaseGroupModel", "dropAccepted", "(I)V"⟩, 27) := ⟨⟨by decide +kernel, by decide +kernel⟩, List.mem_of_getElem? (i := 628) (by decide +kernel), List.mem_of_getElem? (i := 814) (by decide +kernel), List.mem_of_getElem? (i := 815) (by decide +kernel)⟩
theorem lw_p61 : lw_okq (⟨"ThreePhaseGroupModel", "settles", "(IIJ)V"⟩, 27) := ⟨⟨by decide +kernel, by decide +kernel⟩, List.mem_of_getElem? (i := 628) (by decide +kernel), List.mem_of_getElem? (i := 818) (by decide +kernel), List.mem_of_getElem? (i := 819) (by decide +kernel)⟩
theorem lw_p62 : lw_okq (⟨"ThreePhaseGroupModel", "rules", "(I)V"⟩, 27) := ⟨⟨by decide +kernel, by decide +kernel⟩, List.mem_of_getElem? (i := 628) (by decide +kernel), List.mem_of_getElem? (i := 822) (by decide +kernel), List.mem_of_getElem? (i := 823) (by decide +kernel)⟩
theorem lw_p63 : lw_okq (⟨"ThreePhaseGroupModel", "phases", "(I)Z"⟩, 27) := ⟨⟨by decide +kernel, by decide +kernel⟩, List.mem_of_getElem? (i := 628) (by decide +kernel), List.mem_of_getElem? (i := 826) (by decide +kernel), List.mem_of_getElem? (i := 827) (by decide +kernel)⟩
def lw_privs_4 : List (MethodName × Nat) := [(⟨"ThreePhaseGroupModel", "notes", "(IIIIJ)Z"⟩, 27), (⟨"ThreePhaseGroupModel", "goodChange", "(I)Z"⟩, 27), (⟨"ThreePhaseGroupModel", "proof", "(JI)I"⟩, 27), (⟨"ThreePhaseGroupModel", "senders", "(IIIJII)I"⟩, 27), (⟨"ThreePhaseGroupModel", "backing", "(IJI)I"⟩, 27), (⟨"ThreePhaseGroupModel", "takesChange", "(II)Z"⟩, 27), (⟨"ThreePhaseGroupModel", "goodNew", "(I)Z"⟩, 27), (⟨"ThreePhaseGroupModel", "vote", "(II)I"⟩, 27), (⟨"ThreePhaseGroupModel", "orders", "(I)I"⟩, 27), (⟨"ThreePhaseGroupModel", "start", "(I)I"⟩, 27), (⟨"ThreePhaseGroupModel", "claim", "(II)I"⟩, 27), (⟨"ThreePhaseGroupModel", "enters", "(II)Z"⟩, 27), (⟨"ThreePhaseGroupModel", "dropAccepted", "(I)V"⟩, 27), (⟨"ThreePhaseGroupModel", "settles", "(IIJ)V"⟩, 27), (⟨"ThreePhaseGroupModel", "rules", "(I)V"⟩, 27), (⟨"ThreePhaseGroupModel", "phases", "(I)Z"⟩, 27)]
theorem lw_r4 : ∀ q ∈ lw_privs_4, lw_okq q := List.forall_mem_cons.mpr ⟨lw_p48, List.forall_mem_cons.mpr ⟨lw_p49, List.forall_mem_cons.mpr ⟨lw_p50, List.forall_mem_cons.mpr ⟨lw_p51, List.forall_mem_cons.mpr ⟨lw_p52, List.forall_mem_cons.mpr ⟨lw_p53, List.forall_mem_cons.mpr ⟨lw_p54, List.forall_mem_cons.mpr ⟨lw_p55, List.forall_mem_cons.mpr ⟨lw_p56, List.forall_mem_cons.mpr ⟨lw_p57, List.forall_mem_cons.mpr ⟨lw_p58, List.forall_mem_cons.mpr ⟨lw_p59, List.forall_mem_cons.mpr ⟨lw_p60, List.forall_mem_cons.mpr ⟨lw_p61, List.forall_mem_cons.mpr ⟨lw_p62, List.forall_mem_cons.mpr ⟨lw_p63, fun _ h => absurd h List.not_mem_nil⟩⟩⟩⟩⟩⟩⟩⟩⟩⟩⟩⟩⟩⟩⟩⟩
theorem lw_p64 : lw_okq (⟨"ThreePhaseGroupModel", "phase", "(IIII)Z"⟩, 27) := ⟨⟨by decide +kernel, by decide +kernel⟩, List.mem_of_getElem? (i := 628) (by decide +kernel), List.mem_of_getElem? (i := 830) (by decide +kernel), List.mem_of_getElem? (i := 831) (by decide +kernel)⟩
theorem lw_p65 : lw_okq (⟨"ThreePhaseGroupModel", "sent", "(III)Z"⟩, 27) := ⟨⟨by decide +kernel, by decide +kernel⟩, List.mem_of_getElem? (i := 628) (by decide +kernel), List.mem_of_getElem? (i := 834) (by decide +kernel), List.mem_of_getElem? (i := 835) (by decide +kernel)⟩
theorem lw_p66 : lw_okq (⟨"ThreePhaseGroupModel", "heard", "(IIIJI)I"⟩, 27) := ⟨⟨by decide +kernel, by decide +kernel⟩, List.mem_of_getElem? (i := 628) (by decide +kernel), List.mem_of_getElem? (i := 838) (by decide +kernel), List.mem_of_getElem? (i := 839) (by decide +kernel)⟩
theorem lw_p67 : lw_okq (⟨"ThreePhaseGroupModel", "executes", "(I)Z"⟩, 27) := ⟨⟨by decide +kernel, by decide +kernel⟩, List.mem_of_getElem? (i := 628) (by decide +kernel), List.mem_of_getElem? (i := 842) (by decide +kernel), List.mem_of_getElem? (i := 843) (by decide +kernel)⟩
theorem lw_p68 : lw_okq (⟨"ThreePhaseGroupModel", "serves", "(II)V"⟩, 27) := ⟨⟨by decide +kernel, by decide +kernel⟩, List.mem_of_getElem? (i := 628) (by decide +kernel), List.mem_of_getElem? (i := 846) (by decide +kernel), List.mem_of_getElem? (i := 847) (by decide +kernel)⟩
theorem lw_p69 : lw_okq (⟨"ThreePhaseGroupModel", "truncates", "(I)Z"⟩, 27) := ⟨⟨by decide +kernel, by decide +kernel⟩, List.mem_of_getElem? (i := 628) (by decide +kernel), List.mem_of_getElem? (i := 854) (by decide +kernel), List.mem_of_getElem? (i := 855) (by decide +kernel)⟩
theorem lw_p70 : lw_okq (⟨"ThreePhaseGroupModel", "joins", "(I)Z"⟩, 27) := ⟨⟨by decide +kernel, by decide +kernel⟩, List.mem_of_getElem? (i := 628) (by decide +kernel), List.mem_of_getElem? (i := 858) (by decide +kernel), List.mem_of_getElem? (i := 859) (by decide +kernel)⟩
theorem lw_p71 : lw_okq (⟨"ThreePhaseGroupModel", "begins", "(II)V"⟩, 27) := ⟨⟨by decide +kernel, by decide +kernel⟩, List.mem_of_getElem? (i := 628) (by decide +kernel), List.mem_of_getElem? (i := 862) (by decide +kernel), List.mem_of_getElem? (i := 863) (by decide +kernel)⟩
theorem lw_p72 : lw_okq (⟨"ThreePhaseGroupModel", "opens", "(I)Z"⟩, 27) := ⟨⟨by decide +kernel, by decide +kernel⟩, List.mem_of_getElem? (i := 628) (by decide +kernel), List.mem_of_getElem? (i := 866) (by decide +kernel), List.mem_of_getElem? (i := 867) (by decide +kernel)⟩
theorem lw_p73 : lw_okq (⟨"ThreePhaseGroupModel", "proposes", "(I)Z"⟩, 27) := ⟨⟨by decide +kernel, by decide +kernel⟩, List.mem_of_getElem? (i := 628) (by decide +kernel), List.mem_of_getElem? (i := 870) (by decide +kernel), List.mem_of_getElem? (i := 871) (by decide +kernel)⟩
theorem lw_p74 : lw_okq (⟨"ThreePhaseGroupModel", "forgeOne", "(IIJI)I"⟩, 27) := ⟨⟨by decide +kernel, by decide +kernel⟩, List.mem_of_getElem? (i := 628) (by decide +kernel), List.mem_of_getElem? (i := 891) (by decide +kernel), List.mem_of_getElem? (i := 892) (by decide +kernel)⟩
def lw_privs_5 : List (MethodName × Nat) := [(⟨"ThreePhaseGroupModel", "phase", "(IIII)Z"⟩, 27), (⟨"ThreePhaseGroupModel", "sent", "(III)Z"⟩, 27), (⟨"ThreePhaseGroupModel", "heard", "(IIIJI)I"⟩, 27), (⟨"ThreePhaseGroupModel", "executes", "(I)Z"⟩, 27), (⟨"ThreePhaseGroupModel", "serves", "(II)V"⟩, 27), (⟨"ThreePhaseGroupModel", "truncates", "(I)Z"⟩, 27), (⟨"ThreePhaseGroupModel", "joins", "(I)Z"⟩, 27), (⟨"ThreePhaseGroupModel", "begins", "(II)V"⟩, 27), (⟨"ThreePhaseGroupModel", "opens", "(I)Z"⟩, 27), (⟨"ThreePhaseGroupModel", "proposes", "(I)Z"⟩, 27), (⟨"ThreePhaseGroupModel", "forgeOne", "(IIJI)I"⟩, 27)]
theorem lw_r5 : ∀ q ∈ lw_privs_5, lw_okq q := List.forall_mem_cons.mpr ⟨lw_p64, List.forall_mem_cons.mpr ⟨lw_p65, List.forall_mem_cons.mpr ⟨lw_p66, List.forall_mem_cons.mpr ⟨lw_p67, List.forall_mem_cons.mpr ⟨lw_p68, List.forall_mem_cons.mpr ⟨lw_p69, List.forall_mem_cons.mpr ⟨lw_p70, List.forall_mem_cons.mpr ⟨lw_p71, List.forall_mem_cons.mpr ⟨lw_p72, List.forall_mem_cons.mpr ⟨lw_p73, List.forall_mem_cons.mpr ⟨lw_p74, fun _ h => absurd h List.not_mem_nil⟩⟩⟩⟩⟩⟩⟩⟩⟩⟩⟩
def lw_privs : List (MethodName × Nat) := lw_privs_1 ++ (lw_privs_2 ++ (lw_privs_3 ++ (lw_privs_4 ++ (lw_privs_5))))
def lw_tbl : List Cond := k2_sels lw_privs ++ tables_1
theorem lw_privs_ok : ∀ q ∈ lw_privs, lw_okq q := by
  show ∀ q ∈ lw_privs_1 ++ (lw_privs_2 ++ (lw_privs_3 ++ (lw_privs_4 ++ (lw_privs_5)))), lw_okq q
  exact List.forall_mem_append.mpr ⟨lw_r1, List.forall_mem_append.mpr ⟨lw_r2, List.forall_mem_append.mpr ⟨lw_r3, List.forall_mem_append.mpr ⟨lw_r4, lw_r5⟩⟩⟩⟩
end
section
/-! the kinds of places: 0 the group, 1 its board, 2 to 7 the board's rows, 8 9 10 replicas, clients, marks, 11 a replica, 12 its slots, 13 a slot, 14 15 its notes, 16 17 numbers (0 known, 1 checkpoints), 18 view changes, 19 20 a client; 21 the reference, 22 to 45 its rows -/
def xj_knd (k : Nat) : Nat := [4, 4, 0, 0, 0, 2, 0, 1, 3, 3, 0, 4, 3, 4, 2, 2, 4, 0, 0, 4, 2, 4, 0, 0, 0, 2, 0, 1, 1, 1, 0, 1, 0, 0, 2, 0, 0, 0, 0, 0, 0, 0, 0, 0, 1, 0].getD k 9
def xj_len (k : Nat) : Nat := [5, 8, 256, 256, 256, 256, 256, 256, 4, 2, 6, 14, 4, 5, 4, 4, 2, 256, 4, 6, 4, 27, 200, 200, 200, 200, 200, 200, 800, 800, 4, 4, 4, 4, 4, 4, 4, 800, 800, 800, 800, 2, 2, 2, 400, 6].getD k 0
def xj_cls (k : Nat) : Nat := [0, 1, 0, 0, 0, 0, 0, 0, 4, 5, 0, 2, 3, 3, 0, 0, 4, 0, 0, 5, 0, 6, 0, 0, 0, 0, 0, 0, 0, 0, 0, 0, 0, 0, 0, 0, 0, 0, 0, 0, 0, 0, 0, 0, 0, 0].getD k 9
def xj_typ (k x : Nat) : Nat := (([[2, 2, 2, 2, 0], [2, 2, 2, 2, 2, 2, 0, 0], [], [], [], [], [], [], [], [], [], [0, 2, 2, 2, 2, 2, 0, 0, 0, 0, 1, 0, 0, 0], [], [2, 2, 0, 0, 0], [], [], [2, 0], [], [], [0, 2, 2, 0, 0, 0], [], [0, 2, 2, 2, 2, 2, 2, 2, 2, 2, 2, 2, 2, 2, 2, 2, 2, 2, 2, 2, 0, 0, 2, 2, 2, 2, 2], [], [], [], [], [], [], [], [], [], [], [], [], [], [], [], [], [], [], [], [], [], [], [], []] : List (List Nat)).getD k []).getD x 9
def xj_PL : List (Nat × Nat × Nat) := [(0, 0, 0), (1, 0, 0), (2, 0, 0), (3, 0, 0), (4, 0, 0), (5, 0, 0), (6, 0, 0), (7, 0, 0), (8, 0, 0), (9, 0, 0), (10, 0, 0), (11, 0, 0), (12, 0, 0), (16, 0, 0), (17, 0, 0), (16, 0, 1), (17, 0, 1), (18, 0, 0), (13, 0, 0), (14, 0, 0), (15, 0, 0), (13, 0, 1), (14, 0, 1), (15, 0, 1), (13, 0, 2), (14, 0, 2), (15, 0, 2), (13, 0, 3), (14, 0, 3), (15, 0, 3), (11, 1, 0), (12, 1, 0), (16, 1, 0), (17, 1, 0), (16, 1, 1), (17, 1, 1), (18, 1, 0), (13, 1, 0), (14, 1, 0), (15, 1, 0), (13, 1, 1), (14, 1, 1), (15, 1, 1), (13, 1, 2), (14, 1, 2), (15, 1, 2), (13, 1, 3), (14, 1, 3), (15, 1, 3), (11, 2, 0), (12, 2, 0), (16, 2, 0), (17, 2, 0), (16, 2, 1), (17, 2, 1), (18, 2, 0), (13, 2, 0), (14, 2, 0), (15, 2, 0), (13, 2, 1), (14, 2, 1), (15, 2, 1), (13, 2, 2), (14, 2, 2), (15, 2, 2), (13, 2, 3), (14, 2, 3), (15, 2, 3), (11, 3, 0), (12, 3, 0), (16, 3, 0), (17, 3, 0), (16, 3, 1), (17, 3, 1), (18, 3, 0), (13, 3, 0), (14, 3, 0), (15, 3, 0), (13, 3, 1), (14, 3, 1), (15, 3, 1), (13, 3, 2), (14, 3, 2), (15, 3, 2), (13, 3, 3), (14, 3, 3), (15, 3, 3), (19, 0, 0), (20, 0, 0), (19, 1, 0), (20, 1, 0), (21, 0, 0), (22, 0, 0), (23, 0, 0), (24, 0, 0), (25, 0, 0), (26, 0, 0), (27, 0, 0), (28, 0, 0), (29, 0, 0), (30, 0, 0), (31, 0, 0), (32, 0, 0), (33, 0, 0), (34, 0, 0), (35, 0, 0), (36, 0, 0), (37, 0, 0), (38, 0, 0), (39, 0, 0), (40, 0, 0), (41, 0, 0), (42, 0, 0), (43, 0, 0), (44, 0, 0), (45, 0, 0)]
def xj_ix (p : Nat × Nat × Nat) : Nat := match p.1 with
  | 11 => 11 + 19 * p.2.1
  | 12 => 12 + 19 * p.2.1
  | 13 => 18 + 19 * p.2.1 + 3 * p.2.2
  | 14 => 19 + 19 * p.2.1 + 3 * p.2.2
  | 15 => 20 + 19 * p.2.1 + 3 * p.2.2
  | 16 => 13 + 19 * p.2.1 + 2 * p.2.2
  | 17 => 14 + 19 * p.2.1 + 2 * p.2.2
  | 18 => 17 + 19 * p.2.1
  | 19 => 87 + 2 * p.2.1
  | 20 => 88 + 2 * p.2.1
  | k => if k < 11 then k else 70 + k
theorem xj_PL_all : (List.range 116).all (fun q => match xj_PL[q]? with | some p => xj_ix p == q | none => false) = true := by decide +kernel
theorem xj_PL_len : xj_PL.length = 116 := by decide +kernel
theorem xj_PL_ix (q : Nat) (p : Nat × Nat × Nat) (h : xj_PL[q]? = some p) : xj_ix p = q := by
  have hq : q < 116 := by
    have := (List.getElem?_eq_some_iff.mp h).1
    rw [xj_PL_len] at this
    exact this
  have h1 := List.all_eq_true.mp xj_PL_all q (List.mem_range.mpr hq)
  rw [h] at h1
  simpa using h1
/-- the references of the settled world -/
def xj_K0 (k r i x : Nat) : Option (Nat × Nat × Nat) := match k with
  | 0 => if x < 4 then ([some (1, 0, 0), some (8, 0, 0), some (9, 0, 0), some (10, 0, 0)].getD x none) else none
  | 1 => if x < 6 then some (2 + x, 0, 0) else none
  | 8 => if x < 4 then some (11, x, 0) else none
  | 9 => if x < 2 then some (19, x, 0) else none
  | 11 => ([none, some (1, 0, 0), some (12, r, 0), some (16, r, 0), some (16, r, 1), some (18, r, 0)].getD x none)
  | 12 => if x < 4 then some (13, r, x) else none
  | 13 => ([some (14, r, i), some (15, r, i)].getD x none)
  | 16 => ([some (17, r, i)].getD x none)
  | 19 => ([none, some (1, 0, 0), some (20, r, 0)].getD x none)
  | 21 => ([none, some (22, 0, 0), some (23, 0, 0), some (24, 0, 0), some (25, 0, 0), some (26, 0, 0), some (27, 0, 0), some (28, 0, 0), some (29, 0, 0), some (30, 0, 0), some (31, 0, 0), some (32, 0, 0), some (33, 0, 0), some (34, 0, 0), some (35, 0, 0), some (36, 0, 0), some (37, 0, 0), some (38, 0, 0), some (39, 0, 0), some (40, 0, 0), none, none, some (41, 0, 0), some (42, 0, 0), some (43, 0, 0), some (44, 0, 0), some (45, 0, 0)].getD x none)
  | _ => none
def xj_T0 : u_T := fun k => match k with
  | 0 => ("ThreePhaseGroup", "board", "LThreePhaseGroup$Board;", true)
  | 1 => ("ThreePhaseGroup", "replicas", "[LThreePhaseGroup$Replica;", true)
  | 2 => ("ThreePhaseGroup", "clients", "[LThreePhaseGroup$Client;", true)
  | 3 => ("ThreePhaseGroup", "marks", "[I", true)
  | _ => ("ThreePhaseGroup", "faulty", "I", false)
def xj_t0 : Nat → FieldType := fun k => match k with
  | 0 => .object "ThreePhaseGroup$Board"
  | 1 => .array (.object "ThreePhaseGroup$Replica")
  | 2 => .array (.object "ThreePhaseGroup$Client")
  | 3 => .array (.int)
  | _ => .int
def xj_T1 : u_T := fun k => match k with
  | 0 => ("ThreePhaseGroup$Board", "kind", "[I", true)
  | 1 => ("ThreePhaseGroup$Board", "sender", "[I", true)
  | 2 => ("ThreePhaseGroup$Board", "a", "[I", true)
  | 3 => ("ThreePhaseGroup$Board", "b", "[J", true)
  | 4 => ("ThreePhaseGroup$Board", "c", "[I", true)
  | 5 => ("ThreePhaseGroup$Board", "valid", "[Z", true)
  | 6 => ("ThreePhaseGroup$Board", "size", "I", false)
  | _ => ("ThreePhaseGroup$Board", "judged", "I", false)
def xj_t1 : Nat → FieldType := fun k => match k with
  | 0 => .array (.int)
  | 1 => .array (.int)
  | 2 => .array (.int)
  | 3 => .array (.long)
  | 4 => .array (.int)
  | 5 => .array (.boolean)
  | 6 => .int
  | _ => .int
def xj_T2 : u_T := fun k => match k with
  | 0 => ("ThreePhaseGroup$Replica", "self", "I", true)
  | 1 => ("ThreePhaseGroup$Replica", "board", "LThreePhaseGroup$Board;", true)
  | 2 => ("ThreePhaseGroup$Replica", "slots", "[LThreePhaseGroup$Slot;", true)
  | 3 => ("ThreePhaseGroup$Replica", "known", "LThreePhaseGroup$Numbers;", true)
  | 4 => ("ThreePhaseGroup$Replica", "checkpoints", "LThreePhaseGroup$Numbers;", true)
  | 5 => ("ThreePhaseGroup$Replica", "viewChanges", "[I", true)
  | 6 => ("ThreePhaseGroup$Replica", "view", "I", false)
  | 7 => ("ThreePhaseGroup$Replica", "changing", "Z", false)
  | 8 => ("ThreePhaseGroup$Replica", "stable", "I", false)
  | 9 => ("ThreePhaseGroup$Replica", "executed", "I", false)
  | 10 => ("ThreePhaseGroup$Replica", "state", "J", false)
  | 11 => ("ThreePhaseGroup$Replica", "timer", "I", false)
  | 12 => ("ThreePhaseGroup$Replica", "span", "I", false)
  | _ => ("ThreePhaseGroup$Replica", "renewing", "Z", false)
def xj_t2 : Nat → FieldType := fun k => match k with
  | 0 => .int
  | 1 => .object "ThreePhaseGroup$Board"
  | 2 => .array (.object "ThreePhaseGroup$Slot")
  | 3 => .object "ThreePhaseGroup$Numbers"
  | 4 => .object "ThreePhaseGroup$Numbers"
  | 5 => .array (.int)
  | 6 => .int
  | 7 => .boolean
  | 8 => .int
  | 9 => .int
  | 10 => .long
  | 11 => .int
  | 12 => .int
  | _ => .boolean
def xj_T3 : u_T := fun k => match k with
  | 0 => ("ThreePhaseGroup$Slot", "prepares", "[J", true)
  | 1 => ("ThreePhaseGroup$Slot", "commits", "[J", true)
  | 2 => ("ThreePhaseGroup$Slot", "accepted", "I", false)
  | 3 => ("ThreePhaseGroup$Slot", "decided", "I", false)
  | _ => ("ThreePhaseGroup$Slot", "claim", "I", false)
def xj_t3 : Nat → FieldType := fun k => match k with
  | 0 => .array (.long)
  | 1 => .array (.long)
  | 2 => .int
  | 3 => .int
  | _ => .int
def xj_T4 : u_T := fun k => match k with
  | 0 => ("ThreePhaseGroup$Numbers", "at", "[I", true)
  | _ => ("ThreePhaseGroup$Numbers", "size", "I", false)
def xj_t4 : Nat → FieldType := fun k => match k with
  | 0 => .array (.int)
  | _ => .int
def xj_T5 : u_T := fun k => match k with
  | 0 => ("ThreePhaseGroup$Client", "self", "I", true)
  | 1 => ("ThreePhaseGroup$Client", "board", "LThreePhaseGroup$Board;", true)
  | 2 => ("ThreePhaseGroup$Client", "replies", "[J", true)
  | 3 => ("ThreePhaseGroup$Client", "submitted", "I", false)
  | 4 => ("ThreePhaseGroup$Client", "outstanding", "I", false)
  | _ => ("ThreePhaseGroup$Client", "latestAnswer", "I", false)
def xj_t5 : Nat → FieldType := fun k => match k with
  | 0 => .int
  | 1 => .object "ThreePhaseGroup$Board"
  | 2 => .array (.long)
  | 3 => .int
  | 4 => .int
  | _ => .int
def xj_T6 : u_T := fun k => match k with
  | 0 => ("ThreePhaseGroupModel", "count", "I", false)
  | 1 => ("ThreePhaseGroupModel", "kind", "[I", true)
  | 2 => ("ThreePhaseGroupModel", "from", "[I", true)
  | 3 => ("ThreePhaseGroupModel", "a", "[I", true)
  | 4 => ("ThreePhaseGroupModel", "b", "[J", true)
  | 5 => ("ThreePhaseGroupModel", "c", "[I", true)
  | 6 => ("ThreePhaseGroupModel", "forged", "[Z", true)
  | 7 => ("ThreePhaseGroupModel", "noted", "[Z", true)
  | 8 => ("ThreePhaseGroupModel", "known", "[Z", true)
  | 9 => ("ThreePhaseGroupModel", "view", "[I", true)
  | 10 => ("ThreePhaseGroupModel", "changing", "[Z", true)
  | 11 => ("ThreePhaseGroupModel", "h", "[I", true)
  | 12 => ("ThreePhaseGroupModel", "e", "[I", true)
  | 13 => ("ThreePhaseGroupModel", "state", "[J", true)
  | 14 => ("ThreePhaseGroupModel", "span", "[I", true)
  | 15 => ("ThreePhaseGroupModel", "timer", "[I", true)
  | 16 => ("ThreePhaseGroupModel", "accepted", "[I", true)
  | 17 => ("ThreePhaseGroupModel", "decided", "[I", true)
  | 18 => ("ThreePhaseGroupModel", "certified", "[I", true)
  | 19 => ("ThreePhaseGroupModel", "certView", "[I", true)
  | 20 => ("ThreePhaseGroupModel", "faulty", "I", false)
  | 21 => ("ThreePhaseGroupModel", "afresh", "Z", false)
  | 22 => ("ThreePhaseGroupModel", "stamp", "[I", true)
  | 23 => ("ThreePhaseGroupModel", "open", "[I", true)
  | 24 => ("ThreePhaseGroupModel", "reply", "[I", true)
  | 25 => ("ThreePhaseGroupModel", "taken", "[Z", true)
  | _ => ("ThreePhaseGroupModel", "mark", "[I", true)
def xj_t6 : Nat → FieldType := fun k => match k with
  | 0 => .int
  | 1 => .array (.int)
  | 2 => .array (.int)
  | 3 => .array (.int)
  | 4 => .array (.long)
  | 5 => .array (.int)
  | 6 => .array (.boolean)
  | 7 => .array (.boolean)
  | 8 => .array (.boolean)
  | 9 => .array (.int)
  | 10 => .array (.boolean)
  | 11 => .array (.int)
  | 12 => .array (.int)
  | 13 => .array (.long)
  | 14 => .array (.int)
  | 15 => .array (.int)
  | 16 => .array (.int)
  | 17 => .array (.int)
  | 18 => .array (.int)
  | 19 => .array (.int)
  | 20 => .int
  | 21 => .boolean
  | 22 => .array (.int)
  | 23 => .array (.int)
  | 24 => .array (.int)
  | 25 => .array (.boolean)
  | _ => .array (.int)
abbrev xj_cl : List vw_C := [("ThreePhaseGroup", xj_T0, 5), ("ThreePhaseGroup$Board", xj_T1, 8), ("ThreePhaseGroup$Replica", xj_T2, 14), ("ThreePhaseGroup$Slot", xj_T3, 5), ("ThreePhaseGroup$Numbers", xj_T4, 2), ("ThreePhaseGroup$Client", xj_T5, 6), ("ThreePhaseGroupModel", xj_T6, 27)]
abbrev xj_ty (G : va_G × (Nat → ClassId) × Nat) : List (ClassId × FieldType) := [(G.2.1 0, .int), (G.2.1 1, .boolean), (G.2.1 2, .long), (G.2.1 3, .object "ThreePhaseGroup$Slot"), (G.2.1 4, .object "ThreePhaseGroup$Replica"), (G.2.1 5, .object "ThreePhaseGroup$Client")]
/-- the tables' words that every method may use: those that stay, and those of nest mates and of arrays of objects -/
def xj_GW : List Cond := lw_tbl.filter goodWord
def xj_nest (c : Cond) : Bool := match c with
  | .fieldLinkNest .. => true
  | .methodLinkNest .. => true
  | .arrayOver (.object _) => true
  | _ => false
def xj_NW : List Cond := lw_tbl.filter xj_nest
theorem xj_GW_good : ∀ w ∈ xj_GW, (w.onTables && w.keeps) = true ∨ ∃ ty, w = .arrayClass ty := fun w h => good_of_word (List.mem_filter.mp h).2
theorem xj_NW_m (c : Cond) (hc : c ∈ xj_NW) {s U : State} (hW : s.WarmedH U.vm) (h : va_Nw c s) : va_Nw c U := by
  have h2 := (List.mem_filter.mp hc).2
  unfold xj_nest at h2
  split at h2
  · exact va_Nw.warmF hW h
  · exact va_Nw.warmM hW h
  · exact va_AO.moved hW.alike h
  · cases h2
theorem xj_NW_s (c : Cond) (hc : c ∈ xj_NW) {u U : State} (he : u.vm = U.vm) (h : va_Nw c u) : va_Nw c U := by
  have h2 := (List.mem_filter.mp hc).2
  unfold xj_nest at h2
  split at h2
  · exact va_Nw.same rfl he h
  · exact va_Nw.same rfl he h
  · exact va_AO.moved (by rw [he]; exact Vm.Alike.refl _) h
  · cases h2
end
section
/-! The judgement: a method's walk over a world of places. A place is (kind, r, i); its kind says what cell it is; the world holds the ints, the longs and the references of all places, and how many of them are made. -/
abbrev xj_Pl : Type := Nat × Nat × Nat
abbrev xj_I : Type := Nat → Nat → Nat → Nat → Int32
abbrev xj_J : Type := Nat → Nat → Nat → Nat → Int64
abbrev xj_K : Type := Nat → Nat → Nat → Nat → Option xj_Pl
abbrev xj_W : Type := (xj_I × xj_J) × (xj_K × Nat)
/-- what a launch gives: the classes' numbers and slots, the array classes' numbers, the first address of the world -/
abbrev xj_G : Type := va_G × (Nat → ClassId) × Nat
def xj_ad (G : xj_G) (p : xj_Pl) : Nat := G.2.2 + xj_ix p
def xj_fv (G : xj_G) (w : xj_W) (k r i x : Nat) : Value := match xj_typ k x with
  | 0 => .int (w.1.1 k r i x)
  | 1 => .long (w.1.2 k r i x)
  | _ => va_rf ((w.2.1 k r i x).map (xj_ad G))
def xj_cell (G : xj_G) (w : xj_W) (p : xj_Pl) : va_E := match xj_knd p.1 with
  | 0 => .inl (G.2.1 0, xj_len p.1, .inl (w.1.1 p.1 p.2.1 p.2.2))
  | 1 => .inl (G.2.1 1, xj_len p.1, .inl (w.1.1 p.1 p.2.1 p.2.2))
  | 2 => .inl (G.2.1 2, xj_len p.1, .inr (.inl (w.1.2 p.1 p.2.1 p.2.2)))
  | 3 => .inl (G.2.1 (xj_cls p.1), xj_len p.1, .inr (.inr (.inr (.inr (fun x => (w.2.1 p.1 p.2.1 p.2.2 x).map (xj_ad G))))))
  | _ => .inr (xj_cls p.1, (List.range (xj_len p.1)).map (fun x => xj_fv G w p.1 p.2.1 p.2.2 x))
def xj_mk (G : xj_G) (w : xj_W) : va_W := (xj_PL.take w.2.2).map (fun p => (xj_ad G p, xj_cell G w p))
/-- a place that is made -/
def xj_ok (p : xj_Pl) (n : Nat) : Prop := xj_PL[xj_ix p]? = some p ∧ xj_ix p < n
theorem xj_at {G : xj_G} {w : xj_W} {p : xj_Pl} (h : xj_ok p w.2.2) : (xj_mk G w)[xj_ix p]? = some (xj_ad G p, xj_cell G w p) := by
  unfold xj_mk
  rw [List.getElem?_map, List.getElem?_take, if_pos h.2, h.1]
  rfl
theorem xj_cell_congr {G : xj_G} {w w' : xj_W} {p : xj_Pl} (hI : ∀ x, w'.1.1 p.1 p.2.1 p.2.2 x = w.1.1 p.1 p.2.1 p.2.2 x) (hJ : ∀ x, w'.1.2 p.1 p.2.1 p.2.2 x = w.1.2 p.1 p.2.1 p.2.2 x) (hK : ∀ x, w'.2.1 p.1 p.2.1 p.2.2 x = w.2.1 p.1 p.2.1 p.2.2 x) : xj_cell G w' p = xj_cell G w p := by
  have e1 : w'.1.1 p.1 p.2.1 p.2.2 = w.1.1 p.1 p.2.1 p.2.2 := funext hI
  have e2 : w'.1.2 p.1 p.2.1 p.2.2 = w.1.2 p.1 p.2.1 p.2.2 := funext hJ
  have e3 : w'.2.1 p.1 p.2.1 p.2.2 = w.2.1 p.1 p.2.1 p.2.2 := funext hK
  unfold xj_cell xj_fv
  simp only [e1, e2, e3]
theorem xj_mk_set {G : xj_G} {w w' : xj_W} {p : xj_Pl} (h : xj_ok p w.2.2) (hn : w'.2.2 = w.2.2) (ho : ∀ p', p' ≠ p → xj_cell G w' p' = xj_cell G w p') : (xj_mk G w).set (xj_ix p) (xj_ad G p, xj_cell G w' p) = xj_mk G w' := by
  have h' : xj_ok p w'.2.2 := by rw [hn]; exact h
  apply List.ext_getElem?
  intro q
  by_cases hq : xj_ix p = q
  · subst hq
    have hl : xj_ix p < (xj_mk G w).length := (List.getElem?_eq_some_iff.mp (xj_at (G := G) h)).1
    rw [List.getElem?_set_self hl, xj_at (G := G) h']
  · rw [List.getElem?_set_ne hq]
    unfold xj_mk
    rw [List.getElem?_map, List.getElem?_map, hn]
    cases hx : (xj_PL.take w.2.2)[q]? with
    | none => rfl
    | some p' =>
      have hne : p' ≠ p := by
        intro e
        subst e
        have h2 : xj_PL[q]? = some p' := by
          rw [List.getElem?_take] at hx
          split at hx
          · exact hx
          · cases hx
        exact hq (xj_PL_ix q p' h2)
      show some (xj_ad G p', xj_cell G w p') = some (xj_ad G p', xj_cell G w' p')
      rw [ho p' hne]
def xj_uI (w : xj_W) (k r i x : Nat) (v : Int32) : xj_W := ((fun k' r' i' x' => if k' = k ∧ r' = r ∧ i' = i ∧ x' = x then v else w.1.1 k' r' i' x', w.1.2), w.2)
def xj_uJ (w : xj_W) (k r i x : Nat) (v : Int64) : xj_W := ((w.1.1, fun k' r' i' x' => if k' = k ∧ r' = r ∧ i' = i ∧ x' = x then v else w.1.2 k' r' i' x'), w.2)
def xj_uK (w : xj_W) (k r i x : Nat) (v : Option xj_Pl) : xj_W := (w.1, (fun k' r' i' x' => if k' = k ∧ r' = r ∧ i' = i ∧ x' = x then v else w.2.1 k' r' i' x', w.2.2))
theorem xj_uI_oth {G : xj_G} {w : xj_W} {k r i x : Nat} {v : Int32} (p' : xj_Pl) (h : p' ≠ (k, r, i)) : xj_cell G (xj_uI w k r i x v) p' = xj_cell G w p' := by
  refine xj_cell_congr (fun y => ?_) (fun _ => rfl) (fun _ => rfl)
  obtain ⟨a, b, c⟩ := p'
  show (if a = k ∧ b = r ∧ c = i ∧ y = x then v else w.1.1 a b c y) = _
  rw [if_neg]
  rintro ⟨rfl, rfl, rfl, -⟩
  exact h rfl
theorem xj_uJ_oth {G : xj_G} {w : xj_W} {k r i x : Nat} {v : Int64} (p' : xj_Pl) (h : p' ≠ (k, r, i)) : xj_cell G (xj_uJ w k r i x v) p' = xj_cell G w p' := by
  refine xj_cell_congr (fun _ => rfl) (fun y => ?_) (fun _ => rfl)
  obtain ⟨a, b, c⟩ := p'
  show (if a = k ∧ b = r ∧ c = i ∧ y = x then v else w.1.2 a b c y) = _
  rw [if_neg]
  rintro ⟨rfl, rfl, rfl, -⟩
  exact h rfl
theorem xj_uK_oth {G : xj_G} {w : xj_W} {k r i x : Nat} {v : Option xj_Pl} (p' : xj_Pl) (h : p' ≠ (k, r, i)) : xj_cell G (xj_uK w k r i x v) p' = xj_cell G w p' := by
  refine xj_cell_congr (fun _ => rfl) (fun _ => rfl) (fun y => ?_)
  obtain ⟨a, b, c⟩ := p'
  show (if a = k ∧ b = r ∧ c = i ∧ y = x then v else w.2.1 a b c y) = _
  rw [if_neg]
  rintro ⟨rfl, rfl, rfl, -⟩
  exact h rfl
theorem xj_rangeset {n x : Nat} {f g : Nat → Value} {v : Value} (hx : x < n) (hv : g x = v) (ho : ∀ y, y ≠ x → g y = f y) : ((List.range n).map f).set x v = (List.range n).map g := by
  apply List.ext_getElem?
  intro q
  by_cases hq : x = q
  · subst hq
    rw [List.getElem?_set_self (by simpa using hx)]
    simp [hx, hv]
  · rw [List.getElem?_set_ne hq]
    simp only [List.getElem?_map]
    by_cases h2 : q < n
    · simp [h2, ho q (fun e => hq e.symm)]
    · simp [h2]
theorem xj_setI {G : xj_G} {w : xj_W} {k r i x : Nat} {v : Int32} (hk : xj_knd k = 4) (hx : x < xj_len k) (ht : xj_typ k x = 0) : xj_cell G (xj_uI w k r i x v) (k, r, i) = .inr (xj_cls k, ((List.range (xj_len k)).map (fun x => xj_fv G w k r i x)).set x (.int v)) := by
  rw [xj_rangeset (g := fun y => xj_fv G (xj_uI w k r i x v) k r i y) hx]
  · unfold xj_cell
    simp only [hk]
  · show xj_fv _ _ k r i x = _
    unfold xj_fv
    simp only [ht]
    simp [xj_uI]
  · intro y hy
    show xj_fv _ _ k r i y = xj_fv _ _ k r i y
    unfold xj_fv
    simp [xj_uI, hy]
theorem xj_setJ {G : xj_G} {w : xj_W} {k r i x : Nat} {v : Int64} (hk : xj_knd k = 4) (hx : x < xj_len k) (ht : xj_typ k x = 1) : xj_cell G (xj_uJ w k r i x v) (k, r, i) = .inr (xj_cls k, ((List.range (xj_len k)).map (fun x => xj_fv G w k r i x)).set x (.long v)) := by
  rw [xj_rangeset (g := fun y => xj_fv G (xj_uJ w k r i x v) k r i y) hx]
  · unfold xj_cell
    simp only [hk]
  · show xj_fv _ _ k r i x = _
    unfold xj_fv
    simp only [ht]
    simp [xj_uJ]
  · intro y hy
    show xj_fv _ _ k r i y = xj_fv _ _ k r i y
    unfold xj_fv
    simp [xj_uJ, hy]
theorem xj_setK {G : xj_G} {w : xj_W} {k r i x : Nat} {v : Option xj_Pl} (hk : xj_knd k = 4) (hx : x < xj_len k) (ht : xj_typ k x = 2) : xj_cell G (xj_uK w k r i x v) (k, r, i) = .inr (xj_cls k, ((List.range (xj_len k)).map (fun x => xj_fv G w k r i x)).set x (va_rf (v.map (xj_ad G)))) := by
  rw [xj_rangeset (g := fun y => xj_fv G (xj_uK w k r i x v) k r i y) hx]
  · unfold xj_cell
    simp only [hk]
  · show xj_fv _ _ k r i x = _
    unfold xj_fv
    simp only [ht]
    simp [xj_uK]
  · intro y hy
    show xj_fv _ _ k r i y = xj_fv _ _ k r i y
    unfold xj_fv
    simp [xj_uK, hy]
/-! the locals, a value or nothing known a place -/
def xj_LH (ls : Array Slot) (L : List (Option Value)) : Prop := ls.size = L.length ∧ lv_wf ls ∧ ∀ (i : Nat) (v : Value), L[i]? = some (some v) → ls[i]? = some (.val v)
def xj_sl (vs : List Value) : List (Option Value) := vs.flatMap fun v => if v.category = 2 then [some v, none] else [some v]
def xj_L0 (vs : List Value) (n : Nat) : List (Option Value) := xj_sl vs ++ List.replicate (n - (xj_sl vs).length) none
theorem xj_sl_len (vs : List Value) : (xj_sl vs).length = (lg_sl vs).length := by
  induction vs with
  | nil => rfl
  | cons a vs ih =>
    unfold xj_sl lg_sl at ih ⊢
    rw [List.flatMap_cons, List.flatMap_cons, List.length_append, List.length_append, ih]
    by_cases h : a.category = 2
    · simp [h]
    · simp [h]
theorem xj_sl_at (vs : List Value) : ∀ (i : Nat) (v : Value), (xj_sl vs)[i]? = some (some v) → (lg_sl vs)[i]? = some (.val v) := by
  induction vs with
  | nil => intro i v h; simp [xj_sl] at h
  | cons a vs ih =>
    intro i v h
    have e1 : xj_sl (a :: vs) = (if a.category = 2 then [some a, none] else [some a]) ++ xj_sl vs := by unfold xj_sl; rw [List.flatMap_cons]
    have e2 : lg_sl (a :: vs) = (if a.category = 2 then [.val a, .second] else [.val a]) ++ lg_sl vs := by unfold lg_sl; rw [List.flatMap_cons]
    rw [e1] at h
    rw [e2]
    by_cases hc : a.category = 2
    · rw [if_pos hc] at h ⊢
      match i, h with
      | 0, h => simp at h; subst h; rfl
      | 1, h => simp at h
      | i + 2, h => exact ih i v (by simpa using h)
    · rw [if_neg hc] at h ⊢
      match i, h with
      | 0, h => simp at h; subst h; rfl
      | i + 1, h => exact ih i v (by simpa using h)
theorem xj_entry (vs : List Value) {n : Nat} (h : (lg_sl vs).length ≤ n) : xj_LH ((lg_sl vs ++ List.replicate (n - (lg_sl vs).length) Slot.unset).toArray) (xj_L0 vs n) := by
  obtain ⟨h1, h2, -⟩ := lv_entry vs h
  refine ⟨?_, h2, fun i v hi => ?_⟩
  · unfold xj_L0
    simp [xj_sl_len]
  · unfold xj_L0 at hi
    rw [List.getElem?_append] at hi
    split at hi
    · rename_i hl
      have := xj_sl_at vs i v hi
      rw [List.getElem?_toArray, List.getElem?_append_left (by rw [← xj_sl_len]; exact hl)]
      exact this
    · rw [List.getElem?_replicate] at hi
      split at hi
      · cases hi
      · cases hi
def xj_nl (v : Option Value) : Bool := match v with
  | some (.long _) => false
  | some (.double _) => false
  | _ => true
theorem xj_nl_cat {v : Value} (h : xj_nl (some v) = true) : ¬ v.category = 2 := by
  cases v <;> simp [xj_nl, Value.category] at h ⊢
/-- what stands just ahead is no long -/
def xj_pv (L : List (Option Value)) (i : Nat) : Bool := match i with
  | 0 => true
  | j + 1 => match L[j]? with
    | some v => xj_nl v
    | none => true
theorem xj_store1 {ls : Array Slot} {L : List (Option Value)} {i : Nat} {v : Value} (h : xj_LH ls L) (hi : i < L.length) (hc : v.category = 1) (hp : xj_pv L i = true) : ∃ ls', storeLocals ls i v = some ls' ∧ xj_LH ls' (L.set i (some v)) := by
  have h0 : lv_has ls L.length ((List.range L.length).filterMap (fun j => match L[j]? with | some (some x) => some (j, x) | _ => none)) := by
    refine ⟨h.1, h.2.1, fun q hq => ?_⟩
    obtain ⟨j, -, hj⟩ := List.mem_filterMap.mp hq
    revert hj
    cases hx : L[j]? with
    | none => simp
    | some y =>
      cases y with
      | none => simp
      | some z => simp; rintro rfl; exact h.2.2 j z hx
  obtain ⟨ls', e1, e2⟩ := lv_store1 h0 hi hc
  refine ⟨ls', e1, by rw [List.length_set]; exact e2.1, e2.2.1, fun j x hj => ?_⟩
  by_cases hji : i = j
  · subst hji
    rw [List.getElem?_set_self hi] at hj
    simp at hj
    subst hj
    exact e2.2.2 (i, v) (List.mem_cons_self)
  · rw [List.getElem?_set_ne hji] at hj
    refine e2.2.2 (j, x) (List.mem_cons_of_mem _ (List.mem_filter.mpr ⟨List.mem_filterMap.mpr ⟨j, List.mem_range.mpr (List.getElem?_eq_some_iff.mp hj).1, by simp [hj]⟩, ?_⟩))
    have a1 : ¬ j = i := fun e => hji e.symm
    have a2 : ¬ (j + 1 = i ∧ x.category = 2) := by
      rintro ⟨rfl, hc2⟩
      simp only [xj_pv, hj] at hp
      exact xj_nl_cat hp hc2
    simp [a1]
    exact Decidable.not_and_iff_not_or_not.mp a2
theorem xj_store2 {ls : Array Slot} {L : List (Option Value)} {i : Nat} {v : Value} (h : xj_LH ls L) (hi : i + 1 < L.length) (hc : v.category = 2) (hp : xj_pv L i = true) : ∃ ls', storeLocals ls i v = some ls' ∧ xj_LH ls' ((L.set i (some v)).set (i + 1) none) := by
  have h0 : lv_has ls L.length ((List.range L.length).filterMap (fun j => match L[j]? with | some (some x) => some (j, x) | _ => none)) := by
    refine ⟨h.1, h.2.1, fun q hq => ?_⟩
    obtain ⟨j, -, hj⟩ := List.mem_filterMap.mp hq
    revert hj
    cases hx : L[j]? with
    | none => simp
    | some y =>
      cases y with
      | none => simp
      | some z => simp; rintro rfl; exact h.2.2 j z hx
  obtain ⟨ls', e1, e2⟩ := lv_store2 h0 hi hc
  refine ⟨ls', e1, by rw [List.length_set, List.length_set]; exact e2.1, e2.2.1, fun j x hj => ?_⟩
  by_cases hj1 : i + 1 = j
  · subst hj1
    rw [List.getElem?_set_self (by rw [List.length_set]; exact hi)] at hj
    simp at hj
  · rw [List.getElem?_set_ne hj1] at hj
    by_cases hji : i = j
    · subst hji
      rw [List.getElem?_set_self (by omega)] at hj
      simp at hj
      subst hj
      exact e2.2.2 (i, v) (List.mem_cons_self)
    · rw [List.getElem?_set_ne hji] at hj
      refine e2.2.2 (j, x) (List.mem_cons_of_mem _ (List.mem_filter.mpr ⟨List.mem_filterMap.mpr ⟨j, List.mem_range.mpr (List.getElem?_eq_some_iff.mp hj).1, by simp [hj]⟩, ?_⟩))
      have a1 : ¬ j = i := fun e => hji e.symm
      have a3 : ¬ j = i + 1 := fun e => hj1 e.symm
      have a2 : ¬ (j + 1 = i ∧ x.category = 2) := by
        rintro ⟨rfl, hc2⟩
        simp only [xj_pv, hj] at hp
        exact xj_nl_cat hp hc2
      simp [a1, a3]
      exact Decidable.not_and_iff_not_or_not.mp a2
end
section
/-! the judgement -/
abbrev xj_E : Type := Program × Launch × Env × Room × State × MethodId × Array Value × List Frame × Method × Code
def xj_A (G : xj_G) : Nat → Prop := fun q => G.2.2 ≤ q
abbrev xj_s (E : xj_E) : State := E.2.2.2.2.1
abbrev xj_m (E : xj_E) : MethodId := E.2.2.2.2.2.1
abbrev xj_a (E : xj_E) : Array Value := E.2.2.2.2.2.2.1
abbrev xj_b (E : xj_E) : List Frame := E.2.2.2.2.2.2.2.1
abbrev xj_me (E : xj_E) : Method := E.2.2.2.2.2.2.2.2.1
abbrev xj_c (E : xj_E) : Code := E.2.2.2.2.2.2.2.2.2
abbrev xj_V (E : xj_E) (H : Heap) (locs : List Loc) (cs sl : Nat) (Q : State → Prop) (g : JFrame) : Prop := W E.1 E.2.1 E.2.2.1 E.2.2.2.1 (xj_s E) (xj_m E) (xj_a E) (xj_b E) (xj_me E) (xj_c E) H locs cs sl Q g
/-- from here, with these locals, this stack and this world, the machine comes to Q -/
def xj_X (E : xj_E) (G : xj_G) (Q : State → Prop) (cs sl pc : Nat) (L : List (Option Value)) (st : List Value) (w : xj_W) : Prop :=
  ∀ (ls : Array Slot) (H : Heap) (locs : List Loc), xj_LH ls L → H.size = G.2.2 + w.2.2 → va_P G.1 xj_cl (xj_mk G w) H → va_S (xj_A G) (xj_s E).heap H locs → xj_V E H locs cs sl Q (F0 (xj_m E) pc ls st)
/-- what holds all along a method -/
def xj_C (E : xj_E) (G : xj_G) (cc : ByteArray) (own : String) (nL d q c0 s0 : Nat) (ret : Option FieldType) : Prop :=
  E.1.tables.exec = Jvm.exec ∧ (xj_c E).code = cc ∧ (xj_c E).maxLocals = nL ∧ (xj_s E).vm.findClass own = some (xj_m E).cls ∧ (∀ w ∈ xj_GW, w.before (xj_a E) (xj_s E) = true) ∧ (∀ w ∈ xj_NW, va_Nw w (xj_s E)) ∧ va_K G.1 xj_cl (xj_ty G) (xj_s E) ∧ (d ≤ E.2.2.2.1.frames ∧ q ≤ E.2.2.2.1.locals ∧ c0 ≤ E.2.2.2.1.cells ∧ s0 ≤ E.2.2.2.1.slots) ∧ (xj_me E).sig.returnType = ret ∧ (xj_me E).locks = false
def xj_At (cc : ByteArray) (pc : Nat) (i : Instr) (len nx : Nat) : Prop := decode cc pc = .ok (i, len) ∧ pc + len = nx
theorem xj_D (G : xj_G) (w : xj_W) : va_D (xj_A G) (xj_mk G w) := by
  have key : ∀ (i : Nat) (q : Nat × va_E), (xj_mk G w)[i]? = some q → q.1 = G.2.2 + i := by
    intro i q h
    unfold xj_mk at h
    rw [List.getElem?_map] at h
    cases hx : (xj_PL.take w.2.2)[i]? with
    | none => rw [hx] at h; cases h
    | some p' =>
      rw [hx] at h
      have h2 : xj_PL[i]? = some p' := by
        rw [List.getElem?_take] at hx
        split at hx
        · exact hx
        · cases hx
      have h3 := xj_PL_ix i p' h2
      have h4 : (xj_ad G p', xj_cell G w p') = q := Option.some.inj h
      rw [← h4]
      show G.2.2 + xj_ix p' = _
      rw [h3]
  refine ⟨fun i j a b ha hb hab => ?_, fun k q hk => ?_⟩
  · have h1 := key i a ha
    have h2 := key j b hb
    omega
  · show G.2.2 ≤ q.1
    rw [key k q hk]
    omega
section XJ
variable {E : xj_E} {G : xj_G} {cc : ByteArray} {own : String} {nL d q c0 s0 : Nat} {ret : Option FieldType} {Q : State → Prop} {cs sl pc nx : Nat} {L : List (Option Value)} {st rest : List Value} {w : xj_W}
theorem xj_as {w2 : xj_W} (h : w = w2) (k : xj_X E G Q cs sl pc L st w2) : xj_X E G Q cs sl pc L st w := h ▸ k
theorem xj_topi {x y : Int32} (h : x = y) (k : xj_X E G Q cs sl pc L (.int y :: rest) w) : xj_X E G Q cs sl pc L (.int x :: rest) w := h ▸ k
theorem xj_topl {x y : Int64} (h : x = y) (k : xj_X E G Q cs sl pc L (.long y :: rest) w) : xj_X E G Q cs sl pc L (.long x :: rest) w := h ▸ k
theorem xj_stk {st2 : List Value} (h : st = st2) (k : xj_X E G Q cs sl pc L st2 w) : xj_X E G Q cs sl pc L st w := h ▸ k
theorem xj_loc {L2 : List (Option Value)} (h : L = L2) (k : xj_X E G Q cs sl pc L2 st w) : xj_X E G Q cs sl pc L st w := h ▸ k

theorem xj_iconst (C : xj_C E G cc own nL d q c0 s0 ret) {n : Int} {v : Int32} (a : xj_At cc pc (.iconst n) 1 nx) (hv : Int32.ofInt n = v) (k : xj_X E G Q cs sl nx L (.int v :: st) w) : xj_X E G Q cs sl pc L (st) w := by
  obtain ⟨hd, hn⟩ := a
  subst hn
  exact fun ls H locs h1 h2 h3 h4 => lv_iconst C.1 C.2.1 hd hv (k ls H locs h1 h2 h3 h4)
theorem xj_bipush (C : xj_C E G cc own nL d q c0 s0 ret) {n : Int} {v : Int32} (a : xj_At cc pc (.bipush n) 2 nx) (hv : (Int8.ofInt n).toInt32 = v) (k : xj_X E G Q cs sl nx L (.int v :: st) w) : xj_X E G Q cs sl pc L (st) w := by
  obtain ⟨hd, hn⟩ := a
  subst hn
  exact fun ls H locs h1 h2 h3 h4 => lv_bipush C.1 C.2.1 hd hv (k ls H locs h1 h2 h3 h4)
theorem xj_sipush (C : xj_C E G cc own nL d q c0 s0 ret) {n : Int} {v : Int32} (a : xj_At cc pc (.sipush n) 3 nx) (hv : (Int16.ofInt n).toInt32 = v) (k : xj_X E G Q cs sl nx L (.int v :: st) w) : xj_X E G Q cs sl pc L (st) w := by
  obtain ⟨hd, hn⟩ := a
  subst hn
  exact fun ls H locs h1 h2 h3 h4 => lv_sipush C.1 C.2.1 hd hv (k ls H locs h1 h2 h3 h4)
theorem xj_lconst (C : xj_C E G cc own nL d q c0 s0 ret) {n : Fin 2} {v : Int64} (a : xj_At cc pc (.lconst n) 1 nx) (hv : Int64.ofNat (n : Nat) = v) (k : xj_X E G Q cs sl nx L (.long v :: st) w) : xj_X E G Q cs sl pc L (st) w := by
  obtain ⟨hd, hn⟩ := a
  subst hn
  exact fun ls H locs h1 h2 h3 h4 => lv_lconst C.1 C.2.1 hd hv (k ls H locs h1 h2 h3 h4)
theorem xj_iload_n (C : xj_C E G cc own nL d q c0 s0 ret) {n : Fin 4} {x : Int32} (a : xj_At cc pc (.iload_n n) 1 nx) (hx : L[(n : Nat)]? = some (some (.int x))) (k : xj_X E G Q cs sl nx L (.int x :: st) w) : xj_X E G Q cs sl pc L st w := by
  obtain ⟨hd, hn⟩ := a
  subst hn
  exact fun ls H locs h1 h2 h3 h4 => lv_iload_n C.1 C.2.1 hd rfl (h1.2.2 _ _ hx) (k ls H locs h1 h2 h3 h4)
theorem xj_iload (C : xj_C E G cc own nL d q c0 s0 ret) {n : Nat} {x : Int32} (a : xj_At cc pc (.iload n) 2 nx) (hx : L[n]? = some (some (.int x))) (k : xj_X E G Q cs sl nx L (.int x :: st) w) : xj_X E G Q cs sl pc L st w := by
  obtain ⟨hd, hn⟩ := a
  subst hn
  exact fun ls H locs h1 h2 h3 h4 => lv_iload C.1 C.2.1 hd (h1.2.2 _ _ hx) (k ls H locs h1 h2 h3 h4)
theorem xj_lload_n (C : xj_C E G cc own nL d q c0 s0 ret) {n : Fin 4} {x : Int64} (a : xj_At cc pc (.lload_n n) 1 nx) (hx : L[(n : Nat)]? = some (some (.long x))) (k : xj_X E G Q cs sl nx L (.long x :: st) w) : xj_X E G Q cs sl pc L st w := by
  obtain ⟨hd, hn⟩ := a
  subst hn
  exact fun ls H locs h1 h2 h3 h4 => lv_lload_n C.1 C.2.1 hd rfl (h1.2.2 _ _ hx) (k ls H locs h1 h2 h3 h4)
theorem xj_lload (C : xj_C E G cc own nL d q c0 s0 ret) {n : Nat} {x : Int64} (a : xj_At cc pc (.lload n) 2 nx) (hx : L[n]? = some (some (.long x))) (k : xj_X E G Q cs sl nx L (.long x :: st) w) : xj_X E G Q cs sl pc L st w := by
  obtain ⟨hd, hn⟩ := a
  subst hn
  exact fun ls H locs h1 h2 h3 h4 => lv_lload C.1 C.2.1 hd (h1.2.2 _ _ hx) (k ls H locs h1 h2 h3 h4)
theorem xj_aload_n (C : xj_C E G cc own nL d q c0 s0 ret) {n : Fin 4} {x : Nat} (a : xj_At cc pc (.aload_n n) 1 nx) (hx : L[(n : Nat)]? = some (some (.ref x))) (k : xj_X E G Q cs sl nx L (.ref x :: st) w) : xj_X E G Q cs sl pc L st w := by
  obtain ⟨hd, hn⟩ := a
  subst hn
  exact fun ls H locs h1 h2 h3 h4 => lv_aload_n C.1 C.2.1 hd rfl (h1.2.2 _ _ hx) (k ls H locs h1 h2 h3 h4)
theorem xj_aload (C : xj_C E G cc own nL d q c0 s0 ret) {n : Nat} {x : Nat} (a : xj_At cc pc (.aload n) 2 nx) (hx : L[n]? = some (some (.ref x))) (k : xj_X E G Q cs sl nx L (.ref x :: st) w) : xj_X E G Q cs sl pc L st w := by
  obtain ⟨hd, hn⟩ := a
  subst hn
  exact fun ls H locs h1 h2 h3 h4 => lv_aload C.1 C.2.1 hd (h1.2.2 _ _ hx) (k ls H locs h1 h2 h3 h4)
theorem xj_istoreG_n (C : xj_C E G cc own nL d q c0 s0 ret) {n : Fin 4} {x : Int32} (a : xj_At cc pc (.istore_n n) 1 nx) (hi : (n : Nat) < L.length) (hp : xj_pv L (n : Nat) = true) (k : xj_X E G Q cs sl nx (L.set (n : Nat) (some (.int x))) st w) : xj_X E G Q cs sl pc L (.int x :: st) w := by
  obtain ⟨hd, hn⟩ := a
  subst hn
  intro ls H locs h1 h2 h3 h4
  obtain ⟨ls', e', h'⟩ := xj_store1 (v := .int x) h1 hi rfl hp
  intro T hT X
  obtain ⟨t, a, b⟩ := k ls' H locs h' h2 h3 h4 T hT X
  refine ⟨t, ?_, b⟩
  have hb := C.2.1
  have hexec := C.1
  jvm_step X.here [X.here.top, ↓top_set X.here.top, hexec, hb, hd, e']
  exact a
theorem xj_istoreG (C : xj_C E G cc own nL d q c0 s0 ret) {n : Nat} {x : Int32} (a : xj_At cc pc (.istore n) 2 nx) (hi : n < L.length) (hp : xj_pv L n = true) (k : xj_X E G Q cs sl nx (L.set n (some (.int x))) st w) : xj_X E G Q cs sl pc L (.int x :: st) w := by
  obtain ⟨hd, hn⟩ := a
  subst hn
  intro ls H locs h1 h2 h3 h4
  obtain ⟨ls', e', h'⟩ := xj_store1 (v := .int x) h1 hi rfl hp
  intro T hT X
  obtain ⟨t, a, b⟩ := k ls' H locs h' h2 h3 h4 T hT X
  refine ⟨t, ?_, b⟩
  have hb := C.2.1
  have hexec := C.1
  jvm_step X.here [X.here.top, ↓top_set X.here.top, hexec, hb, hd, e']
  exact a
theorem xj_lstoreG_n (C : xj_C E G cc own nL d q c0 s0 ret) {n : Fin 4} {x : Int64} (a : xj_At cc pc (.lstore_n n) 1 nx) (hi : (n : Nat) + 1 < L.length) (hp : xj_pv L (n : Nat) = true) (k : xj_X E G Q cs sl nx ((L.set (n : Nat) (some (.long x))).set ((n : Nat) + 1) none) st w) : xj_X E G Q cs sl pc L (.long x :: st) w := by
  obtain ⟨hd, hn⟩ := a
  subst hn
  intro ls H locs h1 h2 h3 h4
  obtain ⟨ls', e', h'⟩ := xj_store2 (v := .long x) h1 hi rfl hp
  intro T hT X
  obtain ⟨t, a, b⟩ := k ls' H locs h' h2 h3 h4 T hT X
  refine ⟨t, ?_, b⟩
  have hb := C.2.1
  have hexec := C.1
  jvm_step X.here [X.here.top, ↓top_set X.here.top, hexec, hb, hd, e']
  exact a
theorem xj_lstoreG (C : xj_C E G cc own nL d q c0 s0 ret) {n : Nat} {x : Int64} (a : xj_At cc pc (.lstore n) 2 nx) (hi : n + 1 < L.length) (hp : xj_pv L n = true) (k : xj_X E G Q cs sl nx ((L.set n (some (.long x))).set (n + 1) none) st w) : xj_X E G Q cs sl pc L (.long x :: st) w := by
  obtain ⟨hd, hn⟩ := a
  subst hn
  intro ls H locs h1 h2 h3 h4
  obtain ⟨ls', e', h'⟩ := xj_store2 (v := .long x) h1 hi rfl hp
  intro T hT X
  obtain ⟨t, a, b⟩ := k ls' H locs h' h2 h3 h4 T hT X
  refine ⟨t, ?_, b⟩
  have hb := C.2.1
  have hexec := C.1
  jvm_step X.here [X.here.top, ↓top_set X.here.top, hexec, hb, hd, e']
  exact a
theorem xj_astoreG_n (C : xj_C E G cc own nL d q c0 s0 ret) {n : Fin 4} {x : Nat} (a : xj_At cc pc (.astore_n n) 1 nx) (hi : (n : Nat) < L.length) (hp : xj_pv L (n : Nat) = true) (k : xj_X E G Q cs sl nx (L.set (n : Nat) (some (.ref x))) st w) : xj_X E G Q cs sl pc L (.ref x :: st) w := by
  obtain ⟨hd, hn⟩ := a
  subst hn
  intro ls H locs h1 h2 h3 h4
  obtain ⟨ls', e', h'⟩ := xj_store1 (v := .ref x) h1 hi rfl hp
  intro T hT X
  obtain ⟨t, a, b⟩ := k ls' H locs h' h2 h3 h4 T hT X
  refine ⟨t, ?_, b⟩
  have hb := C.2.1
  have hexec := C.1
  jvm_step X.here [X.here.top, ↓top_set X.here.top, hexec, hb, hd, e', Value.isRef]
  exact a
theorem xj_astoreG (C : xj_C E G cc own nL d q c0 s0 ret) {n : Nat} {x : Nat} (a : xj_At cc pc (.astore n) 2 nx) (hi : n < L.length) (hp : xj_pv L n = true) (k : xj_X E G Q cs sl nx (L.set n (some (.ref x))) st w) : xj_X E G Q cs sl pc L (.ref x :: st) w := by
  obtain ⟨hd, hn⟩ := a
  subst hn
  intro ls H locs h1 h2 h3 h4
  obtain ⟨ls', e', h'⟩ := xj_store1 (v := .ref x) h1 hi rfl hp
  intro T hT X
  obtain ⟨t, a, b⟩ := k ls' H locs h' h2 h3 h4 T hT X
  refine ⟨t, ?_, b⟩
  have hb := C.2.1
  have hexec := C.1
  jvm_step X.here [X.here.top, ↓top_set X.here.top, hexec, hb, hd, e', Value.isRef]
  exact a
theorem xj_iincG (C : xj_C E G cc own nL d q c0 s0 ret) {n : Nat} {z : Int} {x v : Int32} (a : xj_At cc pc (.iinc n z) 3 nx) (hx : L[n]? = some (some (.int x))) (hv : Int32.ofInt z = v) (hp : xj_pv L n = true) (k : xj_X E G Q cs sl nx (L.set n (some (.int (x + v)))) st w) : xj_X E G Q cs sl pc L st w := by
  obtain ⟨hd, hn⟩ := a
  subst hn
  subst hv
  intro ls H locs h1 h2 h3 h4
  have hi : n < L.length := (List.getElem?_eq_some_iff.mp hx).1
  have hg := h1.2.2 _ _ hx
  obtain ⟨ls', e', h'⟩ := xj_store1 (v := .int (x + Int32.ofInt z)) h1 hi rfl hp
  intro T hT X
  obtain ⟨t, a, b⟩ := k ls' H locs h' h2 h3 h4 T hT X
  refine ⟨t, ?_, b⟩
  have hb := C.2.1
  have hexec := C.1
  jvm_step X.here [X.here.top, ↓top_set X.here.top, hexec, hb, hd, hg, e']
  exact a
theorem xj_iadd (C : xj_C E G cc own nL d q c0 s0 ret) {x y : Int32} (a : xj_At cc pc (.iadd) 1 nx)  (k : xj_X E G Q cs sl nx L (.int (x + y) :: st) w) : xj_X E G Q cs sl pc L (.int y :: .int x :: st) w := by
  obtain ⟨hd, hn⟩ := a
  subst hn
  exact fun ls H locs h1 h2 h3 h4 => lv_iadd C.1 C.2.1 hd  (k ls H locs h1 h2 h3 h4)
theorem xj_isub (C : xj_C E G cc own nL d q c0 s0 ret) {x y : Int32} (a : xj_At cc pc (.isub) 1 nx)  (k : xj_X E G Q cs sl nx L (.int (x - y) :: st) w) : xj_X E G Q cs sl pc L (.int y :: .int x :: st) w := by
  obtain ⟨hd, hn⟩ := a
  subst hn
  exact fun ls H locs h1 h2 h3 h4 => lv_isub C.1 C.2.1 hd  (k ls H locs h1 h2 h3 h4)
theorem xj_imul (C : xj_C E G cc own nL d q c0 s0 ret) {x y : Int32} (a : xj_At cc pc (.imul) 1 nx)  (k : xj_X E G Q cs sl nx L (.int (x * y) :: st) w) : xj_X E G Q cs sl pc L (.int y :: .int x :: st) w := by
  obtain ⟨hd, hn⟩ := a
  subst hn
  exact fun ls H locs h1 h2 h3 h4 => lv_imul C.1 C.2.1 hd  (k ls H locs h1 h2 h3 h4)
theorem xj_iand (C : xj_C E G cc own nL d q c0 s0 ret) {x y : Int32} (a : xj_At cc pc (.iand) 1 nx)  (k : xj_X E G Q cs sl nx L (.int (x &&& y) :: st) w) : xj_X E G Q cs sl pc L (.int y :: .int x :: st) w := by
  obtain ⟨hd, hn⟩ := a
  subst hn
  exact fun ls H locs h1 h2 h3 h4 => lv_iand C.1 C.2.1 hd  (k ls H locs h1 h2 h3 h4)
theorem xj_ior (C : xj_C E G cc own nL d q c0 s0 ret) {x y : Int32} (a : xj_At cc pc (.ior) 1 nx)  (k : xj_X E G Q cs sl nx L (.int (x ||| y) :: st) w) : xj_X E G Q cs sl pc L (.int y :: .int x :: st) w := by
  obtain ⟨hd, hn⟩ := a
  subst hn
  exact fun ls H locs h1 h2 h3 h4 => lv_ior C.1 C.2.1 hd  (k ls H locs h1 h2 h3 h4)
theorem xj_ixor (C : xj_C E G cc own nL d q c0 s0 ret) {x y : Int32} (a : xj_At cc pc (.ixor) 1 nx)  (k : xj_X E G Q cs sl nx L (.int (x ^^^ y) :: st) w) : xj_X E G Q cs sl pc L (.int y :: .int x :: st) w := by
  obtain ⟨hd, hn⟩ := a
  subst hn
  exact fun ls H locs h1 h2 h3 h4 => lv_ixor C.1 C.2.1 hd  (k ls H locs h1 h2 h3 h4)
theorem xj_idiv (C : xj_C E G cc own nL d q c0 s0 ret) {x y : Int32} (a : xj_At cc pc (.idiv) 1 nx) (hne : ¬ y = 0) (k : xj_X E G Q cs sl nx L (.int (x / y) :: st) w) : xj_X E G Q cs sl pc L (.int y :: .int x :: st) w := by
  obtain ⟨hd, hn⟩ := a
  subst hn
  exact fun ls H locs h1 h2 h3 h4 => lv_idiv C.1 C.2.1 hd hne (k ls H locs h1 h2 h3 h4)
theorem xj_irem (C : xj_C E G cc own nL d q c0 s0 ret) {x y : Int32} (a : xj_At cc pc (.irem) 1 nx) (hne : ¬ y = 0) (k : xj_X E G Q cs sl nx L (.int (x - x / y * y) :: st) w) : xj_X E G Q cs sl pc L (.int y :: .int x :: st) w := by
  obtain ⟨hd, hn⟩ := a
  subst hn
  exact fun ls H locs h1 h2 h3 h4 => lv_irem C.1 C.2.1 hd hne (k ls H locs h1 h2 h3 h4)
theorem xj_ladd (C : xj_C E G cc own nL d q c0 s0 ret) {x y : Int64} (a : xj_At cc pc (.ladd) 1 nx)  (k : xj_X E G Q cs sl nx L (.long (x + y) :: st) w) : xj_X E G Q cs sl pc L (.long y :: .long x :: st) w := by
  obtain ⟨hd, hn⟩ := a
  subst hn
  exact fun ls H locs h1 h2 h3 h4 => lv_ladd C.1 C.2.1 hd  (k ls H locs h1 h2 h3 h4)
theorem xj_lsub (C : xj_C E G cc own nL d q c0 s0 ret) {x y : Int64} (a : xj_At cc pc (.lsub) 1 nx)  (k : xj_X E G Q cs sl nx L (.long (x - y) :: st) w) : xj_X E G Q cs sl pc L (.long y :: .long x :: st) w := by
  obtain ⟨hd, hn⟩ := a
  subst hn
  exact fun ls H locs h1 h2 h3 h4 => lv_lsub C.1 C.2.1 hd  (k ls H locs h1 h2 h3 h4)
theorem xj_land (C : xj_C E G cc own nL d q c0 s0 ret) {x y : Int64} (a : xj_At cc pc (.land) 1 nx)  (k : xj_X E G Q cs sl nx L (.long (x &&& y) :: st) w) : xj_X E G Q cs sl pc L (.long y :: .long x :: st) w := by
  obtain ⟨hd, hn⟩ := a
  subst hn
  exact fun ls H locs h1 h2 h3 h4 => lv_land C.1 C.2.1 hd  (k ls H locs h1 h2 h3 h4)
theorem xj_lor (C : xj_C E G cc own nL d q c0 s0 ret) {x y : Int64} (a : xj_At cc pc (.lor) 1 nx)  (k : xj_X E G Q cs sl nx L (.long (x ||| y) :: st) w) : xj_X E G Q cs sl pc L (.long y :: .long x :: st) w := by
  obtain ⟨hd, hn⟩ := a
  subst hn
  exact fun ls H locs h1 h2 h3 h4 => lv_lor C.1 C.2.1 hd  (k ls H locs h1 h2 h3 h4)
theorem xj_lxor (C : xj_C E G cc own nL d q c0 s0 ret) {x y : Int64} (a : xj_At cc pc (.lxor) 1 nx)  (k : xj_X E G Q cs sl nx L (.long (x ^^^ y) :: st) w) : xj_X E G Q cs sl pc L (.long y :: .long x :: st) w := by
  obtain ⟨hd, hn⟩ := a
  subst hn
  exact fun ls H locs h1 h2 h3 h4 => lv_lxor C.1 C.2.1 hd  (k ls H locs h1 h2 h3 h4)
theorem xj_ishl (C : xj_C E G cc own nL d q c0 s0 ret) {x y : Int32} (a : xj_At cc pc (.ishl) 1 nx)  (k : xj_X E G Q cs sl nx L (.int (x <<< (y &&& 31)) :: st) w) : xj_X E G Q cs sl pc L (.int y :: .int x :: st) w := by
  obtain ⟨hd, hn⟩ := a
  subst hn
  exact fun ls H locs h1 h2 h3 h4 => lv_ishl C.1 C.2.1 hd  (k ls H locs h1 h2 h3 h4)
theorem xj_ishr (C : xj_C E G cc own nL d q c0 s0 ret) {x y : Int32} (a : xj_At cc pc (.ishr) 1 nx)  (k : xj_X E G Q cs sl nx L (.int (x >>> (y &&& 31)) :: st) w) : xj_X E G Q cs sl pc L (.int y :: .int x :: st) w := by
  obtain ⟨hd, hn⟩ := a
  subst hn
  exact fun ls H locs h1 h2 h3 h4 => lv_ishr C.1 C.2.1 hd  (k ls H locs h1 h2 h3 h4)
theorem xj_iushr (C : xj_C E G cc own nL d q c0 s0 ret) {x y : Int32} (a : xj_At cc pc (.iushr) 1 nx)  (k : xj_X E G Q cs sl nx L (.int (x.toUInt32 >>> (y.toUInt32 &&& Int32.toUInt32 31)).toInt32 :: st) w) : xj_X E G Q cs sl pc L (.int y :: .int x :: st) w := by
  obtain ⟨hd, hn⟩ := a
  subst hn
  exact fun ls H locs h1 h2 h3 h4 => lv_iushr C.1 C.2.1 hd rfl (k ls H locs h1 h2 h3 h4)
theorem xj_lushr (C : xj_C E G cc own nL d q c0 s0 ret) {x : Int64} {y : Int32} (a : xj_At cc pc (.lushr) 1 nx)  (k : xj_X E G Q cs sl nx L (.long (x.toUInt64 >>> (y.toInt64.toUInt64 &&& Int64.toUInt64 63)).toInt64 :: st) w) : xj_X E G Q cs sl pc L (.int y :: .long x :: st) w := by
  obtain ⟨hd, hn⟩ := a
  subst hn
  exact fun ls H locs h1 h2 h3 h4 => lv_lushr C.1 C.2.1 hd rfl (k ls H locs h1 h2 h3 h4)
theorem xj_lshl (C : xj_C E G cc own nL d q c0 s0 ret) {x : Int64} {y : Int32} (a : xj_At cc pc (.lshl) 1 nx)  (k : xj_X E G Q cs sl nx L (.long (x <<< (y.toInt64 &&& 63)) :: st) w) : xj_X E G Q cs sl pc L (.int y :: .long x :: st) w := by
  obtain ⟨hd, hn⟩ := a
  subst hn
  exact fun ls H locs h1 h2 h3 h4 => lv_lshl C.1 C.2.1 hd rfl (k ls H locs h1 h2 h3 h4)
theorem xj_lshr (C : xj_C E G cc own nL d q c0 s0 ret) {x : Int64} {y : Int32} (a : xj_At cc pc (.lshr) 1 nx)  (k : xj_X E G Q cs sl nx L (.long (x >>> (y.toInt64 &&& 63)) :: st) w) : xj_X E G Q cs sl pc L (.int y :: .long x :: st) w := by
  obtain ⟨hd, hn⟩ := a
  subst hn
  exact fun ls H locs h1 h2 h3 h4 => lv_lshr C.1 C.2.1 hd rfl (k ls H locs h1 h2 h3 h4)
theorem xj_i2l (C : xj_C E G cc own nL d q c0 s0 ret) {x : Int32} (a : xj_At cc pc (.i2l) 1 nx)  (k : xj_X E G Q cs sl nx L (.long x.toInt64 :: st) w) : xj_X E G Q cs sl pc L (.int x :: st) w := by
  obtain ⟨hd, hn⟩ := a
  subst hn
  exact fun ls H locs h1 h2 h3 h4 => lv_i2l C.1 C.2.1 hd rfl (k ls H locs h1 h2 h3 h4)
theorem xj_l2i (C : xj_C E G cc own nL d q c0 s0 ret) {x : Int64} (a : xj_At cc pc (.l2i) 1 nx)  (k : xj_X E G Q cs sl nx L (.int x.toInt32 :: st) w) : xj_X E G Q cs sl pc L (.long x :: st) w := by
  obtain ⟨hd, hn⟩ := a
  subst hn
  exact fun ls H locs h1 h2 h3 h4 => lv_l2i C.1 C.2.1 hd rfl (k ls H locs h1 h2 h3 h4)
theorem xj_lcmp (C : xj_C E G cc own nL d q c0 s0 ret) {x y : Int64} (a : xj_At cc pc (.lcmp) 1 nx)  (k : xj_X E G Q cs sl nx L (.int (lg_cmp x y) :: st) w) : xj_X E G Q cs sl pc L (.long y :: .long x :: st) w := by
  obtain ⟨hd, hn⟩ := a
  subst hn
  exact fun ls H locs h1 h2 h3 h4 => W.lcmp C.1 C.2.1 hd  (k ls H locs h1 h2 h3 h4)
theorem xj_dup (C : xj_C E G cc own nL d q c0 s0 ret) {v : Value} (a : xj_At cc pc (.dup) 1 nx) (hv : v.category = 1) (k : xj_X E G Q cs sl nx L (v :: v :: st) w) : xj_X E G Q cs sl pc L (v :: st) w := by
  obtain ⟨hd, hn⟩ := a
  subst hn
  exact fun ls H locs h1 h2 h3 h4 => lv_dup C.1 C.2.1 hd hv (k ls H locs h1 h2 h3 h4)
theorem xj_pop (C : xj_C E G cc own nL d q c0 s0 ret) {v : Value} (a : xj_At cc pc (.pop) 1 nx) (hv : v.category = 1) (k : xj_X E G Q cs sl nx L (st) w) : xj_X E G Q cs sl pc L (v :: st) w := by
  obtain ⟨hd, hn⟩ := a
  subst hn
  exact fun ls H locs h1 h2 h3 h4 => lv_pop C.1 C.2.1 hd hv (k ls H locs h1 h2 h3 h4)
theorem xj_dup2 (C : xj_C E G cc own nL d q c0 s0 ret) {v v2 : Value} (a : xj_At cc pc .dup2 1 nx) (hv : v.category = 1) (hv2 : v2.category = 1) (k : xj_X E G Q cs sl nx L (v :: v2 :: v :: v2 :: st) w) : xj_X E G Q cs sl pc L (v :: v2 :: st) w := by
  obtain ⟨hd, hn⟩ := a
  subst hn
  exact fun ls H locs h1 h2 h3 h4 => lv_dup2_11 C.1 C.2.1 hd hv hv2 (k ls H locs h1 h2 h3 h4)
theorem xj_dup_x1 (C : xj_C E G cc own nL d q c0 s0 ret) {v v2 : Value} (a : xj_At cc pc .dup_x1 1 nx) (hv : v.category = 1) (hv2 : v2.category = 1) (k : xj_X E G Q cs sl nx L (v :: v2 :: v :: st) w) : xj_X E G Q cs sl pc L (v :: v2 :: st) w := by
  obtain ⟨hd, hn⟩ := a
  subst hn
  exact fun ls H locs h1 h2 h3 h4 => lv_dup_x1 C.1 C.2.1 hd hv hv2 (k ls H locs h1 h2 h3 h4)
theorem xj_if_eq (C : xj_C E G cc own nL d q c0 s0 ret) {x : Int32} {off : Int} {tgt : Nat} (a : xj_At cc pc (.ifCond .eq off) 3 nx) (ht : (pc : Int) + off = (tgt : Int)) (kt : x = 0 → xj_X E G Q cs sl tgt L st w) (kf : ¬ (x = 0) → xj_X E G Q cs sl nx L st w) : xj_X E G Q cs sl pc L (.int x :: st) w := by
  obtain ⟨hd, hn⟩ := a
  subst hn
  exact fun ls H locs h1 h2 h3 h4 => lv_if_eq C.1 C.2.1 hd ht (fun h => kt h ls H locs h1 h2 h3 h4) (fun h => kf h ls H locs h1 h2 h3 h4)
theorem xj_icmp_eq (C : xj_C E G cc own nL d q c0 s0 ret) {x y : Int32} {off : Int} {tgt : Nat} (a : xj_At cc pc (.if_icmp .eq off) 3 nx) (ht : (pc : Int) + off = (tgt : Int)) (kt : x = y → xj_X E G Q cs sl tgt L st w) (kf : ¬ (x = y) → xj_X E G Q cs sl nx L st w) : xj_X E G Q cs sl pc L (.int y :: .int x :: st) w := by
  obtain ⟨hd, hn⟩ := a
  subst hn
  exact fun ls H locs h1 h2 h3 h4 => lv_icmp_eq C.1 C.2.1 hd ht (fun h => kt h ls H locs h1 h2 h3 h4) (fun h => kf h ls H locs h1 h2 h3 h4)
theorem xj_if_ne (C : xj_C E G cc own nL d q c0 s0 ret) {x : Int32} {off : Int} {tgt : Nat} (a : xj_At cc pc (.ifCond .ne off) 3 nx) (ht : (pc : Int) + off = (tgt : Int)) (kt : ¬ x = 0 → xj_X E G Q cs sl tgt L st w) (kf : x = 0 → xj_X E G Q cs sl nx L st w) : xj_X E G Q cs sl pc L (.int x :: st) w := by
  obtain ⟨hd, hn⟩ := a
  subst hn
  exact fun ls H locs h1 h2 h3 h4 => lv_if_ne C.1 C.2.1 hd ht (fun h => kt h ls H locs h1 h2 h3 h4) (fun h => kf h ls H locs h1 h2 h3 h4)
theorem xj_icmp_ne (C : xj_C E G cc own nL d q c0 s0 ret) {x y : Int32} {off : Int} {tgt : Nat} (a : xj_At cc pc (.if_icmp .ne off) 3 nx) (ht : (pc : Int) + off = (tgt : Int)) (kt : ¬ x = y → xj_X E G Q cs sl tgt L st w) (kf : x = y → xj_X E G Q cs sl nx L st w) : xj_X E G Q cs sl pc L (.int y :: .int x :: st) w := by
  obtain ⟨hd, hn⟩ := a
  subst hn
  exact fun ls H locs h1 h2 h3 h4 => lv_icmp_ne C.1 C.2.1 hd ht (fun h => kt h ls H locs h1 h2 h3 h4) (fun h => kf h ls H locs h1 h2 h3 h4)
theorem xj_if_lt (C : xj_C E G cc own nL d q c0 s0 ret) {x : Int32} {off : Int} {tgt : Nat} (a : xj_At cc pc (.ifCond .lt off) 3 nx) (ht : (pc : Int) + off = (tgt : Int)) (kt : x < 0 → xj_X E G Q cs sl tgt L st w) (kf : ¬ (x < 0) → xj_X E G Q cs sl nx L st w) : xj_X E G Q cs sl pc L (.int x :: st) w := by
  obtain ⟨hd, hn⟩ := a
  subst hn
  exact fun ls H locs h1 h2 h3 h4 => lv_if_lt C.1 C.2.1 hd ht (fun h => kt h ls H locs h1 h2 h3 h4) (fun h => kf h ls H locs h1 h2 h3 h4)
theorem xj_icmp_lt (C : xj_C E G cc own nL d q c0 s0 ret) {x y : Int32} {off : Int} {tgt : Nat} (a : xj_At cc pc (.if_icmp .lt off) 3 nx) (ht : (pc : Int) + off = (tgt : Int)) (kt : x < y → xj_X E G Q cs sl tgt L st w) (kf : ¬ (x < y) → xj_X E G Q cs sl nx L st w) : xj_X E G Q cs sl pc L (.int y :: .int x :: st) w := by
  obtain ⟨hd, hn⟩ := a
  subst hn
  exact fun ls H locs h1 h2 h3 h4 => lv_icmp_lt C.1 C.2.1 hd ht (fun h => kt h ls H locs h1 h2 h3 h4) (fun h => kf h ls H locs h1 h2 h3 h4)
theorem xj_if_ge (C : xj_C E G cc own nL d q c0 s0 ret) {x : Int32} {off : Int} {tgt : Nat} (a : xj_At cc pc (.ifCond .ge off) 3 nx) (ht : (pc : Int) + off = (tgt : Int)) (kt : 0 ≤ x → xj_X E G Q cs sl tgt L st w) (kf : ¬ (0 ≤ x) → xj_X E G Q cs sl nx L st w) : xj_X E G Q cs sl pc L (.int x :: st) w := by
  obtain ⟨hd, hn⟩ := a
  subst hn
  exact fun ls H locs h1 h2 h3 h4 => lv_if_ge C.1 C.2.1 hd ht (fun h => kt h ls H locs h1 h2 h3 h4) (fun h => kf h ls H locs h1 h2 h3 h4)
theorem xj_icmp_ge (C : xj_C E G cc own nL d q c0 s0 ret) {x y : Int32} {off : Int} {tgt : Nat} (a : xj_At cc pc (.if_icmp .ge off) 3 nx) (ht : (pc : Int) + off = (tgt : Int)) (kt : y ≤ x → xj_X E G Q cs sl tgt L st w) (kf : ¬ (y ≤ x) → xj_X E G Q cs sl nx L st w) : xj_X E G Q cs sl pc L (.int y :: .int x :: st) w := by
  obtain ⟨hd, hn⟩ := a
  subst hn
  exact fun ls H locs h1 h2 h3 h4 => lv_icmp_ge C.1 C.2.1 hd ht (fun h => kt h ls H locs h1 h2 h3 h4) (fun h => kf h ls H locs h1 h2 h3 h4)
theorem xj_if_gt (C : xj_C E G cc own nL d q c0 s0 ret) {x : Int32} {off : Int} {tgt : Nat} (a : xj_At cc pc (.ifCond .gt off) 3 nx) (ht : (pc : Int) + off = (tgt : Int)) (kt : 0 < x → xj_X E G Q cs sl tgt L st w) (kf : ¬ (0 < x) → xj_X E G Q cs sl nx L st w) : xj_X E G Q cs sl pc L (.int x :: st) w := by
  obtain ⟨hd, hn⟩ := a
  subst hn
  exact fun ls H locs h1 h2 h3 h4 => lv_if_gt C.1 C.2.1 hd ht (fun h => kt h ls H locs h1 h2 h3 h4) (fun h => kf h ls H locs h1 h2 h3 h4)
theorem xj_icmp_gt (C : xj_C E G cc own nL d q c0 s0 ret) {x y : Int32} {off : Int} {tgt : Nat} (a : xj_At cc pc (.if_icmp .gt off) 3 nx) (ht : (pc : Int) + off = (tgt : Int)) (kt : y < x → xj_X E G Q cs sl tgt L st w) (kf : ¬ (y < x) → xj_X E G Q cs sl nx L st w) : xj_X E G Q cs sl pc L (.int y :: .int x :: st) w := by
  obtain ⟨hd, hn⟩ := a
  subst hn
  exact fun ls H locs h1 h2 h3 h4 => lv_icmp_gt C.1 C.2.1 hd ht (fun h => kt h ls H locs h1 h2 h3 h4) (fun h => kf h ls H locs h1 h2 h3 h4)
theorem xj_if_le (C : xj_C E G cc own nL d q c0 s0 ret) {x : Int32} {off : Int} {tgt : Nat} (a : xj_At cc pc (.ifCond .le off) 3 nx) (ht : (pc : Int) + off = (tgt : Int)) (kt : x ≤ 0 → xj_X E G Q cs sl tgt L st w) (kf : ¬ (x ≤ 0) → xj_X E G Q cs sl nx L st w) : xj_X E G Q cs sl pc L (.int x :: st) w := by
  obtain ⟨hd, hn⟩ := a
  subst hn
  exact fun ls H locs h1 h2 h3 h4 => lv_if_le C.1 C.2.1 hd ht (fun h => kt h ls H locs h1 h2 h3 h4) (fun h => kf h ls H locs h1 h2 h3 h4)
theorem xj_icmp_le (C : xj_C E G cc own nL d q c0 s0 ret) {x y : Int32} {off : Int} {tgt : Nat} (a : xj_At cc pc (.if_icmp .le off) 3 nx) (ht : (pc : Int) + off = (tgt : Int)) (kt : x ≤ y → xj_X E G Q cs sl tgt L st w) (kf : ¬ (x ≤ y) → xj_X E G Q cs sl nx L st w) : xj_X E G Q cs sl pc L (.int y :: .int x :: st) w := by
  obtain ⟨hd, hn⟩ := a
  subst hn
  exact fun ls H locs h1 h2 h3 h4 => lv_icmp_le C.1 C.2.1 hd ht (fun h => kt h ls H locs h1 h2 h3 h4) (fun h => kf h ls H locs h1 h2 h3 h4)
theorem xj_goto (C : xj_C E G cc own nL d q c0 s0 ret) {off : Int} {tgt : Nat} (a : xj_At cc pc (.goto off) 3 nx) (ht : (pc : Int) + off = (tgt : Int)) (k : xj_X E G Q cs sl tgt L st w) : xj_X E G Q cs sl pc L st w :=
  fun ls H locs h1 h2 h3 h4 => lv_goto C.1 C.2.1 a.1 ht (k ls H locs h1 h2 h3 h4)
theorem xj_tableOut (C : xj_C E G cc own nL d q c0 s0 ret) {dflt lo hi : Int} {offs : Array Int} {len : Nat} {x : Int32} {tgt : Nat} (hd : decode cc pc = .ok (.tableswitch dflt lo hi offs, len)) (h : x.toInt < lo ∨ hi < x.toInt) (ht : (pc : Int) + dflt = (tgt : Int)) (k : xj_X E G Q cs sl tgt L st w) : xj_X E G Q cs sl pc L (.int x :: st) w :=
  fun ls H locs h1 h2 h3 h4 => lv_tableOut C.1 C.2.1 hd h ht (k ls H locs h1 h2 h3 h4)
theorem xj_tableIn (C : xj_C E G cc own nL d q c0 s0 ret) {dflt lo hi : Int} {offs : Array Int} {len : Nat} {x : Int32} {off : Int} {tgt : Nat} (hd : decode cc pc = .ok (.tableswitch dflt lo hi offs, len)) (g1 : ¬ x.toInt < lo) (g2 : ¬ hi < x.toInt) (ho : offs[(x.toInt - lo).toNat]? = some off) (ht : (pc : Int) + off = (tgt : Int)) (k : xj_X E G Q cs sl tgt L st w) : xj_X E G Q cs sl pc L (.int x :: st) w :=
  fun ls H locs h1 h2 h3 h4 => lv_tableIn C.1 C.2.1 hd g1 g2 ho ht (k ls H locs h1 h2 h3 h4)
theorem xj_ldc (C : xj_C E G cc own nL d q c0 s0 ret) {index : Nat} {v : Int32} (a : xj_At cc pc (.ldc index) 2 nx) (hw : Cond.constant own index v ∈ xj_GW) (k : xj_X E G Q cs sl nx L (.int v :: st) w) : xj_X E G Q cs sl pc L st w := by
  obtain ⟨hd, hn⟩ := a
  subst hn
  exact fun ls H locs h1 h2 h3 h4 => lv_ldc C.1 C.2.1 C.2.2.2.1 (C.2.2.2.2.1 _ hw) hd (k ls H locs h1 h2 h3 h4)
theorem xj_ldc2 (C : xj_C E G cc own nL d q c0 s0 ret) {index : Nat} {v : Int64} (a : xj_At cc pc (.ldc2_w index) 3 nx) (hw : Cond.constantLong own index v ∈ xj_GW) (k : xj_X E G Q cs sl nx L (.long v :: st) w) : xj_X E G Q cs sl pc L st w := by
  obtain ⟨hd, hn⟩ := a
  subst hn
  exact fun ls H locs h1 h2 h3 h4 => lv_ldc2 C.1 C.2.1 C.2.2.2.1 (C.2.2.2.2.1 _ hw) hd (k ls H locs h1 h2 h3 h4)
/-- what the tables say of a class: its place in xj_cl, its words -/
def xj_CF (ci : Nat) (Cn : String) (T : u_T) (N : Nat) (ty0 : Nat → FieldType) : Prop := xj_cl[ci]? = some (Cn, T, N) ∧ (∀ v ∈ u_ws Cn T N, v ∈ xj_GW) ∧ (∀ k, k < N → parseFieldDescriptor (T k).2.2.1 = some (ty0 k)) ∧ (∀ a, a < N → ∀ b, b < N → a ≠ b → (T a).2.1 ≠ (T b).2.1)
/-- a field's link, of the class itself or of a nest mate -/
def xj_FL (own : String) (index : Nat) (ref name desc : String) : Prop := Cond.fieldLink own index ref name desc ∈ xj_GW ∨ ∃ host, Cond.fieldLinkNest own index ref name desc host ∈ xj_NW
theorem xj_obj {k r i : Nat} (hk : xj_knd k = 4) : xj_cell G w (k, r, i) = .inr (xj_cls k, (List.range (xj_len k)).map (fun x => xj_fv G w k r i x)) := by
  unfold xj_cell
  simp only [hk]
theorem xj_get (C : xj_C E G cc own nL d q c0 s0 ret) {index k r i x ci N : Nat} {Cn : String} {T : u_T} {ty0 : Nat → FieldType} (a : xj_At cc pc (.getfield index) 3 nx) (F : xj_CF ci Cn T N ty0) (hl : xj_FL own index (T x).1 (T x).2.1 (T x).2.2.1) (hk : xj_knd k = 4 ∧ xj_cls k = ci ∧ xj_len k = N) (hx : x < N) (hp : xj_ok (k, r, i) w.2.2) {v : Value} (hv : xj_fv G w k r i x = v) (kk : xj_X E G Q cs sl nx L (v :: st) w) : xj_X E G Q cs sl pc L (.ref (xj_ad G (k, r, i)) :: st) w := by
  obtain ⟨hd, hn⟩ := a
  subst hn
  obtain ⟨k1, k2, k3⟩ := hk
  intro ls H locs h1 h2 h3 h4
  have he := xj_at (G := G) hp
  rw [xj_obj k1, k2, k3] at he
  have hv' : ((List.range N).map (fun x => xj_fv G w k r i x))[x]? = some v := by simp [hx, hv]
  rcases hl with hl | ⟨host, hl⟩
  · exact va_get C.1 C.2.1 C.2.2.2.2.1 F.2.1 C.2.2.2.1 C.2.2.2.2.2.2.1 h3 (xj_ix (k, r, i)) he F.1 x hx (C.2.2.2.2.1 _ hl) (fun _ h9 => h9) hv' hd (kk ls H locs h1 h2 h3 h4)
  · exact va_getN C.1 C.2.1 C.2.2.2.2.1 F.2.1 C.2.2.2.1 C.2.2.2.2.2.2.1 h3 (xj_ix (k, r, i)) he F.1 x hx (va_Nw.use rfl (C.2.2.2.2.2.1 _ hl)) (fun _ h9 => h9) hv' hd (kk ls H locs h1 h2 h3 h4)
theorem xj_put (C : xj_C E G cc own nL d q c0 s0 ret) {index k r i x ci N : Nat} {Cn : String} {T : u_T} {ty0 : Nat → FieldType} (a : xj_At cc pc (.putfield index) 3 nx) (F : xj_CF ci Cn T N ty0) (hl : xj_FL own index (T x).1 (T x).2.1 (T x).2.2.1) (hk : xj_knd k = 4 ∧ xj_cls k = ci ∧ xj_len k = N) (hx : x < N) (hp : xj_ok (k, r, i) w.2.2) (hf : (T x).2.2.2 = false ∨ ((T x).2.2.2 = true ∧ (xj_me E).name = "<init>" ∧ (T x).1 = own ∧ Cond.fieldLink own index (T x).1 (T x).2.1 (T x).2.2.1 ∈ xj_GW)) {v : Value} (hn : narrow (ty0 x) v = v) (hft : fits (ty0 x) v = true) {w2 : xj_W} (hw : xj_cell G w2 (k, r, i) = .inr (xj_cls k, ((List.range (xj_len k)).map (fun x => xj_fv G w k r i x)).set x v)) (hz : w2.2.2 = w.2.2) (ho : ∀ p', p' ≠ (k, r, i) → xj_cell G w2 p' = xj_cell G w p') (kk : xj_X E G Q cs sl nx L st w2) : xj_X E G Q cs sl pc L (v :: .ref (xj_ad G (k, r, i)) :: st) w := by
  obtain ⟨hd, hn0⟩ := a
  subst hn0
  obtain ⟨k1, k2, k3⟩ := hk
  intro ls H locs h1 h2 h3 h4
  have he := xj_at (G := G) hp
  rw [xj_obj k1, k2, k3] at he
  rw [k2, k3] at hw
  have hs := xj_mk_set (G := G) hp hz ho
  rw [hw] at hs
  have hlen : x < ((List.range N).map (fun x => xj_fv G w k r i x)).length := by simpa using hx
  have hap := va_apart (own := own) C.2.2.2.2.1 F.2.1 ty0 F.2.2.1 F.2.2.2 C.2.2.2.2.2.2.1 F.1
  obtain ⟨r', g1, cell, q1, q2, q3, q4⟩ := h3 _ _ he
  have hr : r' = (Cn, T, N) := Option.some.inj (g1.symm.trans F.1)
  subst hr
  obtain ⟨hS, hfc, kC, hkC, hkind⟩ := C.2.2.2.2.2.2.1.1 ci _ F.1
  obtain ⟨cf, kf, fi, f, hi, hsl⟩ := hS x hx
  have hst := (u_facts hfc hkC (u_lays C.2.2.2.2.1 F.2.1 hx) hi).1
  have hlay := C.2.2.2.2.1 _ (F.2.1 _ (u_in_lay hx))
  unfold u_lay at hlay
  have fin : ∀ H' : Heap, H'[xj_ad G (k, r, i)]? = some (cell.setSlot f.slot v) → H'.size = H.size → (∀ q, q ≠ xj_ad G (k, r, i) → H'[q]? = H[q]?) → xj_V E H' (locs ++ [⟨xj_ad G (k, r, i), f.slot⟩]) cs sl Q (F0 (xj_m E) (pc + 3) ls st) := by
    intro H' e1 e2 e3
    rw [hsl] at e1 ⊢
    refine kk ls H' _ h1 (by rw [e2, h2, hz]) ?_ (h4.put e2 e3 ((xj_D G w).2 _ _ he))
    rw [← hs]
    exact h3.set (xj_D G w) he ⟨_, F.1, t_OB.to (V := updV (vp_V _) x v) ⟨_, e1, q2, q3, t_set q4 hap hx v⟩ (fun j _ => vp_updV_set hlen v j)⟩ e3
  rcases hf with hf | ⟨hf, hname, hdecl, hl2⟩
  · rw [if_neg (by rw [hf]; decide)] at hlay
    have h6 := u_store hfc hkC hkind hlay hi (F.2.2.1 x hx) hn hft
    rcases hl with hl | ⟨host, hl⟩
    · exact W.putK C.1 C.2.1 (f := f) ⟨C.2.2.2.1, C.2.2.2.2.1 _ hl, ⟨_, _, _, hi⟩, hst⟩ (by rw [q2]; exact h6) q1 q3 (by rw [hsl]; exact k2_hasslot (q4 x hx)) rfl rfl hd fin
    · exact va_WputK C.1 C.2.1 (f := f) C.2.2.2.1 (va_Nw.use rfl (C.2.2.2.2.2.1 _ hl)) hi hst (by rw [q2]; exact h6) q1 q3 (by rw [hsl]; exact k2_hasslot (q4 x hx)) rfl rfl hd fin
  · rw [if_pos hf] at hlay
    have hcf : (xj_m E).cls = cf := by
      obtain ⟨_, _, c', _, _, _, -, -, hf', -, -, -, hown2, -⟩ := Cond.laysFinal_spec hlay
      have e1 : c' = cf := by have := hi.symm.trans hf'; simp at this; exact this.1.symm
      rw [hdecl] at hown2
      rw [← e1]; exact Option.some.inj (C.2.2.2.1.symm.trans hown2)
    have h6 := u_fits hfc hkC hkind (Or.inr hlay) hi (F.2.2.1 x hx) hn hft
    exact W.putFinK C.1 C.2.1 C.2.2.2.1 (C.2.2.2.2.1 _ hl2) hi hst hcf hname (by rw [q2]; exact h6) q1 q3 (by rw [hsl]; exact k2_hasslot (q4 x hx)) rfl rfl hd fin
/-! arrays -/
theorem xj_arrI {k r i x : Nat} {v : Int32} (hk : xj_knd k = 0) : xj_cell G (xj_uI w k r i x v) (k, r, i) = .inl (G.2.1 0, xj_len k, .inl (upd (w.1.1 k r i) x v)) := by
  unfold xj_cell
  simp only [hk]
  congr 4
  funext y
  simp [xj_uI, upd]
theorem xj_arrZ {k r i x : Nat} {v : Int32} (hk : xj_knd k = 1) : xj_cell G (xj_uI w k r i x v) (k, r, i) = .inl (G.2.1 1, xj_len k, .inl (upd (w.1.1 k r i) x v)) := by
  unfold xj_cell
  simp only [hk]
  congr 4
  funext y
  simp [xj_uI, upd]
theorem xj_arrJ {k r i x : Nat} {v : Int64} (hk : xj_knd k = 2) : xj_cell G (xj_uJ w k r i x v) (k, r, i) = .inl (G.2.1 2, xj_len k, .inr (.inl (vp_updL (w.1.2 k r i) x v))) := by
  unfold xj_cell
  simp only [hk]
  congr 5
  funext y
  simp [xj_uJ, vp_updL]
theorem xj_iald (C : xj_C E G cc own nL d q c0 s0 ret) {k r i : Nat} {j : Int32} (a : xj_At cc pc .iaload 1 nx) (hk : xj_knd k = 0) (hp : xj_ok (k, r, i) w.2.2) (hj : vp_in j (xj_len k)) (kk : xj_X E G Q cs sl nx L (.int (w.1.1 k r i j.toNatClampNeg) :: st) w) : xj_X E G Q cs sl pc L (.int j :: .ref (xj_ad G (k, r, i)) :: st) w := by
  obtain ⟨hd, hn0⟩ := a
  subst hn0
  intro ls H locs h1 h2 h3 h4
  have he := xj_at (G := G) hp
  unfold xj_cell at he
  simp only [hk] at he
  exact va_iald C.1 C.2.1 C.2.2.2.2.2.2.1 h3 _ 0 he rfl hj hd (kk ls H locs h1 h2 h3 h4)
theorem xj_zald (C : xj_C E G cc own nL d q c0 s0 ret) {k r i : Nat} {j : Int32} (a : xj_At cc pc .baload 1 nx) (hk : xj_knd k = 1) (hp : xj_ok (k, r, i) w.2.2) (hj : vp_in j (xj_len k)) (kk : xj_X E G Q cs sl nx L (.int (w.1.1 k r i j.toNatClampNeg) :: st) w) : xj_X E G Q cs sl pc L (.int j :: .ref (xj_ad G (k, r, i)) :: st) w := by
  obtain ⟨hd, hn0⟩ := a
  subst hn0
  intro ls H locs h1 h2 h3 h4
  have he := xj_at (G := G) hp
  unfold xj_cell at he
  simp only [hk] at he
  exact va_zald C.1 C.2.1 C.2.2.2.2.2.2.1 h3 _ 1 he rfl hj hd (kk ls H locs h1 h2 h3 h4)
theorem xj_lald (C : xj_C E G cc own nL d q c0 s0 ret) {k r i : Nat} {j : Int32} (a : xj_At cc pc .laload 1 nx) (hk : xj_knd k = 2) (hp : xj_ok (k, r, i) w.2.2) (hj : vp_in j (xj_len k)) (kk : xj_X E G Q cs sl nx L (.long (w.1.2 k r i j.toNatClampNeg) :: st) w) : xj_X E G Q cs sl pc L (.int j :: .ref (xj_ad G (k, r, i)) :: st) w := by
  obtain ⟨hd, hn0⟩ := a
  subst hn0
  intro ls H locs h1 h2 h3 h4
  have he := xj_at (G := G) hp
  unfold xj_cell at he
  simp only [hk] at he
  exact va_lald C.1 C.2.1 C.2.2.2.2.2.2.1 h3 _ 2 he rfl hj hd (kk ls H locs h1 h2 h3 h4)
theorem xj_aald (C : xj_C E G cc own nL d q c0 s0 ret) {k r i t0 : Nat} {Cn : String} {j : Int32} {p2 : xj_Pl} (a : xj_At cc pc .aaload 1 nx) (hk : xj_knd k = 3 ∧ (xj_ty G)[t0]? = some (G.2.1 (xj_cls k), .object Cn)) (hp : xj_ok (k, r, i) w.2.2) (hj : vp_in j (xj_len k)) (hv : w.2.1 k r i j.toNatClampNeg = some p2) (kk : xj_X E G Q cs sl nx L (.ref (xj_ad G p2) :: st) w) : xj_X E G Q cs sl pc L (.int j :: .ref (xj_ad G (k, r, i)) :: st) w := by
  obtain ⟨hd, hn0⟩ := a
  subst hn0
  intro ls H locs h1 h2 h3 h4
  have he := xj_at (G := G) hp
  unfold xj_cell at he
  simp only [hk.1] at he
  refine va_aldq C.1 C.2.1 C.2.2.2.2.2.2.1 h3 _ t0 he hk.2 hj hd ?_
  simp only [hv]
  exact kk ls H locs h1 h2 h3 h4
theorem xj_iast (C : xj_C E G cc own nL d q c0 s0 ret) {k r i : Nat} {j x : Int32} (a : xj_At cc pc .iastore 1 nx) (hk : xj_knd k = 0) (hp : xj_ok (k, r, i) w.2.2) (hj : vp_in j (xj_len k)) (kk : xj_X E G Q cs sl nx L st (xj_uI w k r i j.toNatClampNeg x)) : xj_X E G Q cs sl pc L (.int x :: .int j :: .ref (xj_ad G (k, r, i)) :: st) w := by
  obtain ⟨hd, hn0⟩ := a
  subst hn0
  intro ls H locs h1 h2 h3 h4
  have he := xj_at (G := G) hp
  have hs := xj_mk_set (G := G) (w' := xj_uI w k r i j.toNatClampNeg x) hp rfl xj_uI_oth
  rw [xj_arrI hk] at hs
  unfold xj_cell at he
  simp only [hk] at he
  refine W.iast C.1 C.2.1 (h3 _ _ he) ((C.2.2.2.2.2.2.1.2 0 _ rfl).1 (xj_len k) (fun j => .int (w.1.1 k r i j))) (fun q => by cases q) (by show ¬ (j < 0 ∨ (arrV _ _ _).slots.size ≤ _); rw [arrV_size]; exact hj) rfl rfl hd fun H1 e z oq => ?_
  refine kk ls H1 _ h1 (by rw [z, h2]; rfl) ?_ (h4.put z oq ((xj_D G w).2 _ _ he))
  rw [← hs]
  refine h3.set (xj_D G w) he ?_ oq
  show H1[xj_ad G (k, r, i)]? = some (vp_cell _ _)
  rw [e]
  rw [vp_cell_i, vp_cell_i, arrV_store]
  congr 2
  funext q
  by_cases hq : q = j.toNatClampNeg
  · subst hq
    simp [updV, upd]
  · simp [updV, upd, hq]
theorem xj_zast (C : xj_C E G cc own nL d q c0 s0 ret) {k r i : Nat} {j x : Int32} (a : xj_At cc pc .bastore 1 nx) (hk : xj_knd k = 1) (hp : xj_ok (k, r, i) w.2.2) (hj : vp_in j (xj_len k)) (hx : narrow .boolean (.int x) = .int x) (kk : xj_X E G Q cs sl nx L st (xj_uI w k r i j.toNatClampNeg x)) : xj_X E G Q cs sl pc L (.int x :: .int j :: .ref (xj_ad G (k, r, i)) :: st) w := by
  obtain ⟨hd, hn0⟩ := a
  subst hn0
  intro ls H locs h1 h2 h3 h4
  have he := xj_at (G := G) hp
  have hs := xj_mk_set (G := G) (w' := xj_uI w k r i j.toNatClampNeg x) hp rfl xj_uI_oth
  rw [xj_arrZ hk] at hs
  unfold xj_cell at he
  simp only [hk] at he
  refine W.zast C.1 C.2.1 (h3 _ _ he) ((C.2.2.2.2.2.2.1.2 1 _ rfl).1 (xj_len k) (fun j => .int (w.1.1 k r i j))) (fun q => by cases q) (by show ¬ (j < 0 ∨ (arrV _ _ _).slots.size ≤ _); rw [arrV_size]; exact hj) rfl rfl hd fun H1 e z oq => ?_
  refine kk ls H1 _ h1 (by rw [z, h2]; rfl) ?_ (h4.put z oq ((xj_D G w).2 _ _ he))
  rw [← hs]
  refine h3.set (xj_D G w) he ?_ oq
  show H1[xj_ad G (k, r, i)]? = some (vp_cell _ _)
  rw [e, hx]
  rw [vp_cell_i, vp_cell_i, arrV_store]
  congr 2
  funext q
  by_cases hq : q = j.toNatClampNeg
  · subst hq
    simp [updV, upd]
  · simp [updV, upd, hq]
theorem xj_last (C : xj_C E G cc own nL d q c0 s0 ret) {k r i : Nat} {j : Int32} {x : Int64} (a : xj_At cc pc .lastore 1 nx) (hk : xj_knd k = 2) (hp : xj_ok (k, r, i) w.2.2) (hj : vp_in j (xj_len k)) (kk : xj_X E G Q cs sl nx L st (xj_uJ w k r i j.toNatClampNeg x)) : xj_X E G Q cs sl pc L (.long x :: .int j :: .ref (xj_ad G (k, r, i)) :: st) w := by
  obtain ⟨hd, hn0⟩ := a
  subst hn0
  intro ls H locs h1 h2 h3 h4
  have he := xj_at (G := G) hp
  have hs := xj_mk_set (G := G) (w' := xj_uJ w k r i j.toNatClampNeg x) hp rfl xj_uJ_oth
  rw [xj_arrJ hk] at hs
  unfold xj_cell at he
  simp only [hk] at he
  refine W.last C.1 C.2.1 (h3 _ _ he) ((C.2.2.2.2.2.2.1.2 2 _ rfl).1 (xj_len k) (fun j => .long (w.1.2 k r i j))) (fun q => by cases q) (by show ¬ (j < 0 ∨ (arrV _ _ _).slots.size ≤ _); rw [arrV_size]; exact hj) rfl rfl hd fun H1 e z oq => ?_
  refine kk ls H1 _ h1 (by rw [z, h2]; rfl) ?_ (h4.put z oq ((xj_D G w).2 _ _ he))
  rw [← hs]
  refine h3.set (xj_D G w) he ?_ oq
  show H1[xj_ad G (k, r, i)]? = some (vp_cell _ _)
  rw [e]
  rw [vp_cell_l, vp_cell_l, arrV_store]
  congr 2
  funext q
  by_cases hq : q = j.toNatClampNeg
  · subst hq
    simp [updV, vp_updL]
  · simp [updV, vp_updL, hq]

/-! contracts and calls -/
end XJ
abbrev xj_M : Type := MethodName × ByteArray × Nat × Option FieldType
def xj_rm (d q mc ms : Nat) : Room := { frames := d, cells := mc, slots := ms, locals := q }
def xj_st (G : xj_G) (w : xj_W) (U : State) : Prop := U.heap.size = G.2.2 + w.2.2 ∧ va_P G.1 xj_cl (xj_mk G w) U.heap ∧ va_K G.1 xj_cl (xj_ty G) U ∧ ∀ c ∈ xj_NW, va_Nw c U
def xj_Q (G : xj_G) (post : Option Value → xj_W → Prop) : Array Value → State → Outcome → State → Prop := fun _ st oc t => (∃ (v : Option Value) (w' : xj_W), oc = .returned v ∧ post v w' ∧ t.heap.size = G.2.2 + w'.2.2 ∧ va_P G.1 xj_cl (xj_mk G w') t.heap) ∧ va_F (xj_A G) st t
/-- the contract of M: from the world w, with these arguments, it returns with 'post' -/
def xj_Mx (l : Launch) (G : xj_G) (d q mc ms : Nat) (M : xj_M) (as : List Value) (w : xj_W) (post : Option Value → xj_W → Prop) : Prop := Met l M.1 (Cond.code M.1 M.2.1 M.2.2.1 M.2.2.2 :: xj_GW) (xj_rm d q mc ms) (va_Pc as (xj_st G w)) (xj_Q G post) mc ms (xj_A G)
abbrev xj_R (E : xj_E) (G : xj_G) (post : Option Value → xj_W → Prop) (mc ms : Nat) : State → Prop := MQ (xj_b E) (xj_Q G post) (xj_a E) (xj_s E) mc ms (xj_A G)
theorem xj_Mx_of {l : Launch} {G : xj_G} {d q mc ms : Nat} {M : xj_M} {as : List Value} {w : xj_W} {post : Option Value → xj_W → Prop} (hy : plainName M.1.cls = true) (hl : (lg_sl as).length ≤ M.2.2.1)
    (body : ∀ E : xj_E, E.2.1 = l → xj_C E G M.2.1 M.1.cls M.2.2.1 d q mc ms M.2.2.2 → (xj_me E).name = M.1.name → xj_X E G (xj_R E G post mc ms) 0 0 0 (xj_L0 as M.2.2.1) [] w) : xj_Mx l G d q mc ms M as w post := by
  refine Met.ofW (cc := M.2.1) (maxL := M.2.2.1) (ret := M.2.2.2) hy rfl ?_
  intro p e s m args below meth c s₁ B hml hv
  obtain ⟨hargs, hsz, hP, hK, hN⟩ := hv
  subst hargs
  have hts := atoms_spec (ws := Cond.code M.1 M.2.1 M.2.2.1 M.2.2.2 :: xj_GW) B.pre
  have hown := findClass_of_methodNamed B.named
  have hC : xj_C (p, l, e, xj_rm d q mc ms, s, m, as.toArray, below, meth, c) G M.2.1 M.1.cls M.2.2.1 d q mc ms M.2.2.2 := ⟨B.exec, B.bytes, hml, hown, fun v h => hts v (List.mem_cons_of_mem _ h), hN, hK, ⟨Nat.le_refl _, Nat.le_refl _, Nat.le_refl _, Nat.le_refl _⟩, B.returns, B.notSynchronized⟩
  have hb := body _ rfl hC (name_of_methodNamed B.named B.method).1
  rw [lg_entry_eq]
  exact hb _ s.heap [] (xj_entry as hl) hsz hP va_S.rf
theorem xj_blind {G : xj_G} {w : xj_W} {as : List Value} : FrameBlind (va_Pc as (xj_st G w)) := by
  intro a U g mk q
  obtain ⟨q0, q1, qP, qK, qN⟩ := q
  exact ⟨q0, q1, qP, va_K.moved (u := U) (U := U.calling g mk a) (Vm.Alike.refl U.vm) qK, fun c hc => xj_NW_s c hc (u := U) (U := U.calling g mk a) rfl (qN c hc)⟩
/-- what a call's site links -/
def xj_LK (own : String) (index : Nat) (y : MethodName) : Prop := Cond.methodLink own index y ∈ xj_GW ∨ ∃ host, Cond.methodLinkNest own index y host ∈ xj_NW
/-- what the tables say of a method that is called -/
def xj_MB (M : xj_M) (n : Nat) : Prop := Cond.code M.1 M.2.1 M.2.2.1 M.2.2.2 ∈ xj_GW ∧ Cond.initialized M.1.cls ∈ xj_GW ∧ (M.1.cls ≠ "java/lang/invoke/MethodHandle" ∧ M.1.cls ≠ "java/lang/invoke/VarHandle") ∧ (parseMethodDescriptor M.1.desc).map (fun d => d.parameters.length) = some n
def xj_MV (M : xj_M) (n : Nat) : Prop := xj_MB M n ∧ Cond.instanceMethod M.1 ∈ xj_GW ∧ Cond.selects M.1.cls M.1 M.1 ∈ xj_GW
def xj_MS (M : xj_M) (n : Nat) : Prop := xj_MB M n ∧ Cond.static M.1 ∈ xj_GW
def xj_MI (M : xj_M) (n : Nat) : Prop := xj_MB M n ∧ M.1.name = "<init>" ∧ Cond.instanceMethod M.1 ∈ xj_GW
section XJ2
variable {E : xj_E} {G : xj_G} {cc : ByteArray} {own : String} {nL d q c0 s0 : Nat} {ret : Option FieldType} {Q : State → Prop} {cs sl pc nx : Nat} {L : List (Option Value)} {st rest : List Value} {w : xj_W}
theorem xj_pays (C : xj_C E G cc own nL d q c0 s0 ret) {M : xj_M} {n : Nat} (B : xj_MB M n) : ∀ v ∈ (Cond.code M.1 M.2.1 M.2.2.1 M.2.2.2 :: xj_GW), ∀ (a' : Array Value) (U : State), (xj_s E).WarmedH U.vm → v.before a' U = true :=
  pay_in C.2.2.2.2.1 (fun v hv => by
    rcases List.mem_cons.mp hv with h | h
    · rw [h]; exact ⟨B.1, xj_GW_good _ B.1⟩
    · exact ⟨h, xj_GW_good _ h⟩)
theorem xj_pre (C : xj_C E G cc own nL d q c0 s0 ret) {as : List Value} {H : Heap} (h2 : H.size = G.2.2 + w.2.2) (h3 : va_P G.1 xj_cl (xj_mk G w) H) : ∀ U : State, U.heap = H → (xj_s E).WarmedH U.vm → va_Pc as (xj_st G w) as.toArray U := by
  intro U hU hW
  exact ⟨rfl, by rw [hU]; exact h2, by rw [hU]; exact h3, va_K.moved hW.alike C.2.2.2.2.2.2.1, fun c hc => xj_NW_m c hc hW (C.2.2.2.2.2.1 c hc)⟩
theorem xj_lens {M : xj_M} {n : Nat} (B : xj_MB M n) : ∀ sig, parseMethodDescriptor M.1.desc = some sig → n = sig.parameters.length := by
  intro sig h
  have h2 := B.2.2.2
  rw [h] at h2
  exact (Option.some.inj h2).symm
/-- behind a call -/
theorem xj_go {post : Option Value → xj_W → Prop} {mc ms : Nat} {ls : Array Slot} {H : Heap} {locs : List Loc} {st0 : List Value} {aa : Array Value} (h1 : xj_LH ls L) (h4 : va_S (xj_A G) (xj_s E).heap H locs)
    (hr : va_Run E.1 E.2.1 E.2.2.1 E.2.2.2.1 (xj_s E) (xj_m E) (xj_a E) (xj_b E) (xj_me E) (xj_c E) H locs cs sl mc ms (F0 (xj_m E) pc ls st0) rest (xj_Q G post aa) (xj_A G))
    (kk : ∀ v w', post v w' → xj_X E G Q (cs + mc) (sl + ms) (pc + 3) L (v.toList ++ rest) w') : xj_V E H locs cs sl Q (F0 (xj_m E) pc ls st0) := by
  intro T hT X
  obtain ⟨v, st₀, t, T', Lc, e0, X', hLc, e1, e2, ⟨⟨v', w', hv, hpost, hsz, hP'⟩, hF⟩, stp⟩ := hr T hT X
  cases hv
  have hF1 := hF.1
  have hF2 := hF.2
  rw [e0] at hF1 hF2
  obtain ⟨t2, a1, b1⟩ := kk v w' hpost ls T'.heap (locs ++ Lc) h1 (by rw [e1]; exact hsz) (by rw [e1]; exact hP') ⟨Nat.le_trans h4.1 (by rw [e1]; exact hF1), fun q g1 g2 => by rw [e1, hF2 q (Nat.lt_of_lt_of_le g1 h4.1) g2]; exact h4.2.1 q g1 g2, fun q hq => by
      rcases List.mem_append.mp hq with h | h
      · exact h4.2.2 q h
      · exact hLc q h⟩ T' rfl X'
  exact ⟨t2, stp t2 a1, b1⟩
theorem xj_callV (C : xj_C E G cc own nL d q c0 s0 ret) {index : Nat} {M : xj_M} {k r i n d' q' mc ms : Nat} {qc : vw_C} {As : List Value} {post : Option Value → xj_W → Prop} (a : xj_At cc pc (.invokevirtual index) 3 nx) (hM : xj_Mx E.2.1 G d' q' mc ms M (.ref (xj_ad G (k, r, i)) :: As) w post) (B : xj_MV M n) (hL : xj_LK own index M.1) (hk : xj_knd k = 4 ∧ xj_cl[xj_cls k]? = some qc ∧ qc.1 = M.1.cls) (hp : xj_ok (k, r, i) w.2.2) (hd : d' < d ∧ q' + M.2.2.1 + 19 ≤ q) (hnl : L.length = nL) (hn : As.length = n) (hst : (st.map fun v => v.category).sum ≤ 8) (hc : cs + mc ≤ c0 ∧ sl + ms ≤ s0) (kk : ∀ v w', post v w' → xj_X E G Q (cs + mc) (sl + ms) nx L (v.toList ++ st) w') : xj_X E G Q cs sl pc L (As.reverse ++ .ref (xj_ad G (k, r, i)) :: st) w := by
  obtain ⟨hdc, hn0⟩ := a
  subst hn0
  intro ls H locs h1 h2 h3 h4
  have he := xj_at (G := G) hp
  rw [xj_obj hk.1] at he
  obtain ⟨cell, hc1, hc2, hc3⟩ := va_recv C.2.2.2.2.2.2.1 h3 hk.2.1 he
  rw [hk.2.2] at hc3
  have hR := C.2.2.2.2.2.2.2.1
  have hfr : (xj_rm d' q' mc ms).frames + 1 ≤ E.2.2.2.1.frames := by show d' + 1 ≤ _; omega
  have hlo : 8 + (M.2.2.1 + 11) + (xj_rm d' q' mc ms).locals ≤ E.2.2.2.1.locals := by
    show 8 + (M.2.2.1 + 11) + q' ≤ _
    omega
  have hp' : PreV (xj_s E) H M.1.cls (xj_ad G (k, r, i)) (va_Pc (.ref (xj_ad G (k, r, i)) :: As) (xj_st G w)) As := ⟨xj_blind, ⟨cell, hc1, hc2, hc3⟩, xj_pre C h2 h3⟩
  rcases hL with hL | ⟨host, hL⟩
  · refine xj_go h1 h4 (va_runV (n := n) (bytes := M.2.1) (maxL := M.2.2.1) (ret := M.2.2.2) ⟨C.1, C.2.1, C.2.2.1, C.2.2.2.1, C.2.2.2.2.1⟩ hM ⟨⟨rfl, rfl, hfr, hlo, xj_pays C B.1, List.mem_cons_self, C.2.2.2.2.1 _ B.1.1, C.2.2.2.2.1 _ B.1.2.1, B.1.2.2.1, xj_lens B.1, C.2.2.2.2.1 _ hL⟩, C.2.2.2.2.1 _ B.2.1, C.2.2.2.2.1 _ B.2.2⟩ hp' rfl hn (h1.1.trans hnl) rfl (lv_room hst) hdc ⟨by omega, by omega⟩) kk
  · refine xj_go h1 h4 (va_runVN (n := n) (bytes := M.2.1) (maxL := M.2.2.1) (ret := M.2.2.2) ⟨C.1, C.2.1, C.2.2.1, C.2.2.2.1, C.2.2.2.2.1⟩ hM ⟨⟨⟨rfl, rfl, hfr, hlo, xj_pays C B.1, List.mem_cons_self⟩, C.2.2.2.2.1 _ B.1.1, C.2.2.2.2.1 _ B.1.2.1, B.1.2.2.1, xj_lens B.1, va_Nw.use rfl (C.2.2.2.2.2.1 _ hL)⟩, C.2.2.2.2.1 _ B.2.1, C.2.2.2.2.1 _ B.2.2⟩ hp' rfl hn (h1.1.trans hnl) rfl (lv_room hst) hdc ⟨by omega, by omega⟩) kk
theorem xj_callS (C : xj_C E G cc own nL d q c0 s0 ret) {index : Nat} {M : xj_M} {n d' q' mc ms : Nat} {As : List Value} {post : Option Value → xj_W → Prop} (a : xj_At cc pc (.invokestatic index) 3 nx) (hM : xj_Mx E.2.1 G d' q' mc ms M As w post) (B : xj_MS M n) (hL : xj_LK own index M.1) (hd : d' < d ∧ q' + M.2.2.1 + 19 ≤ q) (hnl : L.length = nL) (hn : As.length = n) (hst : (st.map fun v => v.category).sum ≤ 8) (hc : cs + mc ≤ c0 ∧ sl + ms ≤ s0) (kk : ∀ v w', post v w' → xj_X E G Q (cs + mc) (sl + ms) nx L (v.toList ++ st) w') : xj_X E G Q cs sl pc L (As.reverse ++ st) w := by
  obtain ⟨hdc, hn0⟩ := a
  subst hn0
  intro ls H locs h1 h2 h3 h4
  have hR := C.2.2.2.2.2.2.2.1
  have hfr : (xj_rm d' q' mc ms).frames + 1 ≤ E.2.2.2.1.frames := by show d' + 1 ≤ _; omega
  have hlo : 8 + (M.2.2.1 + 11) + (xj_rm d' q' mc ms).locals ≤ E.2.2.2.1.locals := by
    show 8 + (M.2.2.1 + 11) + q' ≤ _
    omega
  have hp' : PreS (xj_s E) H (va_Pc As (xj_st G w)) As := ⟨xj_blind, xj_pre C h2 h3⟩
  rcases hL with hL | ⟨host, hL⟩
  · refine xj_go h1 h4 (va_runS (n := n) (bytes := M.2.1) (maxL := M.2.2.1) (ret := M.2.2.2) ⟨C.1, C.2.1, C.2.2.1, C.2.2.2.1, C.2.2.2.2.1⟩ hM ⟨⟨rfl, rfl, hfr, hlo, xj_pays C B.1, List.mem_cons_self, C.2.2.2.2.1 _ B.1.1, C.2.2.2.2.1 _ B.1.2.1, B.1.2.2.1, xj_lens B.1, C.2.2.2.2.1 _ hL⟩, C.2.2.2.2.1 _ B.2⟩ hp' rfl hn (h1.1.trans hnl) rfl (lv_room hst) hdc ⟨by omega, by omega⟩) kk
  · refine xj_go h1 h4 (va_runSN (n := n) (bytes := M.2.1) (maxL := M.2.2.1) (ret := M.2.2.2) ⟨C.1, C.2.1, C.2.2.1, C.2.2.2.1, C.2.2.2.2.1⟩ hM ⟨⟨⟨rfl, rfl, hfr, hlo, xj_pays C B.1, List.mem_cons_self⟩, C.2.2.2.2.1 _ B.1.1, C.2.2.2.2.1 _ B.1.2.1, B.1.2.2.1, xj_lens B.1, va_Nw.use rfl (C.2.2.2.2.2.1 _ hL)⟩, C.2.2.2.2.1 _ B.2, trivial⟩ hp' rfl hn (h1.1.trans hnl) rfl (lv_room hst) hdc ⟨by omega, by omega⟩) kk
theorem xj_callI (C : xj_C E G cc own nL d q c0 s0 ret) {index : Nat} {M : xj_M} {n d' q' mc ms b : Nat} {As : List Value} {post : Option Value → xj_W → Prop} (a : xj_At cc pc (.invokespecial index) 3 nx) (hret : M.2.2.2 = none) (hM : xj_Mx E.2.1 G d' q' mc ms M (.ref b :: As) w post) (B : xj_MI M n) (hL : xj_LK own index M.1) (hd : d' < d ∧ q' + M.2.2.1 + 19 ≤ q) (hnl : L.length = nL) (hn : As.length = n) (hst : (st.map fun v => v.category).sum ≤ 8) (hc : cs + mc ≤ c0 ∧ sl + ms ≤ s0) (kk : ∀ v w', post v w' → xj_X E G Q (cs + mc) (sl + ms) nx L (v.toList ++ st) w') : xj_X E G Q cs sl pc L (As.reverse ++ .ref b :: st) w := by
  obtain ⟨hdc, hn0⟩ := a
  subst hn0
  intro ls H locs h1 h2 h3 h4
  have hR := C.2.2.2.2.2.2.2.1
  have hfr : (xj_rm d' q' mc ms).frames + 1 ≤ E.2.2.2.1.frames := by show d' + 1 ≤ _; omega
  have hlo : 8 + (M.2.2.1 + 11) + (xj_rm d' q' mc ms).locals ≤ E.2.2.2.1.locals := by
    show 8 + (M.2.2.1 + 11) + q' ≤ _
    omega
  have hp' : PreS (xj_s E) H (va_Pc (.ref b :: As) (xj_st G w)) (.ref b :: As) := ⟨xj_blind, xj_pre C h2 h3⟩
  have hcode : Cond.code M.1 M.2.1 M.2.2.1 none ∈ (Cond.code M.1 M.2.1 M.2.2.1 M.2.2.2 :: xj_GW) := by rw [hret]; exact List.mem_cons_self
  have hcode2 : (Cond.code M.1 M.2.1 M.2.2.1 none).before (xj_a E) (xj_s E) = true := by rw [← hret]; exact C.2.2.2.2.1 _ B.1.1
  rcases hL with hL | ⟨host, hL⟩
  · refine xj_go h1 h4 (va_runI (n := n) (bytes := M.2.1) (maxL := M.2.2.1) ⟨C.1, C.2.1, C.2.2.1, C.2.2.2.1, C.2.2.2.2.1⟩ hM ⟨⟨rfl, rfl, hfr, hlo, xj_pays C B.1, hcode, hcode2, C.2.2.2.2.1 _ B.1.2.1, B.1.2.2.1, xj_lens B.1, C.2.2.2.2.1 _ hL⟩, B.2.1, C.2.2.2.2.1 _ B.2.2⟩ hp' rfl hn (h1.1.trans hnl) rfl (lv_room hst) hdc ⟨by omega, by omega⟩) kk
  · refine xj_go h1 h4 (va_runIN (n := n) (bytes := M.2.1) (maxL := M.2.2.1) ⟨C.1, C.2.1, C.2.2.1, C.2.2.2.1, C.2.2.2.2.1⟩ hM ⟨⟨⟨rfl, rfl, hfr, hlo, xj_pays C B.1, hcode⟩, hcode2, C.2.2.2.2.1 _ B.1.2.1, B.1.2.2.1, xj_lens B.1, va_Nw.use rfl (C.2.2.2.2.2.1 _ hL)⟩, B.2.1, C.2.2.2.2.1 _ B.2.2⟩ hp' rfl hn (h1.1.trans hnl) rfl (lv_room hst) hdc ⟨by omega, by omega⟩) kk
/-! ends -/
theorem xj_iret {post : Option Value → xj_W → Prop} (C : xj_C E G cc own nL d q c0 s0 (some .int)) {v : Int32} (a : xj_At cc pc .ireturn 1 nx) (hq : post (some (.int v)) w) : xj_X E G (xj_R E G post cs sl) cs sl pc L [.int v] w :=
  fun ls H locs h1 h2 h3 h4 => W.iret C.1 C.2.1 C.2.2.2.2.2.2.2.2.1 (fun t ht hW => ⟨⟨_, w, rfl, hq, by rw [ht]; exact h2, by rw [ht]; exact h3⟩, h4.F ht⟩) h4.2.2 a.1 (hlocks := C.2.2.2.2.2.2.2.2.2)
theorem xj_zret {post : Option Value → xj_W → Prop} (C : xj_C E G cc own nL d q c0 s0 (some .boolean)) {v : Int32} (a : xj_At cc pc .ireturn 1 nx) (hn : narrow .boolean (.int v) = .int v) (hq : post (some (.int v)) w) : xj_X E G (xj_R E G post cs sl) cs sl pc L [.int v] w :=
  fun ls H locs h1 h2 h3 h4 => W.zret C.1 C.2.1 C.2.2.2.2.2.2.2.2.1 hn (fun t ht hW => ⟨⟨_, w, rfl, hq, by rw [ht]; exact h2, by rw [ht]; exact h3⟩, h4.F ht⟩) h4.2.2 a.1 (hlocks := C.2.2.2.2.2.2.2.2.2)
theorem xj_lret {post : Option Value → xj_W → Prop} (C : xj_C E G cc own nL d q c0 s0 (some .long)) {v : Int64} (a : xj_At cc pc .lreturn 1 nx) (hq : post (some (.long v)) w) : xj_X E G (xj_R E G post cs sl) cs sl pc L [.long v] w :=
  fun ls H locs h1 h2 h3 h4 => W.lret C.1 C.2.1 C.2.2.2.2.2.2.2.2.1 (fun t ht hW => ⟨⟨_, w, rfl, hq, by rw [ht]; exact h2, by rw [ht]; exact h3⟩, h4.F ht⟩) h4.2.2 a.1 (hlocks := C.2.2.2.2.2.2.2.2.2)
theorem xj_vret {post : Option Value → xj_W → Prop} (C : xj_C E G cc own nL d q c0 s0 none) (a : xj_At cc pc .return_ 1 nx) (hq : post none w) : xj_X E G (xj_R E G post cs sl) cs sl pc L [] w :=
  fun ls H locs h1 h2 h3 h4 => W.vret C.1 C.2.1 C.2.2.2.2.2.2.2.2.1 (fun t ht hW => ⟨⟨_, w, rfl, hq, by rw [ht]; exact h2, by rw [ht]; exact h3⟩, h4.F ht⟩) h4.2.2 a.1 (hlocks := C.2.2.2.2.2.2.2.2.2)
theorem xj_aret {post : Option Value → xj_W → Prop} {Cn : String} (C : xj_C E G cc own nL d q c0 s0 (some (.object Cn))) {v : Nat} (a : xj_At cc pc .areturn 1 nx) (hq : post (some (.ref v)) w) : xj_X E G (xj_R E G post cs sl) cs sl pc L [.ref v] w :=
  fun ls H locs h1 h2 h3 h4 => W.aret C.1 C.2.1 C.2.2.2.2.2.2.2.2.1 (Or.inl ⟨_, rfl⟩) (Or.inr ⟨_, rfl⟩) (fun t ht hW => ⟨⟨_, w, rfl, hq, by rw [ht]; exact h2, by rw [ht]; exact h3⟩, h4.F ht⟩) h4.2.2 a.1 (hlocks := C.2.2.2.2.2.2.2.2.2)
end XJ2
end
section
section XJ3
variable {E : xj_E} {G : xj_G} {cc : ByteArray} {own : String} {nL d q c0 s0 : Nat} {ret : Option FieldType} {Q : State → Prop} {cs sl pc nx : Nat} {L : List (Option Value)} {st rest : List Value} {w : xj_W}
theorem xj_istore0 (C : xj_C E G cc own nL d q c0 s0 ret) {b : Option Value} {x : Int32} (a : xj_At cc pc (.istore_n 0) 1 nx)  (k : xj_X E G Q cs sl nx (some (.int x) :: L) st w) : xj_X E G Q cs sl pc (b :: L) (.int x :: st) w :=
  xj_istoreG_n C a (Nat.lt_of_sub_pos (by show 0 < List.length _ - 0; simp only [List.length_cons]; omega)) rfl k
theorem xj_astore0 (C : xj_C E G cc own nL d q c0 s0 ret) {b : Option Value} {x : Nat} (a : xj_At cc pc (.astore_n 0) 1 nx)  (k : xj_X E G Q cs sl nx (some (.ref x) :: L) st w) : xj_X E G Q cs sl pc (b :: L) (.ref x :: st) w :=
  xj_astoreG_n C a (Nat.lt_of_sub_pos (by show 0 < List.length _ - 0; simp only [List.length_cons]; omega)) rfl k
theorem xj_lstore0 (C : xj_C E G cc own nL d q c0 s0 ret) {b b2 : Option Value} {x : Int64} (a : xj_At cc pc (.lstore_n 0) 1 nx)  (k : xj_X E G Q cs sl nx (some (.long x) :: none :: L) st w) : xj_X E G Q cs sl pc (b :: b2 :: L) (.long x :: st) w :=
  xj_lstoreG_n C a (Nat.lt_of_sub_pos (by show 0 < List.length _ - (0 + 1); simp only [List.length_cons]; omega)) rfl k
theorem xj_iinc0 (C : xj_C E G cc own nL d q c0 s0 ret)  {z : Int} {x v : Int32} (a : xj_At cc pc (.iinc 0 z) 3 nx) (hv : Int32.ofInt z = v)  (k : xj_X E G Q cs sl nx (some (.int (x + v)) :: L) st w) : xj_X E G Q cs sl pc (some (.int x) :: L) st w :=
  xj_iincG C a rfl hv rfl k
theorem xj_istore1 (C : xj_C E G cc own nL d q c0 s0 ret) {a0 b : Option Value} {x : Int32} (a : xj_At cc pc (.istore_n 1) 1 nx) (hp : xj_nl a0 = true) (k : xj_X E G Q cs sl nx (a0 :: some (.int x) :: L) st w) : xj_X E G Q cs sl pc (a0 :: b :: L) (.int x :: st) w :=
  xj_istoreG_n C a (Nat.lt_of_sub_pos (by show 0 < List.length _ - 1; simp only [List.length_cons]; omega)) hp k
theorem xj_astore1 (C : xj_C E G cc own nL d q c0 s0 ret) {a0 b : Option Value} {x : Nat} (a : xj_At cc pc (.astore_n 1) 1 nx) (hp : xj_nl a0 = true) (k : xj_X E G Q cs sl nx (a0 :: some (.ref x) :: L) st w) : xj_X E G Q cs sl pc (a0 :: b :: L) (.ref x :: st) w :=
  xj_astoreG_n C a (Nat.lt_of_sub_pos (by show 0 < List.length _ - 1; simp only [List.length_cons]; omega)) hp k
theorem xj_lstore1 (C : xj_C E G cc own nL d q c0 s0 ret) {a0 b b2 : Option Value} {x : Int64} (a : xj_At cc pc (.lstore_n 1) 1 nx) (hp : xj_nl a0 = true) (k : xj_X E G Q cs sl nx (a0 :: some (.long x) :: none :: L) st w) : xj_X E G Q cs sl pc (a0 :: b :: b2 :: L) (.long x :: st) w :=
  xj_lstoreG_n C a (Nat.lt_of_sub_pos (by show 0 < List.length _ - (1 + 1); simp only [List.length_cons]; omega)) hp k
theorem xj_iinc1 (C : xj_C E G cc own nL d q c0 s0 ret) {a0 : Option Value} {z : Int} {x v : Int32} (a : xj_At cc pc (.iinc 1 z) 3 nx) (hv : Int32.ofInt z = v) (hp : xj_nl a0 = true) (k : xj_X E G Q cs sl nx (a0 :: some (.int (x + v)) :: L) st w) : xj_X E G Q cs sl pc (a0 :: some (.int x) :: L) st w :=
  xj_iincG C a rfl hv hp k
theorem xj_istore2 (C : xj_C E G cc own nL d q c0 s0 ret) {a0 a1 b : Option Value} {x : Int32} (a : xj_At cc pc (.istore_n 2) 1 nx) (hp : xj_nl a1 = true) (k : xj_X E G Q cs sl nx (a0 :: a1 :: some (.int x) :: L) st w) : xj_X E G Q cs sl pc (a0 :: a1 :: b :: L) (.int x :: st) w :=
  xj_istoreG_n C a (Nat.lt_of_sub_pos (by show 0 < List.length _ - 2; simp only [List.length_cons]; omega)) hp k
theorem xj_astore2 (C : xj_C E G cc own nL d q c0 s0 ret) {a0 a1 b : Option Value} {x : Nat} (a : xj_At cc pc (.astore_n 2) 1 nx) (hp : xj_nl a1 = true) (k : xj_X E G Q cs sl nx (a0 :: a1 :: some (.ref x) :: L) st w) : xj_X E G Q cs sl pc (a0 :: a1 :: b :: L) (.ref x :: st) w :=
  xj_astoreG_n C a (Nat.lt_of_sub_pos (by show 0 < List.length _ - 2; simp only [List.length_cons]; omega)) hp k
theorem xj_lstore2 (C : xj_C E G cc own nL d q c0 s0 ret) {a0 a1 b b2 : Option Value} {x : Int64} (a : xj_At cc pc (.lstore_n 2) 1 nx) (hp : xj_nl a1 = true) (k : xj_X E G Q cs sl nx (a0 :: a1 :: some (.long x) :: none :: L) st w) : xj_X E G Q cs sl pc (a0 :: a1 :: b :: b2 :: L) (.long x :: st) w :=
  xj_lstoreG_n C a (Nat.lt_of_sub_pos (by show 0 < List.length _ - (2 + 1); simp only [List.length_cons]; omega)) hp k
theorem xj_iinc2 (C : xj_C E G cc own nL d q c0 s0 ret) {a0 a1 : Option Value} {z : Int} {x v : Int32} (a : xj_At cc pc (.iinc 2 z) 3 nx) (hv : Int32.ofInt z = v) (hp : xj_nl a1 = true) (k : xj_X E G Q cs sl nx (a0 :: a1 :: some (.int (x + v)) :: L) st w) : xj_X E G Q cs sl pc (a0 :: a1 :: some (.int x) :: L) st w :=
  xj_iincG C a rfl hv hp k
theorem xj_istore3 (C : xj_C E G cc own nL d q c0 s0 ret) {a0 a1 a2 b : Option Value} {x : Int32} (a : xj_At cc pc (.istore_n 3) 1 nx) (hp : xj_nl a2 = true) (k : xj_X E G Q cs sl nx (a0 :: a1 :: a2 :: some (.int x) :: L) st w) : xj_X E G Q cs sl pc (a0 :: a1 :: a2 :: b :: L) (.int x :: st) w :=
  xj_istoreG_n C a (Nat.lt_of_sub_pos (by show 0 < List.length _ - 3; simp only [List.length_cons]; omega)) hp k
theorem xj_astore3 (C : xj_C E G cc own nL d q c0 s0 ret) {a0 a1 a2 b : Option Value} {x : Nat} (a : xj_At cc pc (.astore_n 3) 1 nx) (hp : xj_nl a2 = true) (k : xj_X E G Q cs sl nx (a0 :: a1 :: a2 :: some (.ref x) :: L) st w) : xj_X E G Q cs sl pc (a0 :: a1 :: a2 :: b :: L) (.ref x :: st) w :=
  xj_astoreG_n C a (Nat.lt_of_sub_pos (by show 0 < List.length _ - 3; simp only [List.length_cons]; omega)) hp k
theorem xj_lstore3 (C : xj_C E G cc own nL d q c0 s0 ret) {a0 a1 a2 b b2 : Option Value} {x : Int64} (a : xj_At cc pc (.lstore_n 3) 1 nx) (hp : xj_nl a2 = true) (k : xj_X E G Q cs sl nx (a0 :: a1 :: a2 :: some (.long x) :: none :: L) st w) : xj_X E G Q cs sl pc (a0 :: a1 :: a2 :: b :: b2 :: L) (.long x :: st) w :=
  xj_lstoreG_n C a (Nat.lt_of_sub_pos (by show 0 < List.length _ - (3 + 1); simp only [List.length_cons]; omega)) hp k
theorem xj_iinc3 (C : xj_C E G cc own nL d q c0 s0 ret) {a0 a1 a2 : Option Value} {z : Int} {x v : Int32} (a : xj_At cc pc (.iinc 3 z) 3 nx) (hv : Int32.ofInt z = v) (hp : xj_nl a2 = true) (k : xj_X E G Q cs sl nx (a0 :: a1 :: a2 :: some (.int (x + v)) :: L) st w) : xj_X E G Q cs sl pc (a0 :: a1 :: a2 :: some (.int x) :: L) st w :=
  xj_iincG C a rfl hv hp k
theorem xj_istore4 (C : xj_C E G cc own nL d q c0 s0 ret) {a0 a1 a2 a3 b : Option Value} {x : Int32} (a : xj_At cc pc (.istore 4) 2 nx) (hp : xj_nl a3 = true) (k : xj_X E G Q cs sl nx (a0 :: a1 :: a2 :: a3 :: some (.int x) :: L) st w) : xj_X E G Q cs sl pc (a0 :: a1 :: a2 :: a3 :: b :: L) (.int x :: st) w :=
  xj_istoreG C a (Nat.lt_of_sub_pos (by show 0 < List.length _ - 4; simp only [List.length_cons]; omega)) hp k
theorem xj_astore4 (C : xj_C E G cc own nL d q c0 s0 ret) {a0 a1 a2 a3 b : Option Value} {x : Nat} (a : xj_At cc pc (.astore 4) 2 nx) (hp : xj_nl a3 = true) (k : xj_X E G Q cs sl nx (a0 :: a1 :: a2 :: a3 :: some (.ref x) :: L) st w) : xj_X E G Q cs sl pc (a0 :: a1 :: a2 :: a3 :: b :: L) (.ref x :: st) w :=
  xj_astoreG C a (Nat.lt_of_sub_pos (by show 0 < List.length _ - 4; simp only [List.length_cons]; omega)) hp k
theorem xj_lstore4 (C : xj_C E G cc own nL d q c0 s0 ret) {a0 a1 a2 a3 b b2 : Option Value} {x : Int64} (a : xj_At cc pc (.lstore 4) 2 nx) (hp : xj_nl a3 = true) (k : xj_X E G Q cs sl nx (a0 :: a1 :: a2 :: a3 :: some (.long x) :: none :: L) st w) : xj_X E G Q cs sl pc (a0 :: a1 :: a2 :: a3 :: b :: b2 :: L) (.long x :: st) w :=
  xj_lstoreG C a (Nat.lt_of_sub_pos (by show 0 < List.length _ - (4 + 1); simp only [List.length_cons]; omega)) hp k
theorem xj_iinc4 (C : xj_C E G cc own nL d q c0 s0 ret) {a0 a1 a2 a3 : Option Value} {z : Int} {x v : Int32} (a : xj_At cc pc (.iinc 4 z) 3 nx) (hv : Int32.ofInt z = v) (hp : xj_nl a3 = true) (k : xj_X E G Q cs sl nx (a0 :: a1 :: a2 :: a3 :: some (.int (x + v)) :: L) st w) : xj_X E G Q cs sl pc (a0 :: a1 :: a2 :: a3 :: some (.int x) :: L) st w :=
  xj_iincG C a rfl hv hp k
theorem xj_istore5 (C : xj_C E G cc own nL d q c0 s0 ret) {a0 a1 a2 a3 a4 b : Option Value} {x : Int32} (a : xj_At cc pc (.istore 5) 2 nx) (hp : xj_nl a4 = true) (k : xj_X E G Q cs sl nx (a0 :: a1 :: a2 :: a3 :: a4 :: some (.int x) :: L) st w) : xj_X E G Q cs sl pc (a0 :: a1 :: a2 :: a3 :: a4 :: b :: L) (.int x :: st) w :=
  xj_istoreG C a (Nat.lt_of_sub_pos (by show 0 < List.length _ - 5; simp only [List.length_cons]; omega)) hp k
theorem xj_astore5 (C : xj_C E G cc own nL d q c0 s0 ret) {a0 a1 a2 a3 a4 b : Option Value} {x : Nat} (a : xj_At cc pc (.astore 5) 2 nx) (hp : xj_nl a4 = true) (k : xj_X E G Q cs sl nx (a0 :: a1 :: a2 :: a3 :: a4 :: some (.ref x) :: L) st w) : xj_X E G Q cs sl pc (a0 :: a1 :: a2 :: a3 :: a4 :: b :: L) (.ref x :: st) w :=
  xj_astoreG C a (Nat.lt_of_sub_pos (by show 0 < List.length _ - 5; simp only [List.length_cons]; omega)) hp k
theorem xj_lstore5 (C : xj_C E G cc own nL d q c0 s0 ret) {a0 a1 a2 a3 a4 b b2 : Option Value} {x : Int64} (a : xj_At cc pc (.lstore 5) 2 nx) (hp : xj_nl a4 = true) (k : xj_X E G Q cs sl nx (a0 :: a1 :: a2 :: a3 :: a4 :: some (.long x) :: none :: L) st w) : xj_X E G Q cs sl pc (a0 :: a1 :: a2 :: a3 :: a4 :: b :: b2 :: L) (.long x :: st) w :=
  xj_lstoreG C a (Nat.lt_of_sub_pos (by show 0 < List.length _ - (5 + 1); simp only [List.length_cons]; omega)) hp k
theorem xj_iinc5 (C : xj_C E G cc own nL d q c0 s0 ret) {a0 a1 a2 a3 a4 : Option Value} {z : Int} {x v : Int32} (a : xj_At cc pc (.iinc 5 z) 3 nx) (hv : Int32.ofInt z = v) (hp : xj_nl a4 = true) (k : xj_X E G Q cs sl nx (a0 :: a1 :: a2 :: a3 :: a4 :: some (.int (x + v)) :: L) st w) : xj_X E G Q cs sl pc (a0 :: a1 :: a2 :: a3 :: a4 :: some (.int x) :: L) st w :=
  xj_iincG C a rfl hv hp k
theorem xj_istore6 (C : xj_C E G cc own nL d q c0 s0 ret) {a0 a1 a2 a3 a4 a5 b : Option Value} {x : Int32} (a : xj_At cc pc (.istore 6) 2 nx) (hp : xj_nl a5 = true) (k : xj_X E G Q cs sl nx (a0 :: a1 :: a2 :: a3 :: a4 :: a5 :: some (.int x) :: L) st w) : xj_X E G Q cs sl pc (a0 :: a1 :: a2 :: a3 :: a4 :: a5 :: b :: L) (.int x :: st) w :=
  xj_istoreG C a (Nat.lt_of_sub_pos (by show 0 < List.length _ - 6; simp only [List.length_cons]; omega)) hp k
theorem xj_astore6 (C : xj_C E G cc own nL d q c0 s0 ret) {a0 a1 a2 a3 a4 a5 b : Option Value} {x : Nat} (a : xj_At cc pc (.astore 6) 2 nx) (hp : xj_nl a5 = true) (k : xj_X E G Q cs sl nx (a0 :: a1 :: a2 :: a3 :: a4 :: a5 :: some (.ref x) :: L) st w) : xj_X E G Q cs sl pc (a0 :: a1 :: a2 :: a3 :: a4 :: a5 :: b :: L) (.ref x :: st) w :=
  xj_astoreG C a (Nat.lt_of_sub_pos (by show 0 < List.length _ - 6; simp only [List.length_cons]; omega)) hp k
theorem xj_lstore6 (C : xj_C E G cc own nL d q c0 s0 ret) {a0 a1 a2 a3 a4 a5 b b2 : Option Value} {x : Int64} (a : xj_At cc pc (.lstore 6) 2 nx) (hp : xj_nl a5 = true) (k : xj_X E G Q cs sl nx (a0 :: a1 :: a2 :: a3 :: a4 :: a5 :: some (.long x) :: none :: L) st w) : xj_X E G Q cs sl pc (a0 :: a1 :: a2 :: a3 :: a4 :: a5 :: b :: b2 :: L) (.long x :: st) w :=
  xj_lstoreG C a (Nat.lt_of_sub_pos (by show 0 < List.length _ - (6 + 1); simp only [List.length_cons]; omega)) hp k
theorem xj_iinc6 (C : xj_C E G cc own nL d q c0 s0 ret) {a0 a1 a2 a3 a4 a5 : Option Value} {z : Int} {x v : Int32} (a : xj_At cc pc (.iinc 6 z) 3 nx) (hv : Int32.ofInt z = v) (hp : xj_nl a5 = true) (k : xj_X E G Q cs sl nx (a0 :: a1 :: a2 :: a3 :: a4 :: a5 :: some (.int (x + v)) :: L) st w) : xj_X E G Q cs sl pc (a0 :: a1 :: a2 :: a3 :: a4 :: a5 :: some (.int x) :: L) st w :=
  xj_iincG C a rfl hv hp k
theorem xj_istore7 (C : xj_C E G cc own nL d q c0 s0 ret) {a0 a1 a2 a3 a4 a5 a6 b : Option Value} {x : Int32} (a : xj_At cc pc (.istore 7) 2 nx) (hp : xj_nl a6 = true) (k : xj_X E G Q cs sl nx (a0 :: a1 :: a2 :: a3 :: a4 :: a5 :: a6 :: some (.int x) :: L) st w) : xj_X E G Q cs sl pc (a0 :: a1 :: a2 :: a3 :: a4 :: a5 :: a6 :: b :: L) (.int x :: st) w :=
  xj_istoreG C a (Nat.lt_of_sub_pos (by show 0 < List.length _ - 7; simp only [List.length_cons]; omega)) hp k
theorem xj_astore7 (C : xj_C E G cc own nL d q c0 s0 ret) {a0 a1 a2 a3 a4 a5 a6 b : Option Value} {x : Nat} (a : xj_At cc pc (.astore 7) 2 nx) (hp : xj_nl a6 = true) (k : xj_X E G Q cs sl nx (a0 :: a1 :: a2 :: a3 :: a4 :: a5 :: a6 :: some (.ref x) :: L) st w) : xj_X E G Q cs sl pc (a0 :: a1 :: a2 :: a3 :: a4 :: a5 :: a6 :: b :: L) (.ref x :: st) w :=
  xj_astoreG C a (Nat.lt_of_sub_pos (by show 0 < List.length _ - 7; simp only [List.length_cons]; omega)) hp k
theorem xj_lstore7 (C : xj_C E G cc own nL d q c0 s0 ret) {a0 a1 a2 a3 a4 a5 a6 b b2 : Option Value} {x : Int64} (a : xj_At cc pc (.lstore 7) 2 nx) (hp : xj_nl a6 = true) (k : xj_X E G Q cs sl nx (a0 :: a1 :: a2 :: a3 :: a4 :: a5 :: a6 :: some (.long x) :: none :: L) st w) : xj_X E G Q cs sl pc (a0 :: a1 :: a2 :: a3 :: a4 :: a5 :: a6 :: b :: b2 :: L) (.long x :: st) w :=
  xj_lstoreG C a (Nat.lt_of_sub_pos (by show 0 < List.length _ - (7 + 1); simp only [List.length_cons]; omega)) hp k
theorem xj_iinc7 (C : xj_C E G cc own nL d q c0 s0 ret) {a0 a1 a2 a3 a4 a5 a6 : Option Value} {z : Int} {x v : Int32} (a : xj_At cc pc (.iinc 7 z) 3 nx) (hv : Int32.ofInt z = v) (hp : xj_nl a6 = true) (k : xj_X E G Q cs sl nx (a0 :: a1 :: a2 :: a3 :: a4 :: a5 :: a6 :: some (.int (x + v)) :: L) st w) : xj_X E G Q cs sl pc (a0 :: a1 :: a2 :: a3 :: a4 :: a5 :: a6 :: some (.int x) :: L) st w :=
  xj_iincG C a rfl hv hp k
theorem xj_istore8 (C : xj_C E G cc own nL d q c0 s0 ret) {a0 a1 a2 a3 a4 a5 a6 a7 b : Option Value} {x : Int32} (a : xj_At cc pc (.istore 8) 2 nx) (hp : xj_nl a7 = true) (k : xj_X E G Q cs sl nx (a0 :: a1 :: a2 :: a3 :: a4 :: a5 :: a6 :: a7 :: some (.int x) :: L) st w) : xj_X E G Q cs sl pc (a0 :: a1 :: a2 :: a3 :: a4 :: a5 :: a6 :: a7 :: b :: L) (.int x :: st) w :=
  xj_istoreG C a (Nat.lt_of_sub_pos (by show 0 < List.length _ - 8; simp only [List.length_cons]; omega)) hp k
theorem xj_astore8 (C : xj_C E G cc own nL d q c0 s0 ret) {a0 a1 a2 a3 a4 a5 a6 a7 b : Option Value} {x : Nat} (a : xj_At cc pc (.astore 8) 2 nx) (hp : xj_nl a7 = true) (k : xj_X E G Q cs sl nx (a0 :: a1 :: a2 :: a3 :: a4 :: a5 :: a6 :: a7 :: some (.ref x) :: L) st w) : xj_X E G Q cs sl pc (a0 :: a1 :: a2 :: a3 :: a4 :: a5 :: a6 :: a7 :: b :: L) (.ref x :: st) w :=
  xj_astoreG C a (Nat.lt_of_sub_pos (by show 0 < List.length _ - 8; simp only [List.length_cons]; omega)) hp k
theorem xj_lstore8 (C : xj_C E G cc own nL d q c0 s0 ret) {a0 a1 a2 a3 a4 a5 a6 a7 b b2 : Option Value} {x : Int64} (a : xj_At cc pc (.lstore 8) 2 nx) (hp : xj_nl a7 = true) (k : xj_X E G Q cs sl nx (a0 :: a1 :: a2 :: a3 :: a4 :: a5 :: a6 :: a7 :: some (.long x) :: none :: L) st w) : xj_X E G Q cs sl pc (a0 :: a1 :: a2 :: a3 :: a4 :: a5 :: a6 :: a7 :: b :: b2 :: L) (.long x :: st) w :=
  xj_lstoreG C a (Nat.lt_of_sub_pos (by show 0 < List.length _ - (8 + 1); simp only [List.length_cons]; omega)) hp k
theorem xj_iinc8 (C : xj_C E G cc own nL d q c0 s0 ret) {a0 a1 a2 a3 a4 a5 a6 a7 : Option Value} {z : Int} {x v : Int32} (a : xj_At cc pc (.iinc 8 z) 3 nx) (hv : Int32.ofInt z = v) (hp : xj_nl a7 = true) (k : xj_X E G Q cs sl nx (a0 :: a1 :: a2 :: a3 :: a4 :: a5 :: a6 :: a7 :: some (.int (x + v)) :: L) st w) : xj_X E G Q cs sl pc (a0 :: a1 :: a2 :: a3 :: a4 :: a5 :: a6 :: a7 :: some (.int x) :: L) st w :=
  xj_iincG C a rfl hv hp k
theorem xj_istore9 (C : xj_C E G cc own nL d q c0 s0 ret) {a0 a1 a2 a3 a4 a5 a6 a7 a8 b : Option Value} {x : Int32} (a : xj_At cc pc (.istore 9) 2 nx) (hp : xj_nl a8 = true) (k : xj_X E G Q cs sl nx (a0 :: a1 :: a2 :: a3 :: a4 :: a5 :: a6 :: a7 :: a8 :: some (.int x) :: L) st w) : xj_X E G Q cs sl pc (a0 :: a1 :: a2 :: a3 :: a4 :: a5 :: a6 :: a7 :: a8 :: b :: L) (.int x :: st) w :=
  xj_istoreG C a (Nat.lt_of_sub_pos (by show 0 < List.length _ - 9; simp only [List.length_cons]; omega)) hp k
theorem xj_astore9 (C : xj_C E G cc own nL d q c0 s0 ret) {a0 a1 a2 a3 a4 a5 a6 a7 a8 b : Option Value} {x : Nat} (a : xj_At cc pc (.astore 9) 2 nx) (hp : xj_nl a8 = true) (k : xj_X E G Q cs sl nx (a0 :: a1 :: a2 :: a3 :: a4 :: a5 :: a6 :: a7 :: a8 :: some (.ref x) :: L) st w) : xj_X E G Q cs sl pc (a0 :: a1 :: a2 :: a3 :: a4 :: a5 :: a6 :: a7 :: a8 :: b :: L) (.ref x :: st) w :=
  xj_astoreG C a (Nat.lt_of_sub_pos (by show 0 < List.length _ - 9; simp only [List.length_cons]; omega)) hp k
theorem xj_lstore9 (C : xj_C E G cc own nL d q c0 s0 ret) {a0 a1 a2 a3 a4 a5 a6 a7 a8 b b2 : Option Value} {x : Int64} (a : xj_At cc pc (.lstore 9) 2 nx) (hp : xj_nl a8 = true) (k : xj_X E G Q cs sl nx (a0 :: a1 :: a2 :: a3 :: a4 :: a5 :: a6 :: a7 :: a8 :: some (.long x) :: none :: L) st w) : xj_X E G Q cs sl pc (a0 :: a1 :: a2 :: a3 :: a4 :: a5 :: a6 :: a7 :: a8 :: b :: b2 :: L) (.long x :: st) w :=
  xj_lstoreG C a (Nat.lt_of_sub_pos (by show 0 < List.length _ - (9 + 1); simp only [List.length_cons]; omega)) hp k
theorem xj_iinc9 (C : xj_C E G cc own nL d q c0 s0 ret) {a0 a1 a2 a3 a4 a5 a6 a7 a8 : Option Value} {z : Int} {x v : Int32} (a : xj_At cc pc (.iinc 9 z) 3 nx) (hv : Int32.ofInt z = v) (hp : xj_nl a8 = true) (k : xj_X E G Q cs sl nx (a0 :: a1 :: a2 :: a3 :: a4 :: a5 :: a6 :: a7 :: a8 :: some (.int (x + v)) :: L) st w) : xj_X E G Q cs sl pc (a0 :: a1 :: a2 :: a3 :: a4 :: a5 :: a6 :: a7 :: a8 :: some (.int x) :: L) st w :=
  xj_iincG C a rfl hv hp k
theorem xj_istore10 (C : xj_C E G cc own nL d q c0 s0 ret) {a0 a1 a2 a3 a4 a5 a6 a7 a8 a9 b : Option Value} {x : Int32} (a : xj_At cc pc (.istore 10) 2 nx) (hp : xj_nl a9 = true) (k : xj_X E G Q cs sl nx (a0 :: a1 :: a2 :: a3 :: a4 :: a5 :: a6 :: a7 :: a8 :: a9 :: some (.int x) :: L) st w) : xj_X E G Q cs sl pc (a0 :: a1 :: a2 :: a3 :: a4 :: a5 :: a6 :: a7 :: a8 :: a9 :: b :: L) (.int x :: st) w :=
  xj_istoreG C a (Nat.lt_of_sub_pos (by show 0 < List.length _ - 10; simp only [List.length_cons]; omega)) hp k
theorem xj_astore10 (C : xj_C E G cc own nL d q c0 s0 ret) {a0 a1 a2 a3 a4 a5 a6 a7 a8 a9 b : Option Value} {x : Nat} (a : xj_At cc pc (.astore 10) 2 nx) (hp : xj_nl a9 = true) (k : xj_X E G Q cs sl nx (a0 :: a1 :: a2 :: a3 :: a4 :: a5 :: a6 :: a7 :: a8 :: a9 :: some (.ref x) :: L) st w) : xj_X E G Q cs sl pc (a0 :: a1 :: a2 :: a3 :: a4 :: a5 :: a6 :: a7 :: a8 :: a9 :: b :: L) (.ref x :: st) w :=
  xj_astoreG C a (Nat.lt_of_sub_pos (by show 0 < List.length _ - 10; simp only [List.length_cons]; omega)) hp k
theorem xj_lstore10 (C : xj_C E G cc own nL d q c0 s0 ret) {a0 a1 a2 a3 a4 a5 a6 a7 a8 a9 b b2 : Option Value} {x : Int64} (a : xj_At cc pc (.lstore 10) 2 nx) (hp : xj_nl a9 = true) (k : xj_X E G Q cs sl nx (a0 :: a1 :: a2 :: a3 :: a4 :: a5 :: a6 :: a7 :: a8 :: a9 :: some (.long x) :: none :: L) st w) : xj_X E G Q cs sl pc (a0 :: a1 :: a2 :: a3 :: a4 :: a5 :: a6 :: a7 :: a8 :: a9 :: b :: b2 :: L) (.long x :: st) w :=
  xj_lstoreG C a (Nat.lt_of_sub_pos (by show 0 < List.length _ - (10 + 1); simp only [List.length_cons]; omega)) hp k
theorem xj_iinc10 (C : xj_C E G cc own nL d q c0 s0 ret) {a0 a1 a2 a3 a4 a5 a6 a7 a8 a9 : Option Value} {z : Int} {x v : Int32} (a : xj_At cc pc (.iinc 10 z) 3 nx) (hv : Int32.ofInt z = v) (hp : xj_nl a9 = true) (k : xj_X E G Q cs sl nx (a0 :: a1 :: a2 :: a3 :: a4 :: a5 :: a6 :: a7 :: a8 :: a9 :: some (.int (x + v)) :: L) st w) : xj_X E G Q cs sl pc (a0 :: a1 :: a2 :: a3 :: a4 :: a5 :: a6 :: a7 :: a8 :: a9 :: some (.int x) :: L) st w :=
  xj_iincG C a rfl hv hp k
theorem xj_istore11 (C : xj_C E G cc own nL d q c0 s0 ret) {a0 a1 a2 a3 a4 a5 a6 a7 a8 a9 a10 b : Option Value} {x : Int32} (a : xj_At cc pc (.istore 11) 2 nx) (hp : xj_nl a10 = true) (k : xj_X E G Q cs sl nx (a0 :: a1 :: a2 :: a3 :: a4 :: a5 :: a6 :: a7 :: a8 :: a9 :: a10 :: some (.int x) :: L) st w) : xj_X E G Q cs sl pc (a0 :: a1 :: a2 :: a3 :: a4 :: a5 :: a6 :: a7 :: a8 :: a9 :: a10 :: b :: L) (.int x :: st) w :=
  xj_istoreG C a (Nat.lt_of_sub_pos (by show 0 < List.length _ - 11; simp only [List.length_cons]; omega)) hp k
theorem xj_astore11 (C : xj_C E G cc own nL d q c0 s0 ret) {a0 a1 a2 a3 a4 a5 a6 a7 a8 a9 a10 b : Option Value} {x : Nat} (a : xj_At cc pc (.astore 11) 2 nx) (hp : xj_nl a10 = true) (k : xj_X E G Q cs sl nx (a0 :: a1 :: a2 :: a3 :: a4 :: a5 :: a6 :: a7 :: a8 :: a9 :: a10 :: some (.ref x) :: L) st w) : xj_X E G Q cs sl pc (a0 :: a1 :: a2 :: a3 :: a4 :: a5 :: a6 :: a7 :: a8 :: a9 :: a10 :: b :: L) (.ref x :: st) w :=
  xj_astoreG C a (Nat.lt_of_sub_pos (by show 0 < List.length _ - 11; simp only [List.length_cons]; omega)) hp k
theorem xj_lstore11 (C : xj_C E G cc own nL d q c0 s0 ret) {a0 a1 a2 a3 a4 a5 a6 a7 a8 a9 a10 b b2 : Option Value} {x : Int64} (a : xj_At cc pc (.lstore 11) 2 nx) (hp : xj_nl a10 = true) (k : xj_X E G Q cs sl nx (a0 :: a1 :: a2 :: a3 :: a4 :: a5 :: a6 :: a7 :: a8 :: a9 :: a10 :: some (.long x) :: none :: L) st w) : xj_X E G Q cs sl pc (a0 :: a1 :: a2 :: a3 :: a4 :: a5 :: a6 :: a7 :: a8 :: a9 :: a10 :: b :: b2 :: L) (.long x :: st) w :=
  xj_lstoreG C a (Nat.lt_of_sub_pos (by show 0 < List.length _ - (11 + 1); simp only [List.length_cons]; omega)) hp k
theorem xj_iinc11 (C : xj_C E G cc own nL d q c0 s0 ret) {a0 a1 a2 a3 a4 a5 a6 a7 a8 a9 a10 : Option Value} {z : Int} {x v : Int32} (a : xj_At cc pc (.iinc 11 z) 3 nx) (hv : Int32.ofInt z = v) (hp : xj_nl a10 = true) (k : xj_X E G Q cs sl nx (a0 :: a1 :: a2 :: a3 :: a4 :: a5 :: a6 :: a7 :: a8 :: a9 :: a10 :: some (.int (x + v)) :: L) st w) : xj_X E G Q cs sl pc (a0 :: a1 :: a2 :: a3 :: a4 :: a5 :: a6 :: a7 :: a8 :: a9 :: a10 :: some (.int x) :: L) st w :=
  xj_iincG C a rfl hv hp k
theorem xj_istore12 (C : xj_C E G cc own nL d q c0 s0 ret) {a0 a1 a2 a3 a4 a5 a6 a7 a8 a9 a10 a11 b : Option Value} {x : Int32} (a : xj_At cc pc (.istore 12) 2 nx) (hp : xj_nl a11 = true) (k : xj_X E G Q cs sl nx (a0 :: a1 :: a2 :: a3 :: a4 :: a5 :: a6 :: a7 :: a8 :: a9 :: a10 :: a11 :: some (.int x) :: L) st w) : xj_X E G Q cs sl pc (a0 :: a1 :: a2 :: a3 :: a4 :: a5 :: a6 :: a7 :: a8 :: a9 :: a10 :: a11 :: b :: L) (.int x :: st) w :=
  xj_istoreG C a (Nat.lt_of_sub_pos (by show 0 < List.length _ - 12; simp only [List.length_cons]; omega)) hp k
theorem xj_astore12 (C : xj_C E G cc own nL d q c0 s0 ret) {a0 a1 a2 a3 a4 a5 a6 a7 a8 a9 a10 a11 b : Option Value} {x : Nat} (a : xj_At cc pc (.astore 12) 2 nx) (hp : xj_nl a11 = true) (k : xj_X E G Q cs sl nx (a0 :: a1 :: a2 :: a3 :: a4 :: a5 :: a6 :: a7 :: a8 :: a9 :: a10 :: a11 :: some (.ref x) :: L) st w) : xj_X E G Q cs sl pc (a0 :: a1 :: a2 :: a3 :: a4 :: a5 :: a6 :: a7 :: a8 :: a9 :: a10 :: a11 :: b :: L) (.ref x :: st) w :=
  xj_astoreG C a (Nat.lt_of_sub_pos (by show 0 < List.length _ - 12; simp only [List.length_cons]; omega)) hp k
theorem xj_lstore12 (C : xj_C E G cc own nL d q c0 s0 ret) {a0 a1 a2 a3 a4 a5 a6 a7 a8 a9 a10 a11 b b2 : Option Value} {x : Int64} (a : xj_At cc pc (.lstore 12) 2 nx) (hp : xj_nl a11 = true) (k : xj_X E G Q cs sl nx (a0 :: a1 :: a2 :: a3 :: a4 :: a5 :: a6 :: a7 :: a8 :: a9 :: a10 :: a11 :: some (.long x) :: none :: L) st w) : xj_X E G Q cs sl pc (a0 :: a1 :: a2 :: a3 :: a4 :: a5 :: a6 :: a7 :: a8 :: a9 :: a10 :: a11 :: b :: b2 :: L) (.long x :: st) w :=
  xj_lstoreG C a (Nat.lt_of_sub_pos (by show 0 < List.length _ - (12 + 1); simp only [List.length_cons]; omega)) hp k
theorem xj_iinc12 (C : xj_C E G cc own nL d q c0 s0 ret) {a0 a1 a2 a3 a4 a5 a6 a7 a8 a9 a10 a11 : Option Value} {z : Int} {x v : Int32} (a : xj_At cc pc (.iinc 12 z) 3 nx) (hv : Int32.ofInt z = v) (hp : xj_nl a11 = true) (k : xj_X E G Q cs sl nx (a0 :: a1 :: a2 :: a3 :: a4 :: a5 :: a6 :: a7 :: a8 :: a9 :: a10 :: a11 :: some (.int (x + v)) :: L) st w) : xj_X E G Q cs sl pc (a0 :: a1 :: a2 :: a3 :: a4 :: a5 :: a6 :: a7 :: a8 :: a9 :: a10 :: a11 :: some (.int x) :: L) st w :=
  xj_iincG C a rfl hv hp k
theorem xj_istore13 (C : xj_C E G cc own nL d q c0 s0 ret) {a0 a1 a2 a3 a4 a5 a6 a7 a8 a9 a10 a11 a12 b : Option Value} {x : Int32} (a : xj_At cc pc (.istore 13) 2 nx) (hp : xj_nl a12 = true) (k : xj_X E G Q cs sl nx (a0 :: a1 :: a2 :: a3 :: a4 :: a5 :: a6 :: a7 :: a8 :: a9 :: a10 :: a11 :: a12 :: some (.int x) :: L) st w) : xj_X E G Q cs sl pc (a0 :: a1 :: a2 :: a3 :: a4 :: a5 :: a6 :: a7 :: a8 :: a9 :: a10 :: a11 :: a12 :: b :: L) (.int x :: st) w :=
  xj_istoreG C a (Nat.lt_of_sub_pos (by show 0 < List.length _ - 13; simp only [List.length_cons]; omega)) hp k
theorem xj_astore13 (C : xj_C E G cc own nL d q c0 s0 ret) {a0 a1 a2 a3 a4 a5 a6 a7 a8 a9 a10 a11 a12 b : Option Value} {x : Nat} (a : xj_At cc pc (.astore 13) 2 nx) (hp : xj_nl a12 = true) (k : xj_X E G Q cs sl nx (a0 :: a1 :: a2 :: a3 :: a4 :: a5 :: a6 :: a7 :: a8 :: a9 :: a10 :: a11 :: a12 :: some (.ref x) :: L) st w) : xj_X E G Q cs sl pc (a0 :: a1 :: a2 :: a3 :: a4 :: a5 :: a6 :: a7 :: a8 :: a9 :: a10 :: a11 :: a12 :: b :: L) (.ref x :: st) w :=
  xj_astoreG C a (Nat.lt_of_sub_pos (by show 0 < List.length _ - 13; simp only [List.length_cons]; omega)) hp k
theorem xj_lstore13 (C : xj_C E G cc own nL d q c0 s0 ret) {a0 a1 a2 a3 a4 a5 a6 a7 a8 a9 a10 a11 a12 b b2 : Option Value} {x : Int64} (a : xj_At cc pc (.lstore 13) 2 nx) (hp : xj_nl a12 = true) (k : xj_X E G Q cs sl nx (a0 :: a1 :: a2 :: a3 :: a4 :: a5 :: a6 :: a7 :: a8 :: a9 :: a10 :: a11 :: a12 :: some (.long x) :: none :: L) st w) : xj_X E G Q cs sl pc (a0 :: a1 :: a2 :: a3 :: a4 :: a5 :: a6 :: a7 :: a8 :: a9 :: a10 :: a11 :: a12 :: b :: b2 :: L) (.long x :: st) w :=
  xj_lstoreG C a (Nat.lt_of_sub_pos (by show 0 < List.length _ - (13 + 1); simp only [List.length_cons]; omega)) hp k
theorem xj_iinc13 (C : xj_C E G cc own nL d q c0 s0 ret) {a0 a1 a2 a3 a4 a5 a6 a7 a8 a9 a10 a11 a12 : Option Value} {z : Int} {x v : Int32} (a : xj_At cc pc (.iinc 13 z) 3 nx) (hv : Int32.ofInt z = v) (hp : xj_nl a12 = true) (k : xj_X E G Q cs sl nx (a0 :: a1 :: a2 :: a3 :: a4 :: a5 :: a6 :: a7 :: a8 :: a9 :: a10 :: a11 :: a12 :: some (.int (x + v)) :: L) st w) : xj_X E G Q cs sl pc (a0 :: a1 :: a2 :: a3 :: a4 :: a5 :: a6 :: a7 :: a8 :: a9 :: a10 :: a11 :: a12 :: some (.int x) :: L) st w :=
  xj_iincG C a rfl hv hp k
theorem xj_istore14 (C : xj_C E G cc own nL d q c0 s0 ret) {a0 a1 a2 a3 a4 a5 a6 a7 a8 a9 a10 a11 a12 a13 b : Option Value} {x : Int32} (a : xj_At cc pc (.istore 14) 2 nx) (hp : xj_nl a13 = true) (k : xj_X E G Q cs sl nx (a0 :: a1 :: a2 :: a3 :: a4 :: a5 :: a6 :: a7 :: a8 :: a9 :: a10 :: a11 :: a12 :: a13 :: some (.int x) :: L) st w) : xj_X E G Q cs sl pc (a0 :: a1 :: a2 :: a3 :: a4 :: a5 :: a6 :: a7 :: a8 :: a9 :: a10 :: a11 :: a12 :: a13 :: b :: L) (.int x :: st) w :=
  xj_istoreG C a (Nat.lt_of_sub_pos (by show 0 < List.length _ - 14; simp only [List.length_cons]; omega)) hp k
theorem xj_astore14 (C : xj_C E G cc own nL d q c0 s0 ret) {a0 a1 a2 a3 a4 a5 a6 a7 a8 a9 a10 a11 a12 a13 b : Option Value} {x : Nat} (a : xj_At cc pc (.astore 14) 2 nx) (hp : xj_nl a13 = true) (k : xj_X E G Q cs sl nx (a0 :: a1 :: a2 :: a3 :: a4 :: a5 :: a6 :: a7 :: a8 :: a9 :: a10 :: a11 :: a12 :: a13 :: some (.ref x) :: L) st w) : xj_X E G Q cs sl pc (a0 :: a1 :: a2 :: a3 :: a4 :: a5 :: a6 :: a7 :: a8 :: a9 :: a10 :: a11 :: a12 :: a13 :: b :: L) (.ref x :: st) w :=
  xj_astoreG C a (Nat.lt_of_sub_pos (by show 0 < List.length _ - 14; simp only [List.length_cons]; omega)) hp k
theorem xj_lstore14 (C : xj_C E G cc own nL d q c0 s0 ret) {a0 a1 a2 a3 a4 a5 a6 a7 a8 a9 a10 a11 a12 a13 b b2 : Option Value} {x : Int64} (a : xj_At cc pc (.lstore 14) 2 nx) (hp : xj_nl a13 = true) (k : xj_X E G Q cs sl nx (a0 :: a1 :: a2 :: a3 :: a4 :: a5 :: a6 :: a7 :: a8 :: a9 :: a10 :: a11 :: a12 :: a13 :: some (.long x) :: none :: L) st w) : xj_X E G Q cs sl pc (a0 :: a1 :: a2 :: a3 :: a4 :: a5 :: a6 :: a7 :: a8 :: a9 :: a10 :: a11 :: a12 :: a13 :: b :: b2 :: L) (.long x :: st) w :=
  xj_lstoreG C a (Nat.lt_of_sub_pos (by show 0 < List.length _ - (14 + 1); simp only [List.length_cons]; omega)) hp k
theorem xj_iinc14 (C : xj_C E G cc own nL d q c0 s0 ret) {a0 a1 a2 a3 a4 a5 a6 a7 a8 a9 a10 a11 a12 a13 : Option Value} {z : Int} {x v : Int32} (a : xj_At cc pc (.iinc 14 z) 3 nx) (hv : Int32.ofInt z = v) (hp : xj_nl a13 = true) (k : xj_X E G Q cs sl nx (a0 :: a1 :: a2 :: a3 :: a4 :: a5 :: a6 :: a7 :: a8 :: a9 :: a10 :: a11 :: a12 :: a13 :: some (.int (x + v)) :: L) st w) : xj_X E G Q cs sl pc (a0 :: a1 :: a2 :: a3 :: a4 :: a5 :: a6 :: a7 :: a8 :: a9 :: a10 :: a11 :: a12 :: a13 :: some (.int x) :: L) st w :=
  xj_iincG C a rfl hv hp k
theorem xj_istore15 (C : xj_C E G cc own nL d q c0 s0 ret) {a0 a1 a2 a3 a4 a5 a6 a7 a8 a9 a10 a11 a12 a13 a14 b : Option Value} {x : Int32} (a : xj_At cc pc (.istore 15) 2 nx) (hp : xj_nl a14 = true) (k : xj_X E G Q cs sl nx (a0 :: a1 :: a2 :: a3 :: a4 :: a5 :: a6 :: a7 :: a8 :: a9 :: a10 :: a11 :: a12 :: a13 :: a14 :: some (.int x) :: L) st w) : xj_X E G Q cs sl pc (a0 :: a1 :: a2 :: a3 :: a4 :: a5 :: a6 :: a7 :: a8 :: a9 :: a10 :: a11 :: a12 :: a13 :: a14 :: b :: L) (.int x :: st) w :=
  xj_istoreG C a (Nat.lt_of_sub_pos (by show 0 < List.length _ - 15; simp only [List.length_cons]; omega)) hp k
theorem xj_astore15 (C : xj_C E G cc own nL d q c0 s0 ret) {a0 a1 a2 a3 a4 a5 a6 a7 a8 a9 a10 a11 a12 a13 a14 b : Option Value} {x : Nat} (a : xj_At cc pc (.astore 15) 2 nx) (hp : xj_nl a14 = true) (k : xj_X E G Q cs sl nx (a0 :: a1 :: a2 :: a3 :: a4 :: a5 :: a6 :: a7 :: a8 :: a9 :: a10 :: a11 :: a12 :: a13 :: a14 :: some (.ref x) :: L) st w) : xj_X E G Q cs sl pc (a0 :: a1 :: a2 :: a3 :: a4 :: a5 :: a6 :: a7 :: a8 :: a9 :: a10 :: a11 :: a12 :: a13 :: a14 :: b :: L) (.ref x :: st) w :=
  xj_astoreG C a (Nat.lt_of_sub_pos (by show 0 < List.length _ - 15; simp only [List.length_cons]; omega)) hp k
theorem xj_lstore15 (C : xj_C E G cc own nL d q c0 s0 ret) {a0 a1 a2 a3 a4 a5 a6 a7 a8 a9 a10 a11 a12 a13 a14 b b2 : Option Value} {x : Int64} (a : xj_At cc pc (.lstore 15) 2 nx) (hp : xj_nl a14 = true) (k : xj_X E G Q cs sl nx (a0 :: a1 :: a2 :: a3 :: a4 :: a5 :: a6 :: a7 :: a8 :: a9 :: a10 :: a11 :: a12 :: a13 :: a14 :: some (.long x) :: none :: L) st w) : xj_X E G Q cs sl pc (a0 :: a1 :: a2 :: a3 :: a4 :: a5 :: a6 :: a7 :: a8 :: a9 :: a10 :: a11 :: a12 :: a13 :: a14 :: b :: b2 :: L) (.long x :: st) w :=
  xj_lstoreG C a (Nat.lt_of_sub_pos (by show 0 < List.length _ - (15 + 1); simp only [List.length_cons]; omega)) hp k
theorem xj_iinc15 (C : xj_C E G cc own nL d q c0 s0 ret) {a0 a1 a2 a3 a4 a5 a6 a7 a8 a9 a10 a11 a12 a13 a14 : Option Value} {z : Int} {x v : Int32} (a : xj_At cc pc (.iinc 15 z) 3 nx) (hv : Int32.ofInt z = v) (hp : xj_nl a14 = true) (k : xj_X E G Q cs sl nx (a0 :: a1 :: a2 :: a3 :: a4 :: a5 :: a6 :: a7 :: a8 :: a9 :: a10 :: a11 :: a12 :: a13 :: a14 :: some (.int (x + v)) :: L) st w) : xj_X E G Q cs sl pc (a0 :: a1 :: a2 :: a3 :: a4 :: a5 :: a6 :: a7 :: a8 :: a9 :: a10 :: a11 :: a12 :: a13 :: a14 :: some (.int x) :: L) st w :=
  xj_iincG C a rfl hv hp k
theorem xj_callV0 (C : xj_C E G cc own nL d q c0 s0 ret) {index : Nat} {M : xj_M} {k r i d' q' mc ms : Nat} {qc : vw_C}  {post : Option Value → xj_W → Prop} (a : xj_At cc pc (.invokevirtual index) 3 nx) (hM : xj_Mx E.2.1 G d' q' mc ms M (.ref (xj_ad G (k, r, i)) :: []) w post) (B : xj_MV M 0) (hL : xj_LK own index M.1) (hk : xj_knd k = 4 ∧ xj_cl[xj_cls k]? = some qc ∧ qc.1 = M.1.cls) (hp : xj_ok (k, r, i) w.2.2) (hd : d' < d ∧ q' + M.2.2.1 + 19 ≤ q) (hnl : L.length = nL) (hst : (st.map fun v => v.category).sum ≤ 8) (hc : cs + mc ≤ c0 ∧ sl + ms ≤ s0) (kk : ∀ v w', post v w' → xj_X E G Q (cs + mc) (sl + ms) nx L (v.toList ++ st) w') : xj_X E G Q cs sl pc L (.ref (xj_ad G (k, r, i)) :: st) w :=
  xj_callV (As := []) C a hM B hL hk hp hd hnl rfl hst hc kk
theorem xj_callS0 (C : xj_C E G cc own nL d q c0 s0 ret) {index : Nat} {M : xj_M} {d' q' mc ms : Nat}  {post : Option Value → xj_W → Prop} (a : xj_At cc pc (.invokestatic index) 3 nx) (hM : xj_Mx E.2.1 G d' q' mc ms M [] w post) (B : xj_MS M 0) (hL : xj_LK own index M.1) (hd : d' < d ∧ q' + M.2.2.1 + 19 ≤ q) (hnl : L.length = nL) (hst : (st.map fun v => v.category).sum ≤ 8) (hc : cs + mc ≤ c0 ∧ sl + ms ≤ s0) (kk : ∀ v w', post v w' → xj_X E G Q (cs + mc) (sl + ms) nx L (v.toList ++ st) w') : xj_X E G Q cs sl pc L (st) w :=
  xj_callS (As := []) C a hM B hL hd hnl rfl hst hc kk
theorem xj_callI0 (C : xj_C E G cc own nL d q c0 s0 ret) {index : Nat} {M : xj_M} {d' q' mc ms b : Nat}  {post : Option Value → xj_W → Prop} (a : xj_At cc pc (.invokespecial index) 3 nx) (hret : M.2.2.2 = none) (hM : xj_Mx E.2.1 G d' q' mc ms M (.ref b :: []) w post) (B : xj_MI M 0) (hL : xj_LK own index M.1) (hd : d' < d ∧ q' + M.2.2.1 + 19 ≤ q) (hnl : L.length = nL) (hst : (st.map fun v => v.category).sum ≤ 8) (hc : cs + mc ≤ c0 ∧ sl + ms ≤ s0) (kk : ∀ v w', post v w' → xj_X E G Q (cs + mc) (sl + ms) nx L (v.toList ++ st) w') : xj_X E G Q cs sl pc L (.ref b :: st) w :=
  xj_callI (As := []) C a hret hM B hL hd hnl rfl hst hc kk
theorem xj_callV1 (C : xj_C E G cc own nL d q c0 s0 ret) {index : Nat} {M : xj_M} {k r i d' q' mc ms : Nat} {qc : vw_C} {x1 : Value} {post : Option Value → xj_W → Prop} (a : xj_At cc pc (.invokevirtual index) 3 nx) (hM : xj_Mx E.2.1 G d' q' mc ms M (.ref (xj_ad G (k, r, i)) :: [x1]) w post) (B : xj_MV M 1) (hL : xj_LK own index M.1) (hk : xj_knd k = 4 ∧ xj_cl[xj_cls k]? = some qc ∧ qc.1 = M.1.cls) (hp : xj_ok (k, r, i) w.2.2) (hd : d' < d ∧ q' + M.2.2.1 + 19 ≤ q) (hnl : L.length = nL) (hst : (st.map fun v => v.category).sum ≤ 8) (hc : cs + mc ≤ c0 ∧ sl + ms ≤ s0) (kk : ∀ v w', post v w' → xj_X E G Q (cs + mc) (sl + ms) nx L (v.toList ++ st) w') : xj_X E G Q cs sl pc L (x1 :: .ref (xj_ad G (k, r, i)) :: st) w :=
  xj_callV (As := [x1]) C a hM B hL hk hp hd hnl rfl hst hc kk
theorem xj_callS1 (C : xj_C E G cc own nL d q c0 s0 ret) {index : Nat} {M : xj_M} {d' q' mc ms : Nat} {x1 : Value} {post : Option Value → xj_W → Prop} (a : xj_At cc pc (.invokestatic index) 3 nx) (hM : xj_Mx E.2.1 G d' q' mc ms M [x1] w post) (B : xj_MS M 1) (hL : xj_LK own index M.1) (hd : d' < d ∧ q' + M.2.2.1 + 19 ≤ q) (hnl : L.length = nL) (hst : (st.map fun v => v.category).sum ≤ 8) (hc : cs + mc ≤ c0 ∧ sl + ms ≤ s0) (kk : ∀ v w', post v w' → xj_X E G Q (cs + mc) (sl + ms) nx L (v.toList ++ st) w') : xj_X E G Q cs sl pc L (x1 :: st) w :=
  xj_callS (As := [x1]) C a hM B hL hd hnl rfl hst hc kk
theorem xj_callI1 (C : xj_C E G cc own nL d q c0 s0 ret) {index : Nat} {M : xj_M} {d' q' mc ms b : Nat} {x1 : Value} {post : Option Value → xj_W → Prop} (a : xj_At cc pc (.invokespecial index) 3 nx) (hret : M.2.2.2 = none) (hM : xj_Mx E.2.1 G d' q' mc ms M (.ref b :: [x1]) w post) (B : xj_MI M 1) (hL : xj_LK own index M.1) (hd : d' < d ∧ q' + M.2.2.1 + 19 ≤ q) (hnl : L.length = nL) (hst : (st.map fun v => v.category).sum ≤ 8) (hc : cs + mc ≤ c0 ∧ sl + ms ≤ s0) (kk : ∀ v w', post v w' → xj_X E G Q (cs + mc) (sl + ms) nx L (v.toList ++ st) w') : xj_X E G Q cs sl pc L (x1 :: .ref b :: st) w :=
  xj_callI (As := [x1]) C a hret hM B hL hd hnl rfl hst hc kk
theorem xj_callV2 (C : xj_C E G cc own nL d q c0 s0 ret) {index : Nat} {M : xj_M} {k r i d' q' mc ms : Nat} {qc : vw_C} {x1 x2 : Value} {post : Option Value → xj_W → Prop} (a : xj_At cc pc (.invokevirtual index) 3 nx) (hM : xj_Mx E.2.1 G d' q' mc ms M (.ref (xj_ad G (k, r, i)) :: [x1, x2]) w post) (B : xj_MV M 2) (hL : xj_LK own index M.1) (hk : xj_knd k = 4 ∧ xj_cl[xj_cls k]? = some qc ∧ qc.1 = M.1.cls) (hp : xj_ok (k, r, i) w.2.2) (hd : d' < d ∧ q' + M.2.2.1 + 19 ≤ q) (hnl : L.length = nL) (hst : (st.map fun v => v.category).sum ≤ 8) (hc : cs + mc ≤ c0 ∧ sl + ms ≤ s0) (kk : ∀ v w', post v w' → xj_X E G Q (cs + mc) (sl + ms) nx L (v.toList ++ st) w') : xj_X E G Q cs sl pc L (x2 :: x1 :: .ref (xj_ad G (k, r, i)) :: st) w :=
  xj_callV (As := [x1, x2]) C a hM B hL hk hp hd hnl rfl hst hc kk
theorem xj_callS2 (C : xj_C E G cc own nL d q c0 s0 ret) {index : Nat} {M : xj_M} {d' q' mc ms : Nat} {x1 x2 : Value} {post : Option Value → xj_W → Prop} (a : xj_At cc pc (.invokestatic index) 3 nx) (hM : xj_Mx E.2.1 G d' q' mc ms M [x1, x2] w post) (B : xj_MS M 2) (hL : xj_LK own index M.1) (hd : d' < d ∧ q' + M.2.2.1 + 19 ≤ q) (hnl : L.length = nL) (hst : (st.map fun v => v.category).sum ≤ 8) (hc : cs + mc ≤ c0 ∧ sl + ms ≤ s0) (kk : ∀ v w', post v w' → xj_X E G Q (cs + mc) (sl + ms) nx L (v.toList ++ st) w') : xj_X E G Q cs sl pc L (x2 :: x1 :: st) w :=
  xj_callS (As := [x1, x2]) C a hM B hL hd hnl rfl hst hc kk
theorem xj_callI2 (C : xj_C E G cc own nL d q c0 s0 ret) {index : Nat} {M : xj_M} {d' q' mc ms b : Nat} {x1 x2 : Value} {post : Option Value → xj_W → Prop} (a : xj_At cc pc (.invokespecial index) 3 nx) (hret : M.2.2.2 = none) (hM : xj_Mx E.2.1 G d' q' mc ms M (.ref b :: [x1, x2]) w post) (B : xj_MI M 2) (hL : xj_LK own index M.1) (hd : d' < d ∧ q' + M.2.2.1 + 19 ≤ q) (hnl : L.length = nL) (hst : (st.map fun v => v.category).sum ≤ 8) (hc : cs + mc ≤ c0 ∧ sl + ms ≤ s0) (kk : ∀ v w', post v w' → xj_X E G Q (cs + mc) (sl + ms) nx L (v.toList ++ st) w') : xj_X E G Q cs sl pc L (x2 :: x1 :: .ref b :: st) w :=
  xj_callI (As := [x1, x2]) C a hret hM B hL hd hnl rfl hst hc kk
theorem xj_callV3 (C : xj_C E G cc own nL d q c0 s0 ret) {index : Nat} {M : xj_M} {k r i d' q' mc ms : Nat} {qc : vw_C} {x1 x2 x3 : Value} {post : Option Value → xj_W → Prop} (a : xj_At cc pc (.invokevirtual index) 3 nx) (hM : xj_Mx E.2.1 G d' q' mc ms M (.ref (xj_ad G (k, r, i)) :: [x1, x2, x3]) w post) (B : xj_MV M 3) (hL : xj_LK own index M.1) (hk : xj_knd k = 4 ∧ xj_cl[xj_cls k]? = some qc ∧ qc.1 = M.1.cls) (hp : xj_ok (k, r, i) w.2.2) (hd : d' < d ∧ q' + M.2.2.1 + 19 ≤ q) (hnl : L.length = nL) (hst : (st.map fun v => v.category).sum ≤ 8) (hc : cs + mc ≤ c0 ∧ sl + ms ≤ s0) (kk : ∀ v w', post v w' → xj_X E G Q (cs + mc) (sl + ms) nx L (v.toList ++ st) w') : xj_X E G Q cs sl pc L (x3 :: x2 :: x1 :: .ref (xj_ad G (k, r, i)) :: st) w :=
  xj_callV (As := [x1, x2, x3]) C a hM B hL hk hp hd hnl rfl hst hc kk
theorem xj_callS3 (C : xj_C E G cc own nL d q c0 s0 ret) {index : Nat} {M : xj_M} {d' q' mc ms : Nat} {x1 x2 x3 : Value} {post : Option Value → xj_W → Prop} (a : xj_At cc pc (.invokestatic index) 3 nx) (hM : xj_Mx E.2.1 G d' q' mc ms M [x1, x2, x3] w post) (B : xj_MS M 3) (hL : xj_LK own index M.1) (hd : d' < d ∧ q' + M.2.2.1 + 19 ≤ q) (hnl : L.length = nL) (hst : (st.map fun v => v.category).sum ≤ 8) (hc : cs + mc ≤ c0 ∧ sl + ms ≤ s0) (kk : ∀ v w', post v w' → xj_X E G Q (cs + mc) (sl + ms) nx L (v.toList ++ st) w') : xj_X E G Q cs sl pc L (x3 :: x2 :: x1 :: st) w :=
  xj_callS (As := [x1, x2, x3]) C a hM B hL hd hnl rfl hst hc kk
theorem xj_callI3 (C : xj_C E G cc own nL d q c0 s0 ret) {index : Nat} {M : xj_M} {d' q' mc ms b : Nat} {x1 x2 x3 : Value} {post : Option Value → xj_W → Prop} (a : xj_At cc pc (.invokespecial index) 3 nx) (hret : M.2.2.2 = none) (hM : xj_Mx E.2.1 G d' q' mc ms M (.ref b :: [x1, x2, x3]) w post) (B : xj_MI M 3) (hL : xj_LK own index M.1) (hd : d' < d ∧ q' + M.2.2.1 + 19 ≤ q) (hnl : L.length = nL) (hst : (st.map fun v => v.category).sum ≤ 8) (hc : cs + mc ≤ c0 ∧ sl + ms ≤ s0) (kk : ∀ v w', post v w' → xj_X E G Q (cs + mc) (sl + ms) nx L (v.toList ++ st) w') : xj_X E G Q cs sl pc L (x3 :: x2 :: x1 :: .ref b :: st) w :=
  xj_callI (As := [x1, x2, x3]) C a hret hM B hL hd hnl rfl hst hc kk
theorem xj_callV4 (C : xj_C E G cc own nL d q c0 s0 ret) {index : Nat} {M : xj_M} {k r i d' q' mc ms : Nat} {qc : vw_C} {x1 x2 x3 x4 : Value} {post : Option Value → xj_W → Prop} (a : xj_At cc pc (.invokevirtual index) 3 nx) (hM : xj_Mx E.2.1 G d' q' mc ms M (.ref (xj_ad G (k, r, i)) :: [x1, x2, x3, x4]) w post) (B : xj_MV M 4) (hL : xj_LK own index M.1) (hk : xj_knd k = 4 ∧ xj_cl[xj_cls k]? = some qc ∧ qc.1 = M.1.cls) (hp : xj_ok (k, r, i) w.2.2) (hd : d' < d ∧ q' + M.2.2.1 + 19 ≤ q) (hnl : L.length = nL) (hst : (st.map fun v => v.category).sum ≤ 8) (hc : cs + mc ≤ c0 ∧ sl + ms ≤ s0) (kk : ∀ v w', post v w' → xj_X E G Q (cs + mc) (sl + ms) nx L (v.toList ++ st) w') : xj_X E G Q cs sl pc L (x4 :: x3 :: x2 :: x1 :: .ref (xj_ad G (k, r, i)) :: st) w :=
  xj_callV (As := [x1, x2, x3, x4]) C a hM B hL hk hp hd hnl rfl hst hc kk
theorem xj_callS4 (C : xj_C E G cc own nL d q c0 s0 ret) {index : Nat} {M : xj_M} {d' q' mc ms : Nat} {x1 x2 x3 x4 : Value} {post : Option Value → xj_W → Prop} (a : xj_At cc pc (.invokestatic index) 3 nx) (hM : xj_Mx E.2.1 G d' q' mc ms M [x1, x2, x3, x4] w post) (B : xj_MS M 4) (hL : xj_LK own index M.1) (hd : d' < d ∧ q' + M.2.2.1 + 19 ≤ q) (hnl : L.length = nL) (hst : (st.map fun v => v.category).sum ≤ 8) (hc : cs + mc ≤ c0 ∧ sl + ms ≤ s0) (kk : ∀ v w', post v w' → xj_X E G Q (cs + mc) (sl + ms) nx L (v.toList ++ st) w') : xj_X E G Q cs sl pc L (x4 :: x3 :: x2 :: x1 :: st) w :=
  xj_callS (As := [x1, x2, x3, x4]) C a hM B hL hd hnl rfl hst hc kk
theorem xj_callI4 (C : xj_C E G cc own nL d q c0 s0 ret) {index : Nat} {M : xj_M} {d' q' mc ms b : Nat} {x1 x2 x3 x4 : Value} {post : Option Value → xj_W → Prop} (a : xj_At cc pc (.invokespecial index) 3 nx) (hret : M.2.2.2 = none) (hM : xj_Mx E.2.1 G d' q' mc ms M (.ref b :: [x1, x2, x3, x4]) w post) (B : xj_MI M 4) (hL : xj_LK own index M.1) (hd : d' < d ∧ q' + M.2.2.1 + 19 ≤ q) (hnl : L.length = nL) (hst : (st.map fun v => v.category).sum ≤ 8) (hc : cs + mc ≤ c0 ∧ sl + ms ≤ s0) (kk : ∀ v w', post v w' → xj_X E G Q (cs + mc) (sl + ms) nx L (v.toList ++ st) w') : xj_X E G Q cs sl pc L (x4 :: x3 :: x2 :: x1 :: .ref b :: st) w :=
  xj_callI (As := [x1, x2, x3, x4]) C a hret hM B hL hd hnl rfl hst hc kk
theorem xj_callV5 (C : xj_C E G cc own nL d q c0 s0 ret) {index : Nat} {M : xj_M} {k r i d' q' mc ms : Nat} {qc : vw_C} {x1 x2 x3 x4 x5 : Value} {post : Option Value → xj_W → Prop} (a : xj_At cc pc (.invokevirtual index) 3 nx) (hM : xj_Mx E.2.1 G d' q' mc ms M (.ref (xj_ad G (k, r, i)) :: [x1, x2, x3, x4, x5]) w post) (B : xj_MV M 5) (hL : xj_LK own index M.1) (hk : xj_knd k = 4 ∧ xj_cl[xj_cls k]? = some qc ∧ qc.1 = M.1.cls) (hp : xj_ok (k, r, i) w.2.2) (hd : d' < d ∧ q' + M.2.2.1 + 19 ≤ q) (hnl : L.length = nL) (hst : (st.map fun v => v.category).sum ≤ 8) (hc : cs + mc ≤ c0 ∧ sl + ms ≤ s0) (kk : ∀ v w', post v w' → xj_X E G Q (cs + mc) (sl + ms) nx L (v.toList ++ st) w') : xj_X E G Q cs sl pc L (x5 :: x4 :: x3 :: x2 :: x1 :: .ref (xj_ad G (k, r, i)) :: st) w :=
  xj_callV (As := [x1, x2, x3, x4, x5]) C a hM B hL hk hp hd hnl rfl hst hc kk
theorem xj_callS5 (C : xj_C E G cc own nL d q c0 s0 ret) {index : Nat} {M : xj_M} {d' q' mc ms : Nat} {x1 x2 x3 x4 x5 : Value} {post : Option Value → xj_W → Prop} (a : xj_At cc pc (.invokestatic index) 3 nx) (hM : xj_Mx E.2.1 G d' q' mc ms M [x1, x2, x3, x4, x5] w post) (B : xj_MS M 5) (hL : xj_LK own index M.1) (hd : d' < d ∧ q' + M.2.2.1 + 19 ≤ q) (hnl : L.length = nL) (hst : (st.map fun v => v.category).sum ≤ 8) (hc : cs + mc ≤ c0 ∧ sl + ms ≤ s0) (kk : ∀ v w', post v w' → xj_X E G Q (cs + mc) (sl + ms) nx L (v.toList ++ st) w') : xj_X E G Q cs sl pc L (x5 :: x4 :: x3 :: x2 :: x1 :: st) w :=
  xj_callS (As := [x1, x2, x3, x4, x5]) C a hM B hL hd hnl rfl hst hc kk
theorem xj_callI5 (C : xj_C E G cc own nL d q c0 s0 ret) {index : Nat} {M : xj_M} {d' q' mc ms b : Nat} {x1 x2 x3 x4 x5 : Value} {post : Option Value → xj_W → Prop} (a : xj_At cc pc (.invokespecial index) 3 nx) (hret : M.2.2.2 = none) (hM : xj_Mx E.2.1 G d' q' mc ms M (.ref b :: [x1, x2, x3, x4, x5]) w post) (B : xj_MI M 5) (hL : xj_LK own index M.1) (hd : d' < d ∧ q' + M.2.2.1 + 19 ≤ q) (hnl : L.length = nL) (hst : (st.map fun v => v.category).sum ≤ 8) (hc : cs + mc ≤ c0 ∧ sl + ms ≤ s0) (kk : ∀ v w', post v w' → xj_X E G Q (cs + mc) (sl + ms) nx L (v.toList ++ st) w') : xj_X E G Q cs sl pc L (x5 :: x4 :: x3 :: x2 :: x1 :: .ref b :: st) w :=
  xj_callI (As := [x1, x2, x3, x4, x5]) C a hret hM B hL hd hnl rfl hst hc kk
end XJ3
/-! the settled worlds: all places made, all references set; what moves is ints and longs -/
abbrev xn_V : Type := xj_I × xj_J
abbrev xn_W (v : xn_V) : xj_W := (v, (xj_K0, 116))
def xn_uI (v : xn_V) (k r i x : Nat) (a : Int32) : xn_V := (fun k' r' i' x' => if k' = k ∧ r' = r ∧ i' = i ∧ x' = x then a else v.1 k' r' i' x', v.2)
def xn_uJ (v : xn_V) (k r i x : Nat) (a : Int64) : xn_V := (v.1, fun k' r' i' x' => if k' = k ∧ r' = r ∧ i' = i ∧ x' = x then a else v.2 k' r' i' x')
/-- the judgement over settled worlds -/
abbrev xn_X (E : xj_E) (G : xj_G) (Q : State → Prop) (cs sl pc : Nat) (L : List (Option Value)) (st : List Value) (v : xn_V) : Prop := xj_X E G Q cs sl pc L st (xn_W v)
/-- the contract of M over settled worlds: its answer and its world behind -/
abbrev xn_M (l : Launch) (G : xj_G) (d q : Nat) (M : xj_M) (as : List Value) (v : xn_V) (a : Option Value) (v2 : xn_V) : Prop := xj_Mx l G d q 0 0 M as (xn_W v) (fun a' w' => a' = a ∧ w' = xn_W v2)
theorem xn_M_of {l : Launch} {G : xj_G} {d q : Nat} {M : xj_M} {as : List Value} {v v2 : xn_V} {a : Option Value} (hy : plainName M.1.cls = true) (hl : (lg_sl as).length ≤ M.2.2.1)
    (body : ∀ E : xj_E, E.2.1 = l → xj_C E G M.2.1 M.1.cls M.2.2.1 d q 0 0 M.2.2.2 → xn_X E G (xj_R E G (fun a' w' => a' = a ∧ w' = xn_W v2) 0 0) 0 0 0 (xj_L0 as M.2.2.1) [] v) : xn_M l G d q M as v a v2 :=
  xj_Mx_of hy hl (fun E h1 h2 _ => body E h1 h2)
section XN
variable {E : xj_E} {G : xj_G} {cc : ByteArray} {own : String} {nL d q c0 s0 : Nat} {ret : Option FieldType} {Q : State → Prop} {cs sl pc nx : Nat} {L : List (Option Value)} {st rest : List Value} {v : xn_V}
theorem xn_callV0 (C : xj_C E G cc own nL d q c0 s0 ret) {index : Nat} {M : xj_M} {k r i d' q' : Nat} {qc : vw_C}   {v2 : xn_V} (a : xj_At cc pc (.invokevirtual index) 3 nx) (hM : xn_M E.2.1 G d' q' M (.ref (xj_ad G (k, r, i)) :: []) v none v2) (B : xj_MV M 0) (hL : xj_LK own index M.1) (hk : xj_knd k = 4 ∧ xj_cl[xj_cls k]? = some qc ∧ qc.1 = M.1.cls) (hp : xj_ok (k, r, i) 116) (hd : d' < d ∧ q' + M.2.2.1 + 19 ≤ q) (hnl : L.length = nL) (hst : (st.map fun v => v.category).sum ≤ 8) (hc : cs ≤ c0 ∧ sl ≤ s0) (kk : xn_X E G Q cs sl nx L (st) v2) : xn_X E G Q cs sl pc L (.ref (xj_ad G (k, r, i)) :: st) v :=
  xj_callV0 C a hM B hL hk hp hd hnl hst hc (fun _ _ h => by rw [h.1, h.2]; exact kk)
theorem xn_callS0 (C : xj_C E G cc own nL d q c0 s0 ret) {index : Nat} {M : xj_M} {d' q' : Nat}   {v2 : xn_V} (a : xj_At cc pc (.invokestatic index) 3 nx) (hM : xn_M E.2.1 G d' q' M [] v none v2) (B : xj_MS M 0) (hL : xj_LK own index M.1) (hd : d' < d ∧ q' + M.2.2.1 + 19 ≤ q) (hnl : L.length = nL) (hst : (st.map fun v => v.category).sum ≤ 8) (hc : cs ≤ c0 ∧ sl ≤ s0) (kk : xn_X E G Q cs sl nx L (st) v2) : xn_X E G Q cs sl pc L (st) v :=
  xj_callS0 C a hM B hL hd hnl hst hc (fun _ _ h => by rw [h.1, h.2]; exact kk)
theorem xn_callV0i (C : xj_C E G cc own nL d q c0 s0 ret) {index : Nat} {M : xj_M} {k r i d' q' : Nat} {qc : vw_C}  {y : Int32} {v2 : xn_V} (a : xj_At cc pc (.invokevirtual index) 3 nx) (hM : xn_M E.2.1 G d' q' M (.ref (xj_ad G (k, r, i)) :: []) v (some (.int y)) v2) (B : xj_MV M 0) (hL : xj_LK own index M.1) (hk : xj_knd k = 4 ∧ xj_cl[xj_cls k]? = some qc ∧ qc.1 = M.1.cls) (hp : xj_ok (k, r, i) 116) (hd : d' < d ∧ q' + M.2.2.1 + 19 ≤ q) (hnl : L.length = nL) (hst : (st.map fun v => v.category).sum ≤ 8) (hc : cs ≤ c0 ∧ sl ≤ s0) (kk : xn_X E G Q cs sl nx L (.int y :: st) v2) : xn_X E G Q cs sl pc L (.ref (xj_ad G (k, r, i)) :: st) v :=
  xj_callV0 C a hM B hL hk hp hd hnl hst hc (fun _ _ h => by rw [h.1, h.2]; exact kk)
theorem xn_callS0i (C : xj_C E G cc own nL d q c0 s0 ret) {index : Nat} {M : xj_M} {d' q' : Nat}  {y : Int32} {v2 : xn_V} (a : xj_At cc pc (.invokestatic index) 3 nx) (hM : xn_M E.2.1 G d' q' M [] v (some (.int y)) v2) (B : xj_MS M 0) (hL : xj_LK own index M.1) (hd : d' < d ∧ q' + M.2.2.1 + 19 ≤ q) (hnl : L.length = nL) (hst : (st.map fun v => v.category).sum ≤ 8) (hc : cs ≤ c0 ∧ sl ≤ s0) (kk : xn_X E G Q cs sl nx L (.int y :: st) v2) : xn_X E G Q cs sl pc L (st) v :=
  xj_callS0 C a hM B hL hd hnl hst hc (fun _ _ h => by rw [h.1, h.2]; exact kk)
theorem xn_callV0l (C : xj_C E G cc own nL d q c0 s0 ret) {index : Nat} {M : xj_M} {k r i d' q' : Nat} {qc : vw_C}  {y : Int64} {v2 : xn_V} (a : xj_At cc pc (.invokevirtual index) 3 nx) (hM : xn_M E.2.1 G d' q' M (.ref (xj_ad G (k, r, i)) :: []) v (some (.long y)) v2) (B : xj_MV M 0) (hL : xj_LK own index M.1) (hk : xj_knd k = 4 ∧ xj_cl[xj_cls k]? = some qc ∧ qc.1 = M.1.cls) (hp : xj_ok (k, r, i) 116) (hd : d' < d ∧ q' + M.2.2.1 + 19 ≤ q) (hnl : L.length = nL) (hst : (st.map fun v => v.category).sum ≤ 8) (hc : cs ≤ c0 ∧ sl ≤ s0) (kk : xn_X E G Q cs sl nx L (.long y :: st) v2) : xn_X E G Q cs sl pc L (.ref (xj_ad G (k, r, i)) :: st) v :=
  xj_callV0 C a hM B hL hk hp hd hnl hst hc (fun _ _ h => by rw [h.1, h.2]; exact kk)
theorem xn_callS0l (C : xj_C E G cc own nL d q c0 s0 ret) {index : Nat} {M : xj_M} {d' q' : Nat}  {y : Int64} {v2 : xn_V} (a : xj_At cc pc (.invokestatic index) 3 nx) (hM : xn_M E.2.1 G d' q' M [] v (some (.long y)) v2) (B : xj_MS M 0) (hL : xj_LK own index M.1) (hd : d' < d ∧ q' + M.2.2.1 + 19 ≤ q) (hnl : L.length = nL) (hst : (st.map fun v => v.category).sum ≤ 8) (hc : cs ≤ c0 ∧ sl ≤ s0) (kk : xn_X E G Q cs sl nx L (.long y :: st) v2) : xn_X E G Q cs sl pc L (st) v :=
  xj_callS0 C a hM B hL hd hnl hst hc (fun _ _ h => by rw [h.1, h.2]; exact kk)
theorem xn_callV0r (C : xj_C E G cc own nL d q c0 s0 ret) {index : Nat} {M : xj_M} {k r i d' q' : Nat} {qc : vw_C}  {y : Nat} {v2 : xn_V} (a : xj_At cc pc (.invokevirtual index) 3 nx) (hM : xn_M E.2.1 G d' q' M (.ref (xj_ad G (k, r, i)) :: []) v (some (.ref y)) v2) (B : xj_MV M 0) (hL : xj_LK own index M.1) (hk : xj_knd k = 4 ∧ xj_cl[xj_cls k]? = some qc ∧ qc.1 = M.1.cls) (hp : xj_ok (k, r, i) 116) (hd : d' < d ∧ q' + M.2.2.1 + 19 ≤ q) (hnl : L.length = nL) (hst : (st.map fun v => v.category).sum ≤ 8) (hc : cs ≤ c0 ∧ sl ≤ s0) (kk : xn_X E G Q cs sl nx L (.ref y :: st) v2) : xn_X E G Q cs sl pc L (.ref (xj_ad G (k, r, i)) :: st) v :=
  xj_callV0 C a hM B hL hk hp hd hnl hst hc (fun _ _ h => by rw [h.1, h.2]; exact kk)
theorem xn_callS0r (C : xj_C E G cc own nL d q c0 s0 ret) {index : Nat} {M : xj_M} {d' q' : Nat}  {y : Nat} {v2 : xn_V} (a : xj_At cc pc (.invokestatic index) 3 nx) (hM : xn_M E.2.1 G d' q' M [] v (some (.ref y)) v2) (B : xj_MS M 0) (hL : xj_LK own index M.1) (hd : d' < d ∧ q' + M.2.2.1 + 19 ≤ q) (hnl : L.length = nL) (hst : (st.map fun v => v.category).sum ≤ 8) (hc : cs ≤ c0 ∧ sl ≤ s0) (kk : xn_X E G Q cs sl nx L (.ref y :: st) v2) : xn_X E G Q cs sl pc L (st) v :=
  xj_callS0 C a hM B hL hd hnl hst hc (fun _ _ h => by rw [h.1, h.2]; exact kk)
theorem xn_callV1 (C : xj_C E G cc own nL d q c0 s0 ret) {index : Nat} {M : xj_M} {k r i d' q' : Nat} {qc : vw_C} {x1 : Value}  {v2 : xn_V} (a : xj_At cc pc (.invokevirtual index) 3 nx) (hM : xn_M E.2.1 G d' q' M (.ref (xj_ad G (k, r, i)) :: [x1]) v none v2) (B : xj_MV M 1) (hL : xj_LK own index M.1) (hk : xj_knd k = 4 ∧ xj_cl[xj_cls k]? = some qc ∧ qc.1 = M.1.cls) (hp : xj_ok (k, r, i) 116) (hd : d' < d ∧ q' + M.2.2.1 + 19 ≤ q) (hnl : L.length = nL) (hst : (st.map fun v => v.category).sum ≤ 8) (hc : cs ≤ c0 ∧ sl ≤ s0) (kk : xn_X E G Q cs sl nx L (st) v2) : xn_X E G Q cs sl pc L (x1 :: .ref (xj_ad G (k, r, i)) :: st) v :=
  xj_callV1 C a hM B hL hk hp hd hnl hst hc (fun _ _ h => by rw [h.1, h.2]; exact kk)
theorem xn_callS1 (C : xj_C E G cc own nL d q c0 s0 ret) {index : Nat} {M : xj_M} {d' q' : Nat} {x1 : Value}  {v2 : xn_V} (a : xj_At cc pc (.invokestatic index) 3 nx) (hM : xn_M E.2.1 G d' q' M [x1] v none v2) (B : xj_MS M 1) (hL : xj_LK own index M.1) (hd : d' < d ∧ q' + M.2.2.1 + 19 ≤ q) (hnl : L.length = nL) (hst : (st.map fun v => v.category).sum ≤ 8) (hc : cs ≤ c0 ∧ sl ≤ s0) (kk : xn_X E G Q cs sl nx L (st) v2) : xn_X E G Q cs sl pc L (x1 :: st) v :=
  xj_callS1 C a hM B hL hd hnl hst hc (fun _ _ h => by rw [h.1, h.2]; exact kk)
theorem xn_callV1i (C : xj_C E G cc own nL d q c0 s0 ret) {index : Nat} {M : xj_M} {k r i d' q' : Nat} {qc : vw_C} {x1 : Value} {y : Int32} {v2 : xn_V} (a : xj_At cc pc (.invokevirtual index) 3 nx) (hM : xn_M E.2.1 G d' q' M (.ref (xj_ad G (k, r, i)) :: [x1]) v (some (.int y)) v2) (B : xj_MV M 1) (hL : xj_LK own index M.1) (hk : xj_knd k = 4 ∧ xj_cl[xj_cls k]? = some qc ∧ qc.1 = M.1.cls) (hp : xj_ok (k, r, i) 116) (hd : d' < d ∧ q' + M.2.2.1 + 19 ≤ q) (hnl : L.length = nL) (hst : (st.map fun v => v.category).sum ≤ 8) (hc : cs ≤ c0 ∧ sl ≤ s0) (kk : xn_X E G Q cs sl nx L (.int y :: st) v2) : xn_X E G Q cs sl pc L (x1 :: .ref (xj_ad G (k, r, i)) :: st) v :=
  xj_callV1 C a hM B hL hk hp hd hnl hst hc (fun _ _ h => by rw [h.1, h.2]; exact kk)
theorem xn_callS1i (C : xj_C E G cc own nL d q c0 s0 ret) {index : Nat} {M : xj_M} {d' q' : Nat} {x1 : Value} {y : Int32} {v2 : xn_V} (a : xj_At cc pc (.invokestatic index) 3 nx) (hM : xn_M E.2.1 G d' q' M [x1] v (some (.int y)) v2) (B : xj_MS M 1) (hL : xj_LK own index M.1) (hd : d' < d ∧ q' + M.2.2.1 + 19 ≤ q) (hnl : L.length = nL) (hst : (st.map fun v => v.category).sum ≤ 8) (hc : cs ≤ c0 ∧ sl ≤ s0) (kk : xn_X E G Q cs sl nx L (.int y :: st) v2) : xn_X E G Q cs sl pc L (x1 :: st) v :=
  xj_callS1 C a hM B hL hd hnl hst hc (fun _ _ h => by rw [h.1, h.2]; exact kk)
theorem xn_callV1l (C : xj_C E G cc own nL d q c0 s0 ret) {index : Nat} {M : xj_M} {k r i d' q' : Nat} {qc : vw_C} {x1 : Value} {y : Int64} {v2 : xn_V} (a : xj_At cc pc (.invokevirtual index) 3 nx) (hM : xn_M E.2.1 G d' q' M (.ref (xj_ad G (k, r, i)) :: [x1]) v (some (.long y)) v2) (B : xj_MV M 1) (hL : xj_LK own index M.1) (hk : xj_knd k = 4 ∧ xj_cl[xj_cls k]? = some qc ∧ qc.1 = M.1.cls) (hp : xj_ok (k, r, i) 116) (hd : d' < d ∧ q' + M.2.2.1 + 19 ≤ q) (hnl : L.length = nL) (hst : (st.map fun v => v.category).sum ≤ 8) (hc : cs ≤ c0 ∧ sl ≤ s0) (kk : xn_X E G Q cs sl nx L (.long y :: st) v2) : xn_X E G Q cs sl pc L (x1 :: .ref (xj_ad G (k, r, i)) :: st) v :=
  xj_callV1 C a hM B hL hk hp hd hnl hst hc (fun _ _ h => by rw [h.1, h.2]; exact kk)
theorem xn_callS1l (C : xj_C E G cc own nL d q c0 s0 ret) {index : Nat} {M : xj_M} {d' q' : Nat} {x1 : Value} {y : Int64} {v2 : xn_V} (a : xj_At cc pc (.invokestatic index) 3 nx) (hM : xn_M E.2.1 G d' q' M [x1] v (some (.long y)) v2) (B : xj_MS M 1) (hL : xj_LK own index M.1) (hd : d' < d ∧ q' + M.2.2.1 + 19 ≤ q) (hnl : L.length = nL) (hst : (st.map fun v => v.category).sum ≤ 8) (hc : cs ≤ c0 ∧ sl ≤ s0) (kk : xn_X E G Q cs sl nx L (.long y :: st) v2) : xn_X E G Q cs sl pc L (x1 :: st) v :=
  xj_callS1 C a hM B hL hd hnl hst hc (fun _ _ h => by rw [h.1, h.2]; exact kk)
theorem xn_callV1r (C : xj_C E G cc own nL d q c0 s0 ret) {index : Nat} {M : xj_M} {k r i d' q' : Nat} {qc : vw_C} {x1 : Value} {y : Nat} {v2 : xn_V} (a : xj_At cc pc (.invokevirtual index) 3 nx) (hM : xn_M E.2.1 G d' q' M (.ref (xj_ad G (k, r, i)) :: [x1]) v (some (.ref y)) v2) (B : xj_MV M 1) (hL : xj_LK own index M.1) (hk : xj_knd k = 4 ∧ xj_cl[xj_cls k]? = some qc ∧ qc.1 = M.1.cls) (hp : xj_ok (k, r, i) 116) (hd : d' < d ∧ q' + M.2.2.1 + 19 ≤ q) (hnl : L.length = nL) (hst : (st.map fun v => v.category).sum ≤ 8) (hc : cs ≤ c0 ∧ sl ≤ s0) (kk : xn_X E G Q cs sl nx L (.ref y :: st) v2) : xn_X E G Q cs sl pc L (x1 :: .ref (xj_ad G (k, r, i)) :: st) v :=
  xj_callV1 C a hM B hL hk hp hd hnl hst hc (fun _ _ h => by rw [h.1, h.2]; exact kk)
theorem xn_callS1r (C : xj_C E G cc own nL d q c0 s0 ret) {index : Nat} {M : xj_M} {d' q' : Nat} {x1 : Value} {y : Nat} {v2 : xn_V} (a : xj_At cc pc (.invokestatic index) 3 nx) (hM : xn_M E.2.1 G d' q' M [x1] v (some (.ref y)) v2) (B : xj_MS M 1) (hL : xj_LK own index M.1) (hd : d' < d ∧ q' + M.2.2.1 + 19 ≤ q) (hnl : L.length = nL) (hst : (st.map fun v => v.category).sum ≤ 8) (hc : cs ≤ c0 ∧ sl ≤ s0) (kk : xn_X E G Q cs sl nx L (.ref y :: st) v2) : xn_X E G Q cs sl pc L (x1 :: st) v :=
  xj_callS1 C a hM B hL hd hnl hst hc (fun _ _ h => by rw [h.1, h.2]; exact kk)
theorem xn_callV2 (C : xj_C E G cc own nL d q c0 s0 ret) {index : Nat} {M : xj_M} {k r i d' q' : Nat} {qc : vw_C} {x1 x2 : Value}  {v2 : xn_V} (a : xj_At cc pc (.invokevirtual index) 3 nx) (hM : xn_M E.2.1 G d' q' M (.ref (xj_ad G (k, r, i)) :: [x1, x2]) v none v2) (B : xj_MV M 2) (hL : xj_LK own index M.1) (hk : xj_knd k = 4 ∧ xj_cl[xj_cls k]? = some qc ∧ qc.1 = M.1.cls) (hp : xj_ok (k, r, i) 116) (hd : d' < d ∧ q' + M.2.2.1 + 19 ≤ q) (hnl : L.length = nL) (hst : (st.map fun v => v.category).sum ≤ 8) (hc : cs ≤ c0 ∧ sl ≤ s0) (kk : xn_X E G Q cs sl nx L (st) v2) : xn_X E G Q cs sl pc L (x2 :: x1 :: .ref (xj_ad G (k, r, i)) :: st) v :=
  xj_callV2 C a hM B hL hk hp hd hnl hst hc (fun _ _ h => by rw [h.1, h.2]; exact kk)
theorem xn_callS2 (C : xj_C E G cc own nL d q c0 s0 ret) {index : Nat} {M : xj_M} {d' q' : Nat} {x1 x2 : Value}  {v2 : xn_V} (a : xj_At cc pc (.invokestatic index) 3 nx) (hM : xn_M E.2.1 G d' q' M [x1, x2] v none v2) (B : xj_MS M 2) (hL : xj_LK own index M.1) (hd : d' < d ∧ q' + M.2.2.1 + 19 ≤ q) (hnl : L.length = nL) (hst : (st.map fun v => v.category).sum ≤ 8) (hc : cs ≤ c0 ∧ sl ≤ s0) (kk : xn_X E G Q cs sl nx L (st) v2) : xn_X E G Q cs sl pc L (x2 :: x1 :: st) v :=
  xj_callS2 C a hM B hL hd hnl hst hc (fun _ _ h => by rw [h.1, h.2]; exact kk)
theorem xn_callV2i (C : xj_C E G cc own nL d q c0 s0 ret) {index : Nat} {M : xj_M} {k r i d' q' : Nat} {qc : vw_C} {x1 x2 : Value} {y : Int32} {v2 : xn_V} (a : xj_At cc pc (.invokevirtual index) 3 nx) (hM : xn_M E.2.1 G d' q' M (.ref (xj_ad G (k, r, i)) :: [x1, x2]) v (some (.int y)) v2) (B : xj_MV M 2) (hL : xj_LK own index M.1) (hk : xj_knd k = 4 ∧ xj_cl[xj_cls k]? = some qc ∧ qc.1 = M.1.cls) (hp : xj_ok (k, r, i) 116) (hd : d' < d ∧ q' + M.2.2.1 + 19 ≤ q) (hnl : L.length = nL) (hst : (st.map fun v => v.category).sum ≤ 8) (hc : cs ≤ c0 ∧ sl ≤ s0) (kk : xn_X E G Q cs sl nx L (.int y :: st) v2) : xn_X E G Q cs sl pc L (x2 :: x1 :: .ref (xj_ad G (k, r, i)) :: st) v :=
  xj_callV2 C a hM B hL hk hp hd hnl hst hc (fun _ _ h => by rw [h.1, h.2]; exact kk)
theorem xn_callS2i (C : xj_C E G cc own nL d q c0 s0 ret) {index : Nat} {M : xj_M} {d' q' : Nat} {x1 x2 : Value} {y : Int32} {v2 : xn_V} (a : xj_At cc pc (.invokestatic index) 3 nx) (hM : xn_M E.2.1 G d' q' M [x1, x2] v (some (.int y)) v2) (B : xj_MS M 2) (hL : xj_LK own index M.1) (hd : d' < d ∧ q' + M.2.2.1 + 19 ≤ q) (hnl : L.length = nL) (hst : (st.map fun v => v.category).sum ≤ 8) (hc : cs ≤ c0 ∧ sl ≤ s0) (kk : xn_X E G Q cs sl nx L (.int y :: st) v2) : xn_X E G Q cs sl pc L (x2 :: x1 :: st) v :=
  xj_callS2 C a hM B hL hd hnl hst hc (fun _ _ h => by rw [h.1, h.2]; exact kk)
theorem xn_callV2l (C : xj_C E G cc own nL d q c0 s0 ret) {index : Nat} {M : xj_M} {k r i d' q' : Nat} {qc : vw_C} {x1 x2 : Value} {y : Int64} {v2 : xn_V} (a : xj_At cc pc (.invokevirtual index) 3 nx) (hM : xn_M E.2.1 G d' q' M (.ref (xj_ad G (k, r, i)) :: [x1, x2]) v (some (.long y)) v2) (B : xj_MV M 2) (hL : xj_LK own index M.1) (hk : xj_knd k = 4 ∧ xj_cl[xj_cls k]? = some qc ∧ qc.1 = M.1.cls) (hp : xj_ok (k, r, i) 116) (hd : d' < d ∧ q' + M.2.2.1 + 19 ≤ q) (hnl : L.length = nL) (hst : (st.map fun v => v.category).sum ≤ 8) (hc : cs ≤ c0 ∧ sl ≤ s0) (kk : xn_X E G Q cs sl nx L (.long y :: st) v2) : xn_X E G Q cs sl pc L (x2 :: x1 :: .ref (xj_ad G (k, r, i)) :: st) v :=
  xj_callV2 C a hM B hL hk hp hd hnl hst hc (fun _ _ h => by rw [h.1, h.2]; exact kk)
theorem xn_callS2l (C : xj_C E G cc own nL d q c0 s0 ret) {index : Nat} {M : xj_M} {d' q' : Nat} {x1 x2 : Value} {y : Int64} {v2 : xn_V} (a : xj_At cc pc (.invokestatic index) 3 nx) (hM : xn_M E.2.1 G d' q' M [x1, x2] v (some (.long y)) v2) (B : xj_MS M 2) (hL : xj_LK own index M.1) (hd : d' < d ∧ q' + M.2.2.1 + 19 ≤ q) (hnl : L.length = nL) (hst : (st.map fun v => v.category).sum ≤ 8) (hc : cs ≤ c0 ∧ sl ≤ s0) (kk : xn_X E G Q cs sl nx L (.long y :: st) v2) : xn_X E G Q cs sl pc L (x2 :: x1 :: st) v :=
  xj_callS2 C a hM B hL hd hnl hst hc (fun _ _ h => by rw [h.1, h.2]; exact kk)
theorem xn_callV2r (C : xj_C E G cc own nL d q c0 s0 ret) {index : Nat} {M : xj_M} {k r i d' q' : Nat} {qc : vw_C} {x1 x2 : Value} {y : Nat} {v2 : xn_V} (a : xj_At cc pc (.invokevirtual index) 3 nx) (hM : xn_M E.2.1 G d' q' M (.ref (xj_ad G (k, r, i)) :: [x1, x2]) v (some (.ref y)) v2) (B : xj_MV M 2) (hL : xj_LK own index M.1) (hk : xj_knd k = 4 ∧ xj_cl[xj_cls k]? = some qc ∧ qc.1 = M.1.cls) (hp : xj_ok (k, r, i) 116) (hd : d' < d ∧ q' + M.2.2.1 + 19 ≤ q) (hnl : L.length = nL) (hst : (st.map fun v => v.category).sum ≤ 8) (hc : cs ≤ c0 ∧ sl ≤ s0) (kk : xn_X E G Q cs sl nx L (.ref y :: st) v2) : xn_X E G Q cs sl pc L (x2 :: x1 :: .ref (xj_ad G (k, r, i)) :: st) v :=
  xj_callV2 C a hM B hL hk hp hd hnl hst hc (fun _ _ h => by rw [h.1, h.2]; exact kk)
theorem xn_callS2r (C : xj_C E G cc own nL d q c0 s0 ret) {index : Nat} {M : xj_M} {d' q' : Nat} {x1 x2 : Value} {y : Nat} {v2 : xn_V} (a : xj_At cc pc (.invokestatic index) 3 nx) (hM : xn_M E.2.1 G d' q' M [x1, x2] v (some (.ref y)) v2) (B : xj_MS M 2) (hL : xj_LK own index M.1) (hd : d' < d ∧ q' + M.2.2.1 + 19 ≤ q) (hnl : L.length = nL) (hst : (st.map fun v => v.category).sum ≤ 8) (hc : cs ≤ c0 ∧ sl ≤ s0) (kk : xn_X E G Q cs sl nx L (.ref y :: st) v2) : xn_X E G Q cs sl pc L (x2 :: x1 :: st) v :=
  xj_callS2 C a hM B hL hd hnl hst hc (fun _ _ h => by rw [h.1, h.2]; exact kk)
theorem xn_callV3 (C : xj_C E G cc own nL d q c0 s0 ret) {index : Nat} {M : xj_M} {k r i d' q' : Nat} {qc : vw_C} {x1 x2 x3 : Value}  {v2 : xn_V} (a : xj_At cc pc (.invokevirtual index) 3 nx) (hM : xn_M E.2.1 G d' q' M (.ref (xj_ad G (k, r, i)) :: [x1, x2, x3]) v none v2) (B : xj_MV M 3) (hL : xj_LK own index M.1) (hk : xj_knd k = 4 ∧ xj_cl[xj_cls k]? = some qc ∧ qc.1 = M.1.cls) (hp : xj_ok (k, r, i) 116) (hd : d' < d ∧ q' + M.2.2.1 + 19 ≤ q) (hnl : L.length = nL) (hst : (st.map fun v => v.category).sum ≤ 8) (hc : cs ≤ c0 ∧ sl ≤ s0) (kk : xn_X E G Q cs sl nx L (st) v2) : xn_X E G Q cs sl pc L (x3 :: x2 :: x1 :: .ref (xj_ad G (k, r, i)) :: st) v :=
  xj_callV3 C a hM B hL hk hp hd hnl hst hc (fun _ _ h => by rw [h.1, h.2]; exact kk)
theorem xn_callS3 (C : xj_C E G cc own nL d q c0 s0 ret) {index : Nat} {M : xj_M} {d' q' : Nat} {x1 x2 x3 : Value}  {v2 : xn_V} (a : xj_At cc pc (.invokestatic index) 3 nx) (hM : xn_M E.2.1 G d' q' M [x1, x2, x3] v none v2) (B : xj_MS M 3) (hL : xj_LK own index M.1) (hd : d' < d ∧ q' + M.2.2.1 + 19 ≤ q) (hnl : L.length = nL) (hst : (st.map fun v => v.category).sum ≤ 8) (hc : cs ≤ c0 ∧ sl ≤ s0) (kk : xn_X E G Q cs sl nx L (st) v2) : xn_X E G Q cs sl pc L (x3 :: x2 :: x1 :: st) v :=
  xj_callS3 C a hM B hL hd hnl hst hc (fun _ _ h => by rw [h.1, h.2]; exact kk)
theorem xn_callV3i (C : xj_C E G cc own nL d q c0 s0 ret) {index : Nat} {M : xj_M} {k r i d' q' : Nat} {qc : vw_C} {x1 x2 x3 : Value} {y : Int32} {v2 : xn_V} (a : xj_At cc pc (.invokevirtual index) 3 nx) (hM : xn_M E.2.1 G d' q' M (.ref (xj_ad G (k, r, i)) :: [x1, x2, x3]) v (some (.int y)) v2) (B : xj_MV M 3) (hL : xj_LK own index M.1) (hk : xj_knd k = 4 ∧ xj_cl[xj_cls k]? = some qc ∧ qc.1 = M.1.cls) (hp : xj_ok (k, r, i) 116) (hd : d' < d ∧ q' + M.2.2.1 + 19 ≤ q) (hnl : L.length = nL) (hst : (st.map fun v => v.category).sum ≤ 8) (hc : cs ≤ c0 ∧ sl ≤ s0) (kk : xn_X E G Q cs sl nx L (.int y :: st) v2) : xn_X E G Q cs sl pc L (x3 :: x2 :: x1 :: .ref (xj_ad G (k, r, i)) :: st) v :=
  xj_callV3 C a hM B hL hk hp hd hnl hst hc (fun _ _ h => by rw [h.1, h.2]; exact kk)
theorem xn_callS3i (C : xj_C E G cc own nL d q c0 s0 ret) {index : Nat} {M : xj_M} {d' q' : Nat} {x1 x2 x3 : Value} {y : Int32} {v2 : xn_V} (a : xj_At cc pc (.invokestatic index) 3 nx) (hM : xn_M E.2.1 G d' q' M [x1, x2, x3] v (some (.int y)) v2) (B : xj_MS M 3) (hL : xj_LK own index M.1) (hd : d' < d ∧ q' + M.2.2.1 + 19 ≤ q) (hnl : L.length = nL) (hst : (st.map fun v => v.category).sum ≤ 8) (hc : cs ≤ c0 ∧ sl ≤ s0) (kk : xn_X E G Q cs sl nx L (.int y :: st) v2) : xn_X E G Q cs sl pc L (x3 :: x2 :: x1 :: st) v :=
  xj_callS3 C a hM B hL hd hnl hst hc (fun _ _ h => by rw [h.1, h.2]; exact kk)
theorem xn_callV3l (C : xj_C E G cc own nL d q c0 s0 ret) {index : Nat} {M : xj_M} {k r i d' q' : Nat} {qc : vw_C} {x1 x2 x3 : Value} {y : Int64} {v2 : xn_V} (a : xj_At cc pc (.invokevirtual index) 3 nx) (hM : xn_M E.2.1 G d' q' M (.ref (xj_ad G (k, r, i)) :: [x1, x2, x3]) v (some (.long y)) v2) (B : xj_MV M 3) (hL : xj_LK own index M.1) (hk : xj_knd k = 4 ∧ xj_cl[xj_cls k]? = some qc ∧ qc.1 = M.1.cls) (hp : xj_ok (k, r, i) 116) (hd : d' < d ∧ q' + M.2.2.1 + 19 ≤ q) (hnl : L.length = nL) (hst : (st.map fun v => v.category).sum ≤ 8) (hc : cs ≤ c0 ∧ sl ≤ s0) (kk : xn_X E G Q cs sl nx L (.long y :: st) v2) : xn_X E G Q cs sl pc L (x3 :: x2 :: x1 :: .ref (xj_ad G (k, r, i)) :: st) v :=
  xj_callV3 C a hM B hL hk hp hd hnl hst hc (fun _ _ h => by rw [h.1, h.2]; exact kk)
theorem xn_callS3l (C : xj_C E G cc own nL d q c0 s0 ret) {index : Nat} {M : xj_M} {d' q' : Nat} {x1 x2 x3 : Value} {y : Int64} {v2 : xn_V} (a : xj_At cc pc (.invokestatic index) 3 nx) (hM : xn_M E.2.1 G d' q' M [x1, x2, x3] v (some (.long y)) v2) (B : xj_MS M 3) (hL : xj_LK own index M.1) (hd : d' < d ∧ q' + M.2.2.1 + 19 ≤ q) (hnl : L.length = nL) (hst : (st.map fun v => v.category).sum ≤ 8) (hc : cs ≤ c0 ∧ sl ≤ s0) (kk : xn_X E G Q cs sl nx L (.long y :: st) v2) : xn_X E G Q cs sl pc L (x3 :: x2 :: x1 :: st) v :=
  xj_callS3 C a hM B hL hd hnl hst hc (fun _ _ h => by rw [h.1, h.2]; exact kk)
theorem xn_callV3r (C : xj_C E G cc own nL d q c0 s0 ret) {index : Nat} {M : xj_M} {k r i d' q' : Nat} {qc : vw_C} {x1 x2 x3 : Value} {y : Nat} {v2 : xn_V} (a : xj_At cc pc (.invokevirtual index) 3 nx) (hM : xn_M E.2.1 G d' q' M (.ref (xj_ad G (k, r, i)) :: [x1, x2, x3]) v (some (.ref y)) v2) (B : xj_MV M 3) (hL : xj_LK own index M.1) (hk : xj_knd k = 4 ∧ xj_cl[xj_cls k]? = some qc ∧ qc.1 = M.1.cls) (hp : xj_ok (k, r, i) 116) (hd : d' < d ∧ q' + M.2.2.1 + 19 ≤ q) (hnl : L.length = nL) (hst : (st.map fun v => v.category).sum ≤ 8) (hc : cs ≤ c0 ∧ sl ≤ s0) (kk : xn_X E G Q cs sl nx L (.ref y :: st) v2) : xn_X E G Q cs sl pc L (x3 :: x2 :: x1 :: .ref (xj_ad G (k, r, i)) :: st) v :=
  xj_callV3 C a hM B hL hk hp hd hnl hst hc (fun _ _ h => by rw [h.1, h.2]; exact kk)
theorem xn_callS3r (C : xj_C E G cc own nL d q c0 s0 ret) {index : Nat} {M : xj_M} {d' q' : Nat} {x1 x2 x3 : Value} {y : Nat} {v2 : xn_V} (a : xj_At cc pc (.invokestatic index) 3 nx) (hM : xn_M E.2.1 G d' q' M [x1, x2, x3] v (some (.ref y)) v2) (B : xj_MS M 3) (hL : xj_LK own index M.1) (hd : d' < d ∧ q' + M.2.2.1 + 19 ≤ q) (hnl : L.length = nL) (hst : (st.map fun v => v.category).sum ≤ 8) (hc : cs ≤ c0 ∧ sl ≤ s0) (kk : xn_X E G Q cs sl nx L (.ref y :: st) v2) : xn_X E G Q cs sl pc L (x3 :: x2 :: x1 :: st) v :=
  xj_callS3 C a hM B hL hd hnl hst hc (fun _ _ h => by rw [h.1, h.2]; exact kk)
theorem xn_callV4 (C : xj_C E G cc own nL d q c0 s0 ret) {index : Nat} {M : xj_M} {k r i d' q' : Nat} {qc : vw_C} {x1 x2 x3 x4 : Value}  {v2 : xn_V} (a : xj_At cc pc (.invokevirtual index) 3 nx) (hM : xn_M E.2.1 G d' q' M (.ref (xj_ad G (k, r, i)) :: [x1, x2, x3, x4]) v none v2) (B : xj_MV M 4) (hL : xj_LK own index M.1) (hk : xj_knd k = 4 ∧ xj_cl[xj_cls k]? = some qc ∧ qc.1 = M.1.cls) (hp : xj_ok (k, r, i) 116) (hd : d' < d ∧ q' + M.2.2.1 + 19 ≤ q) (hnl : L.length = nL) (hst : (st.map fun v => v.category).sum ≤ 8) (hc : cs ≤ c0 ∧ sl ≤ s0) (kk : xn_X E G Q cs sl nx L (st) v2) : xn_X E G Q cs sl pc L (x4 :: x3 :: x2 :: x1 :: .ref (xj_ad G (k, r, i)) :: st) v :=
  xj_callV4 C a hM B hL hk hp hd hnl hst hc (fun _ _ h => by rw [h.1, h.2]; exact kk)
theorem xn_callS4 (C : xj_C E G cc own nL d q c0 s0 ret) {index : Nat} {M : xj_M} {d' q' : Nat} {x1 x2 x3 x4 : Value}  {v2 : xn_V} (a : xj_At cc pc (.invokestatic index) 3 nx) (hM : xn_M E.2.1 G d' q' M [x1, x2, x3, x4] v none v2) (B : xj_MS M 4) (hL : xj_LK own index M.1) (hd : d' < d ∧ q' + M.2.2.1 + 19 ≤ q) (hnl : L.length = nL) (hst : (st.map fun v => v.category).sum ≤ 8) (hc : cs ≤ c0 ∧ sl ≤ s0) (kk : xn_X E G Q cs sl nx L (st) v2) : xn_X E G Q cs sl pc L (x4 :: x3 :: x2 :: x1 :: st) v :=
  xj_callS4 C a hM B hL hd hnl hst hc (fun _ _ h => by rw [h.1, h.2]; exact kk)
theorem xn_callV4i (C : xj_C E G cc own nL d q c0 s0 ret) {index : Nat} {M : xj_M} {k r i d' q' : Nat} {qc : vw_C} {x1 x2 x3 x4 : Value} {y : Int32} {v2 : xn_V} (a : xj_At cc pc (.invokevirtual index) 3 nx) (hM : xn_M E.2.1 G d' q' M (.ref (xj_ad G (k, r, i)) :: [x1, x2, x3, x4]) v (some (.int y)) v2) (B : xj_MV M 4) (hL : xj_LK own index M.1) (hk : xj_knd k = 4 ∧ xj_cl[xj_cls k]? = some qc ∧ qc.1 = M.1.cls) (hp : xj_ok (k, r, i) 116) (hd : d' < d ∧ q' + M.2.2.1 + 19 ≤ q) (hnl : L.length = nL) (hst : (st.map fun v => v.category).sum ≤ 8) (hc : cs ≤ c0 ∧ sl ≤ s0) (kk : xn_X E G Q cs sl nx L (.int y :: st) v2) : xn_X E G Q cs sl pc L (x4 :: x3 :: x2 :: x1 :: .ref (xj_ad G (k, r, i)) :: st) v :=
  xj_callV4 C a hM B hL hk hp hd hnl hst hc (fun _ _ h => by rw [h.1, h.2]; exact kk)
theorem xn_callS4i (C : xj_C E G cc own nL d q c0 s0 ret) {index : Nat} {M : xj_M} {d' q' : Nat} {x1 x2 x3 x4 : Value} {y : Int32} {v2 : xn_V} (a : xj_At cc pc (.invokestatic index) 3 nx) (hM : xn_M E.2.1 G d' q' M [x1, x2, x3, x4] v (some (.int y)) v2) (B : xj_MS M 4) (hL : xj_LK own index M.1) (hd : d' < d ∧ q' + M.2.2.1 + 19 ≤ q) (hnl : L.length = nL) (hst : (st.map fun v => v.category).sum ≤ 8) (hc : cs ≤ c0 ∧ sl ≤ s0) (kk : xn_X E G Q cs sl nx L (.int y :: st) v2) : xn_X E G Q cs sl pc L (x4 :: x3 :: x2 :: x1 :: st) v :=
  xj_callS4 C a hM B hL hd hnl hst hc (fun _ _ h => by rw [h.1, h.2]; exact kk)
theorem xn_callV4l (C : xj_C E G cc own nL d q c0 s0 ret) {index : Nat} {M : xj_M} {k r i d' q' : Nat} {qc : vw_C} {x1 x2 x3 x4 : Value} {y : Int64} {v2 : xn_V} (a : xj_At cc pc (.invokevirtual index) 3 nx) (hM : xn_M E.2.1 G d' q' M (.ref (xj_ad G (k, r, i)) :: [x1, x2, x3, x4]) v (some (.long y)) v2) (B : xj_MV M 4) (hL : xj_LK own index M.1) (hk : xj_knd k = 4 ∧ xj_cl[xj_cls k]? = some qc ∧ qc.1 = M.1.cls) (hp : xj_ok (k, r, i) 116) (hd : d' < d ∧ q' + M.2.2.1 + 19 ≤ q) (hnl : L.length = nL) (hst : (st.map fun v => v.category).sum ≤ 8) (hc : cs ≤ c0 ∧ sl ≤ s0) (kk : xn_X E G Q cs sl nx L (.long y :: st) v2) : xn_X E G Q cs sl pc L (x4 :: x3 :: x2 :: x1 :: .ref (xj_ad G (k, r, i)) :: st) v :=
  xj_callV4 C a hM B hL hk hp hd hnl hst hc (fun _ _ h => by rw [h.1, h.2]; exact kk)
theorem xn_callS4l (C : xj_C E G cc own nL d q c0 s0 ret) {index : Nat} {M : xj_M} {d' q' : Nat} {x1 x2 x3 x4 : Value} {y : Int64} {v2 : xn_V} (a : xj_At cc pc (.invokestatic index) 3 nx) (hM : xn_M E.2.1 G d' q' M [x1, x2, x3, x4] v (some (.long y)) v2) (B : xj_MS M 4) (hL : xj_LK own index M.1) (hd : d' < d ∧ q' + M.2.2.1 + 19 ≤ q) (hnl : L.length = nL) (hst : (st.map fun v => v.category).sum ≤ 8) (hc : cs ≤ c0 ∧ sl ≤ s0) (kk : xn_X E G Q cs sl nx L (.long y :: st) v2) : xn_X E G Q cs sl pc L (x4 :: x3 :: x2 :: x1 :: st) v :=
  xj_callS4 C a hM B hL hd hnl hst hc (fun _ _ h => by rw [h.1, h.2]; exact kk)
theorem xn_callV4r (C : xj_C E G cc own nL d q c0 s0 ret) {index : Nat} {M : xj_M} {k r i d' q' : Nat} {qc : vw_C} {x1 x2 x3 x4 : Value} {y : Nat} {v2 : xn_V} (a : xj_At cc pc (.invokevirtual index) 3 nx) (hM : xn_M E.2.1 G d' q' M (.ref (xj_ad G (k, r, i)) :: [x1, x2, x3, x4]) v (some (.ref y)) v2) (B : xj_MV M 4) (hL : xj_LK own index M.1) (hk : xj_knd k = 4 ∧ xj_cl[xj_cls k]? = some qc ∧ qc.1 = M.1.cls) (hp : xj_ok (k, r, i) 116) (hd : d' < d ∧ q' + M.2.2.1 + 19 ≤ q) (hnl : L.length = nL) (hst : (st.map fun v => v.category).sum ≤ 8) (hc : cs ≤ c0 ∧ sl ≤ s0) (kk : xn_X E G Q cs sl nx L (.ref y :: st) v2) : xn_X E G Q cs sl pc L (x4 :: x3 :: x2 :: x1 :: .ref (xj_ad G (k, r, i)) :: st) v :=
  xj_callV4 C a hM B hL hk hp hd hnl hst hc (fun _ _ h => by rw [h.1, h.2]; exact kk)
theorem xn_callS4r (C : xj_C E G cc own nL d q c0 s0 ret) {index : Nat} {M : xj_M} {d' q' : Nat} {x1 x2 x3 x4 : Value} {y : Nat} {v2 : xn_V} (a : xj_At cc pc (.invokestatic index) 3 nx) (hM : xn_M E.2.1 G d' q' M [x1, x2, x3, x4] v (some (.ref y)) v2) (B : xj_MS M 4) (hL : xj_LK own index M.1) (hd : d' < d ∧ q' + M.2.2.1 + 19 ≤ q) (hnl : L.length = nL) (hst : (st.map fun v => v.category).sum ≤ 8) (hc : cs ≤ c0 ∧ sl ≤ s0) (kk : xn_X E G Q cs sl nx L (.ref y :: st) v2) : xn_X E G Q cs sl pc L (x4 :: x3 :: x2 :: x1 :: st) v :=
  xj_callS4 C a hM B hL hd hnl hst hc (fun _ _ h => by rw [h.1, h.2]; exact kk)
theorem xn_callV5 (C : xj_C E G cc own nL d q c0 s0 ret) {index : Nat} {M : xj_M} {k r i d' q' : Nat} {qc : vw_C} {x1 x2 x3 x4 x5 : Value}  {v2 : xn_V} (a : xj_At cc pc (.invokevirtual index) 3 nx) (hM : xn_M E.2.1 G d' q' M (.ref (xj_ad G (k, r, i)) :: [x1, x2, x3, x4, x5]) v none v2) (B : xj_MV M 5) (hL : xj_LK own index M.1) (hk : xj_knd k = 4 ∧ xj_cl[xj_cls k]? = some qc ∧ qc.1 = M.1.cls) (hp : xj_ok (k, r, i) 116) (hd : d' < d ∧ q' + M.2.2.1 + 19 ≤ q) (hnl : L.length = nL) (hst : (st.map fun v => v.category).sum ≤ 8) (hc : cs ≤ c0 ∧ sl ≤ s0) (kk : xn_X E G Q cs sl nx L (st) v2) : xn_X E G Q cs sl pc L (x5 :: x4 :: x3 :: x2 :: x1 :: .ref (xj_ad G (k, r, i)) :: st) v :=
  xj_callV5 C a hM B hL hk hp hd hnl hst hc (fun _ _ h => by rw [h.1, h.2]; exact kk)
theorem xn_callS5 (C : xj_C E G cc own nL d q c0 s0 ret) {index : Nat} {M : xj_M} {d' q' : Nat} {x1 x2 x3 x4 x5 : Value}  {v2 : xn_V} (a : xj_At cc pc (.invokestatic index) 3 nx) (hM : xn_M E.2.1 G d' q' M [x1, x2, x3, x4, x5] v none v2) (B : xj_MS M 5) (hL : xj_LK own index M.1) (hd : d' < d ∧ q' + M.2.2.1 + 19 ≤ q) (hnl : L.length = nL) (hst : (st.map fun v => v.category).sum ≤ 8) (hc : cs ≤ c0 ∧ sl ≤ s0) (kk : xn_X E G Q cs sl nx L (st) v2) : xn_X E G Q cs sl pc L (x5 :: x4 :: x3 :: x2 :: x1 :: st) v :=
  xj_callS5 C a hM B hL hd hnl hst hc (fun _ _ h => by rw [h.1, h.2]; exact kk)
theorem xn_callV5i (C : xj_C E G cc own nL d q c0 s0 ret) {index : Nat} {M : xj_M} {k r i d' q' : Nat} {qc : vw_C} {x1 x2 x3 x4 x5 : Value} {y : Int32} {v2 : xn_V} (a : xj_At cc pc (.invokevirtual index) 3 nx) (hM : xn_M E.2.1 G d' q' M (.ref (xj_ad G (k, r, i)) :: [x1, x2, x3, x4, x5]) v (some (.int y)) v2) (B : xj_MV M 5) (hL : xj_LK own index M.1) (hk : xj_knd k = 4 ∧ xj_cl[xj_cls k]? = some qc ∧ qc.1 = M.1.cls) (hp : xj_ok (k, r, i) 116) (hd : d' < d ∧ q' + M.2.2.1 + 19 ≤ q) (hnl : L.length = nL) (hst : (st.map fun v => v.category).sum ≤ 8) (hc : cs ≤ c0 ∧ sl ≤ s0) (kk : xn_X E G Q cs sl nx L (.int y :: st) v2) : xn_X E G Q cs sl pc L (x5 :: x4 :: x3 :: x2 :: x1 :: .ref (xj_ad G (k, r, i)) :: st) v :=
  xj_callV5 C a hM B hL hk hp hd hnl hst hc (fun _ _ h => by rw [h.1, h.2]; exact kk)
theorem xn_callS5i (C : xj_C E G cc own nL d q c0 s0 ret) {index : Nat} {M : xj_M} {d' q' : Nat} {x1 x2 x3 x4 x5 : Value} {y : Int32} {v2 : xn_V} (a : xj_At cc pc (.invokestatic index) 3 nx) (hM : xn_M E.2.1 G d' q' M [x1, x2, x3, x4, x5] v (some (.int y)) v2) (B : xj_MS M 5) (hL : xj_LK own index M.1) (hd : d' < d ∧ q' + M.2.2.1 + 19 ≤ q) (hnl : L.length = nL) (hst : (st.map fun v => v.category).sum ≤ 8) (hc : cs ≤ c0 ∧ sl ≤ s0) (kk : xn_X E G Q cs sl nx L (.int y :: st) v2) : xn_X E G Q cs sl pc L (x5 :: x4 :: x3 :: x2 :: x1 :: st) v :=
  xj_callS5 C a hM B hL hd hnl hst hc (fun _ _ h => by rw [h.1, h.2]; exact kk)
theorem xn_callV5l (C : xj_C E G cc own nL d q c0 s0 ret) {index : Nat} {M : xj_M} {k r i d' q' : Nat} {qc : vw_C} {x1 x2 x3 x4 x5 : Value} {y : Int64} {v2 : xn_V} (a : xj_At cc pc (.invokevirtual index) 3 nx) (hM : xn_M E.2.1 G d' q' M (.ref (xj_ad G (k, r, i)) :: [x1, x2, x3, x4, x5]) v (some (.long y)) v2) (B : xj_MV M 5) (hL : xj_LK own index M.1) (hk : xj_knd k = 4 ∧ xj_cl[xj_cls k]? = some qc ∧ qc.1 = M.1.cls) (hp : xj_ok (k, r, i) 116) (hd : d' < d ∧ q' + M.2.2.1 + 19 ≤ q) (hnl : L.length = nL) (hst : (st.map fun v => v.category).sum ≤ 8) (hc : cs ≤ c0 ∧ sl ≤ s0) (kk : xn_X E G Q cs sl nx L (.long y :: st) v2) : xn_X E G Q cs sl pc L (x5 :: x4 :: x3 :: x2 :: x1 :: .ref (xj_ad G (k, r, i)) :: st) v :=
  xj_callV5 C a hM B hL hk hp hd hnl hst hc (fun _ _ h => by rw [h.1, h.2]; exact kk)
theorem xn_callS5l (C : xj_C E G cc own nL d q c0 s0 ret) {index : Nat} {M : xj_M} {d' q' : Nat} {x1 x2 x3 x4 x5 : Value} {y : Int64} {v2 : xn_V} (a : xj_At cc pc (.invokestatic index) 3 nx) (hM : xn_M E.2.1 G d' q' M [x1, x2, x3, x4, x5] v (some (.long y)) v2) (B : xj_MS M 5) (hL : xj_LK own index M.1) (hd : d' < d ∧ q' + M.2.2.1 + 19 ≤ q) (hnl : L.length = nL) (hst : (st.map fun v => v.category).sum ≤ 8) (hc : cs ≤ c0 ∧ sl ≤ s0) (kk : xn_X E G Q cs sl nx L (.long y :: st) v2) : xn_X E G Q cs sl pc L (x5 :: x4 :: x3 :: x2 :: x1 :: st) v :=
  xj_callS5 C a hM B hL hd hnl hst hc (fun _ _ h => by rw [h.1, h.2]; exact kk)
theorem xn_callV5r (C : xj_C E G cc own nL d q c0 s0 ret) {index : Nat} {M : xj_M} {k r i d' q' : Nat} {qc : vw_C} {x1 x2 x3 x4 x5 : Value} {y : Nat} {v2 : xn_V} (a : xj_At cc pc (.invokevirtual index) 3 nx) (hM : xn_M E.2.1 G d' q' M (.ref (xj_ad G (k, r, i)) :: [x1, x2, x3, x4, x5]) v (some (.ref y)) v2) (B : xj_MV M 5) (hL : xj_LK own index M.1) (hk : xj_knd k = 4 ∧ xj_cl[xj_cls k]? = some qc ∧ qc.1 = M.1.cls) (hp : xj_ok (k, r, i) 116) (hd : d' < d ∧ q' + M.2.2.1 + 19 ≤ q) (hnl : L.length = nL) (hst : (st.map fun v => v.category).sum ≤ 8) (hc : cs ≤ c0 ∧ sl ≤ s0) (kk : xn_X E G Q cs sl nx L (.ref y :: st) v2) : xn_X E G Q cs sl pc L (x5 :: x4 :: x3 :: x2 :: x1 :: .ref (xj_ad G (k, r, i)) :: st) v :=
  xj_callV5 C a hM B hL hk hp hd hnl hst hc (fun _ _ h => by rw [h.1, h.2]; exact kk)
theorem xn_callS5r (C : xj_C E G cc own nL d q c0 s0 ret) {index : Nat} {M : xj_M} {d' q' : Nat} {x1 x2 x3 x4 x5 : Value} {y : Nat} {v2 : xn_V} (a : xj_At cc pc (.invokestatic index) 3 nx) (hM : xn_M E.2.1 G d' q' M [x1, x2, x3, x4, x5] v (some (.ref y)) v2) (B : xj_MS M 5) (hL : xj_LK own index M.1) (hd : d' < d ∧ q' + M.2.2.1 + 19 ≤ q) (hnl : L.length = nL) (hst : (st.map fun v => v.category).sum ≤ 8) (hc : cs ≤ c0 ∧ sl ≤ s0) (kk : xn_X E G Q cs sl nx L (.ref y :: st) v2) : xn_X E G Q cs sl pc L (x5 :: x4 :: x3 :: x2 :: x1 :: st) v :=
  xj_callS5 C a hM B hL hd hnl hst hc (fun _ _ h => by rw [h.1, h.2]; exact kk)
end XN
end
section
/-! methods, links, fields: every word by its place in the tables -/
theorem xj_in1 {w : Cond} (h : w ∈ tables_1_1) (g : goodWord w = true) : w ∈ xj_GW := List.mem_filter.mpr ⟨List.mem_append_right _ (List.mem_append_left _ h), g⟩
theorem xj_nn1 {w : Cond} (h : w ∈ tables_1_1) (g : xj_nest w = true) : w ∈ xj_NW := List.mem_filter.mpr ⟨List.mem_append_right _ (List.mem_append_left _ h), g⟩
theorem xj_in2 {w : Cond} (h : w ∈ tables_1_2) (g : goodWord w = true) : w ∈ xj_GW := List.mem_filter.mpr ⟨List.mem_append_right _ (List.mem_append_right _ (List.mem_append_left _ h)), g⟩
theorem xj_nn2 {w : Cond} (h : w ∈ tables_1_2) (g : xj_nest w = true) : w ∈ xj_NW := List.mem_filter.mpr ⟨List.mem_append_right _ (List.mem_append_right _ (List.mem_append_left _ h)), g⟩
theorem xj_in3 {w : Cond} (h : w ∈ tables_1_3) (g : goodWord w = true) : w ∈ xj_GW := List.mem_filter.mpr ⟨List.mem_append_right _ (List.mem_append_right _ (List.mem_append_right _ (List.mem_append_left _ h))), g⟩
theorem xj_nn3 {w : Cond} (h : w ∈ tables_1_3) (g : xj_nest w = true) : w ∈ xj_NW := List.mem_filter.mpr ⟨List.mem_append_right _ (List.mem_append_right _ (List.mem_append_right _ (List.mem_append_left _ h))), g⟩
theorem xj_in4 {w : Cond} (h : w ∈ tables_1_4) (g : goodWord w = true) : w ∈ xj_GW := List.mem_filter.mpr ⟨List.mem_append_right _ (List.mem_append_right _ (List.mem_append_right _ (List.mem_append_right _ (h)))), g⟩
theorem xj_nn4 {w : Cond} (h : w ∈ tables_1_4) (g : xj_nest w = true) : w ∈ xj_NW := List.mem_filter.mpr ⟨List.mem_append_right _ (List.mem_append_right _ (List.mem_append_right _ (List.mem_append_right _ (h)))), g⟩
theorem xj_sel {q : MethodName × Nat} (h : q ∈ lw_privs) : Cond.selects q.1.cls q.1 q.1 ∈ xj_GW := List.mem_filter.mpr ⟨List.mem_append_left _ (List.mem_map.mpr ⟨q, h, rfl⟩), rfl⟩
abbrev m_G_init : xj_M := (⟨"ThreePhaseGroup", "<init>", "()V"⟩, prog_1_method_1_code, 2, none)
abbrev m_JO_init : xj_M := (⟨"java/lang/Object", "<init>", "()V"⟩, object_method_1_code, 1, none)
abbrev m_B_init : xj_M := (⟨"ThreePhaseGroup$Board", "<init>", "()V"⟩, prog_2_method_1_code, 1, none)
abbrev m_R_init : xj_M := (⟨"ThreePhaseGroup$Replica", "<init>", "(ILThreePhaseGroup$Board;)V"⟩, prog_5_method_1_code, 4, none)
abbrev m_N_init : xj_M := (⟨"ThreePhaseGroup$Numbers", "<init>", "()V"⟩, prog_4_method_1_code, 1, none)
abbrev m_S_init : xj_M := (⟨"ThreePhaseGroup$Slot", "<init>", "()V"⟩, prog_7_method_1_code, 1, none)
abbrev m_S_forgetView : xj_M := (⟨"ThreePhaseGroup$Slot", "forgetView", "()V"⟩, prog_7_method_2_code, 2, none)
abbrev m_JA_fillI : xj_M := (⟨"java/util/Arrays", "fill", "([II)V"⟩, prog_12_method_103_code, 4, none)
abbrev m_C_init : xj_M := (⟨"ThreePhaseGroup$Client", "<init>", "(ILThreePhaseGroup$Board;)V"⟩, prog_3_method_1_code, 3, none)
abbrev m_G_submit : xj_M := (⟨"ThreePhaseGroup", "submit", "(IIII)I"⟩, prog_1_method_2_code, 6, (some .int))
abbrev m_G_isClient : xj_M := (⟨"ThreePhaseGroup", "isClient", "(I)Z"⟩, prog_1_method_23_code, 1, (some .boolean))
abbrev m_G_isOperation : xj_M := (⟨"ThreePhaseGroup", "isOperation", "(III)Z"⟩, prog_1_method_25_code, 3, (some .boolean))
abbrev m_B_isFull : xj_M := (⟨"ThreePhaseGroup$Board", "isFull", "()Z"⟩, prog_2_method_2_code, 1, (some .boolean))
abbrev m_C_openNext : xj_M := (⟨"ThreePhaseGroup$Client", "openNext", "()V"⟩, prog_3_method_2_code, 1, none)
abbrev m_JA_fillJ : xj_M := (⟨"java/util/Arrays", "fill", "([JJ)V"⟩, prog_12_method_101_code, 5, none)
abbrev m_B_post : xj_M := (⟨"ThreePhaseGroup$Board", "post", "(IIIJI)I"⟩, prog_2_method_5_code, 8, (some .int))
abbrev m_G_deliver : xj_M := (⟨"ThreePhaseGroup", "deliver", "(II)Z"⟩, prog_1_method_3_code, 3, (some .boolean))
abbrev m_B_has : xj_M := (⟨"ThreePhaseGroup$Board", "has", "(I)Z"⟩, prog_2_method_3_code, 2, (some .boolean))
abbrev m_G_isParty : xj_M := (⟨"ThreePhaseGroup", "isParty", "(I)Z"⟩, prog_1_method_24_code, 1, (some .boolean))
abbrev m_G_give : xj_M := (⟨"ThreePhaseGroup", "give", "(II)Z"⟩, prog_1_method_26_code, 3, (some .boolean))
abbrev m_C_takes : xj_M := (⟨"ThreePhaseGroup$Client", "takes", "(I)Z"⟩, prog_3_method_3_code, 3, (some .boolean))
abbrev m_C_countReplies : xj_M := (⟨"ThreePhaseGroup$Client", "countReplies", "(I)I"⟩, prog_3_method_4_code, 4, (some .int))
abbrev m_R_takes : xj_M := (⟨"ThreePhaseGroup$Replica", "takes", "(I)Z"⟩, prog_5_method_8_code, 2, (some .boolean))
abbrev m_R_takesRequest : xj_M := (⟨"ThreePhaseGroup$Replica", "takesRequest", "(I)Z"⟩, prog_5_method_9_code, 2, (some .boolean))
abbrev m_N_has : xj_M := (⟨"ThreePhaseGroup$Numbers", "has", "(I)Z"⟩, prog_4_method_2_code, 3, (some .boolean))
abbrev m_R_wouldWait : xj_M := (⟨"ThreePhaseGroup$Replica", "wouldWait", "(I)Z"⟩, prog_5_method_5_code, 3, (some .boolean))
abbrev m_V_timestampOf : xj_M := (⟨"ThreePhaseGroup$Service", "timestampOf", "(JI)I"⟩, prog_6_method_3_code, 3, (some .int))
abbrev m_R_learn : xj_M := (⟨"ThreePhaseGroup$Replica", "learn", "(I)V"⟩, prog_5_method_7_code, 2, none)
abbrev m_N_add : xj_M := (⟨"ThreePhaseGroup$Numbers", "add", "(I)V"⟩, prog_4_method_3_code, 2, none)
abbrev m_R_takesPrePrepare : xj_M := (⟨"ThreePhaseGroup$Replica", "takesPrePrepare", "(I)Z"⟩, prog_5_method_11_code, 4, (some .boolean))
abbrev m_R_isOfThisView : xj_M := (⟨"ThreePhaseGroup$Replica", "isOfThisView", "(I)Z"⟩, prog_5_method_10_code, 2, (some .boolean))
abbrev m_R_inWindow : xj_M := (⟨"ThreePhaseGroup$Replica", "inWindow", "(J)Z"⟩, prog_5_method_2_code, 3, (some .boolean))
abbrev m_G_primaryOf : xj_M := (⟨"ThreePhaseGroup", "primaryOf", "(I)I"⟩, prog_1_method_28_code, 1, (some .int))
abbrev m_R_slotAt : xj_M := (⟨"ThreePhaseGroup$Replica", "slotAt", "(J)LThreePhaseGroup$Slot;"⟩, prog_5_method_3_code, 3, (some (.object "ThreePhaseGroup$Slot")))
abbrev m_B_hasRequestBelow : xj_M := (⟨"ThreePhaseGroup$Board", "hasRequestBelow", "(II)Z"⟩, prog_2_method_4_code, 3, (some .boolean))
abbrev m_R_takesPhase : xj_M := (⟨"ThreePhaseGroup$Replica", "takesPhase", "(I)Z"⟩, prog_5_method_12_code, 4, (some .boolean))
abbrev m_R_takesCheckpoint : xj_M := (⟨"ThreePhaseGroup$Replica", "takesCheckpoint", "(I)Z"⟩, prog_5_method_13_code, 5, (some .boolean))
abbrev m_R_takesViewChange : xj_M := (⟨"ThreePhaseGroup$Replica", "takesViewChange", "(I)Z"⟩, prog_5_method_15_code, 4, (some .boolean))
abbrev m_R_isAhead : xj_M := (⟨"ThreePhaseGroup$Replica", "isAhead", "(I)Z"⟩, prog_5_method_14_code, 2, (some .boolean))
abbrev m_R_takesNewView : xj_M := (⟨"ThreePhaseGroup$Replica", "takesNewView", "(I)Z"⟩, prog_5_method_16_code, 3, (some .boolean))
abbrev m_R_enter : xj_M := (⟨"ThreePhaseGroup$Replica", "enter", "(I)V"⟩, prog_5_method_36_code, 6, none)
abbrev m_R_moveTo : xj_M := (⟨"ThreePhaseGroup$Replica", "moveTo", "(I)V"⟩, prog_5_method_34_code, 3, none)
abbrev m_B_startOf : xj_M := (⟨"ThreePhaseGroup$Board", "startOf", "(I)I"⟩, prog_2_method_16_code, 4, (some .int))
abbrev m_B_voteOf : xj_M := (⟨"ThreePhaseGroup$Board", "voteOf", "(II)I"⟩, prog_2_method_14_code, 2, (some .int))
abbrev m_JM_max : xj_M := (⟨"java/lang/Math", "max", "(II)I"⟩, prog_11_method_65_code, 2, (some .int))
abbrev m_B_certificate : xj_M := (⟨"ThreePhaseGroup$Board", "certificate", "(JI)I"⟩, prog_2_method_10_code, 5, (some .int))
abbrev m_B_countCheckpoints : xj_M := (⟨"ThreePhaseGroup$Board", "countCheckpoints", "(II)I"⟩, prog_2_method_11_code, 5, (some .int))
abbrev m_JI_bitCount : xj_M := (⟨"java/lang/Integer", "bitCount", "(I)I"⟩, prog_10_method_49_code, 1, (some .int))
abbrev m_R_settle : xj_M := (⟨"ThreePhaseGroup$Replica", "settle", "(IJ)V"⟩, prog_5_method_33_code, 5, none)
abbrev m_S_forgetProofs : xj_M := (⟨"ThreePhaseGroup$Slot", "forgetProofs", "()V"⟩, prog_7_method_3_code, 1, none)
abbrev m_R_followRules : xj_M := (⟨"ThreePhaseGroup$Replica", "followRules", "()V"⟩, prog_5_method_18_code, 3, none)
abbrev m_R_prepareNext : xj_M := (⟨"ThreePhaseGroup$Replica", "prepareNext", "()Z"⟩, prog_5_method_20_code, 3, (some .boolean))
abbrev m_R_isPrimary : xj_M := (⟨"ThreePhaseGroup$Replica", "isPrimary", "()Z"⟩, prog_5_method_4_code, 1, (some .boolean))
abbrev m_R_commitNext : xj_M := (⟨"ThreePhaseGroup$Replica", "commitNext", "()Z"⟩, prog_5_method_21_code, 3, (some .boolean))
abbrev m_S_countPrepares : xj_M := (⟨"ThreePhaseGroup$Slot", "countPrepares", "()I"⟩, prog_7_method_4_code, 1, (some .int))
abbrev m_S_countAccepted : xj_M := (⟨"ThreePhaseGroup$Slot", "countAccepted", "([J)I"⟩, prog_7_method_6_code, 4, (some .int))
abbrev m_R_decideNext : xj_M := (⟨"ThreePhaseGroup$Replica", "decideNext", "()Z"⟩, prog_5_method_22_code, 3, (some .boolean))
abbrev m_S_countCommits : xj_M := (⟨"ThreePhaseGroup$Slot", "countCommits", "()I"⟩, prog_7_method_5_code, 1, (some .int))
abbrev m_R_executeNext : xj_M := (⟨"ThreePhaseGroup$Replica", "executeNext", "()Z"⟩, prog_5_method_23_code, 2, (some .boolean))
abbrev m_R_execute : xj_M := (⟨"ThreePhaseGroup$Replica", "execute", "(I)V"⟩, prog_5_method_24_code, 9, none)
abbrev m_V_valueOf : xj_M := (⟨"ThreePhaseGroup$Service", "valueOf", "(JI)I"⟩, prog_6_method_2_code, 3, (some .int))
abbrev m_V_valueAfter : xj_M := (⟨"ThreePhaseGroup$Service", "valueAfter", "(III)I"⟩, prog_6_method_4_code, 3, (some .int))
abbrev m_V_withValue : xj_M := (⟨"ThreePhaseGroup$Service", "withValue", "(JII)J"⟩, prog_6_method_5_code, 4, (some .long))
abbrev m_V_withBits : xj_M := (⟨"ThreePhaseGroup$Service", "withBits", "(JIJJ)J"⟩, prog_6_method_7_code, 7, (some .long))
abbrev m_V_withResult : xj_M := (⟨"ThreePhaseGroup$Service", "withResult", "(JIII)J"⟩, prog_6_method_6_code, 5, (some .long))
abbrev m_R_settleNext : xj_M := (⟨"ThreePhaseGroup$Replica", "settleNext", "()Z"⟩, prog_5_method_25_code, 5, (some .boolean))
abbrev m_R_countNotedLike : xj_M := (⟨"ThreePhaseGroup$Replica", "countNotedLike", "(I)I"⟩, prog_5_method_26_code, 5, (some .int))
abbrev m_R_joinChange : xj_M := (⟨"ThreePhaseGroup$Replica", "joinChange", "()Z"⟩, prog_5_method_27_code, 4, (some .boolean))
abbrev m_JM_min : xj_M := (⟨"java/lang/Math", "min", "(II)I"⟩, prog_11_method_69_code, 2, (some .int))
abbrev m_R_begin : xj_M := (⟨"ThreePhaseGroup$Replica", "begin", "(I)V"⟩, prog_5_method_35_code, 4, none)
abbrev m_R_openView : xj_M := (⟨"ThreePhaseGroup$Replica", "openView", "()Z"⟩, prog_5_method_28_code, 5, (some .boolean))
abbrev m_R_votesForView : xj_M := (⟨"ThreePhaseGroup$Replica", "votesForView", "(I)Z"⟩, prog_5_method_29_code, 2, (some .boolean))
abbrev m_B_ordersDue : xj_M := (⟨"ThreePhaseGroup$Board", "ordersDue", "(I)I"⟩, prog_2_method_17_code, 9, (some .int))
abbrev m_B_greatestClaimant : xj_M := (⟨"ThreePhaseGroup$Board", "greatestClaimant", "(II)I"⟩, prog_2_method_18_code, 7, (some .int))
abbrev m_B_claimFor : xj_M := (⟨"ThreePhaseGroup$Board", "claimFor", "(II)I"⟩, prog_2_method_15_code, 4, (some .int))
abbrev m_B_backing : xj_M := (⟨"ThreePhaseGroup$Board", "backing", "(III)I"⟩, prog_2_method_12_code, 7, (some .int))
abbrev m_B_isPrepare : xj_M := (⟨"ThreePhaseGroup$Board", "isPrepare", "(III)Z"⟩, prog_2_method_13_code, 4, (some .boolean))
abbrev m_R_orderNext : xj_M := (⟨"ThreePhaseGroup$Replica", "orderNext", "()Z"⟩, prog_5_method_30_code, 3, (some .boolean))
abbrev m_R_leastUnordered : xj_M := (⟨"ThreePhaseGroup$Replica", "leastUnordered", "()I"⟩, prog_5_method_31_code, 4, (some .int))
abbrev m_R_isAccepted : xj_M := (⟨"ThreePhaseGroup$Replica", "isAccepted", "(I)Z"⟩, prog_5_method_32_code, 3, (some .boolean))
abbrev m_R_setTimer : xj_M := (⟨"ThreePhaseGroup$Replica", "setTimer", "()V"⟩, prog_5_method_19_code, 1, none)
abbrev m_R_countWaiting : xj_M := (⟨"ThreePhaseGroup$Replica", "countWaiting", "()I"⟩, prog_5_method_6_code, 3, (some .int))
abbrev m_B_judgeNew : xj_M := (⟨"ThreePhaseGroup$Board", "judgeNew", "()V"⟩, prog_2_method_6_code, 1, none)
abbrev m_B_isValidViewChange : xj_M := (⟨"ThreePhaseGroup$Board", "isValidViewChange", "(I)Z"⟩, prog_2_method_8_code, 5, (some .boolean))
abbrev m_B_isChangedView : xj_M := (⟨"ThreePhaseGroup$Board", "isChangedView", "(I)Z"⟩, prog_2_method_7_code, 1, (some .boolean))
abbrev m_B_isValidNewView : xj_M := (⟨"ThreePhaseGroup$Board", "isValidNewView", "(I)Z"⟩, prog_2_method_9_code, 6, (some .boolean))
abbrev m_G_pump : xj_M := (⟨"ThreePhaseGroup", "pump", "(II)I"⟩, prog_1_method_4_code, 5, (some .int))
abbrev m_G_tick : xj_M := (⟨"ThreePhaseGroup", "tick", "(I)Z"⟩, prog_1_method_5_code, 2, (some .boolean))
abbrev m_G_isReplica : xj_M := (⟨"ThreePhaseGroup", "isReplica", "(I)Z"⟩, prog_1_method_22_code, 1, (some .boolean))
abbrev m_R_stepClock : xj_M := (⟨"ThreePhaseGroup$Replica", "stepClock", "()V"⟩, prog_5_method_17_code, 1, none)
abbrev m_G_corrupt : xj_M := (⟨"ThreePhaseGroup", "corrupt", "(I)Z"⟩, prog_1_method_6_code, 2, (some .boolean))
abbrev m_G_forge : xj_M := (⟨"ThreePhaseGroup", "forge", "(IIII)I"⟩, prog_1_method_7_code, 5, (some .int))
abbrev m_G_postForged : xj_M := (⟨"ThreePhaseGroup", "postForged", "(IIJI)I"⟩, prog_1_method_27_code, 7, (some .int))
abbrev m_G_forgeCheckpoint : xj_M := (⟨"ThreePhaseGroup", "forgeCheckpoint", "(IJ)I"⟩, prog_1_method_8_code, 4, (some .int))
abbrev m_G_messages : xj_M := (⟨"ThreePhaseGroup", "messages", "()I"⟩, prog_1_method_9_code, 1, (some .int))
abbrev m_G_look : xj_M := (⟨"ThreePhaseGroup", "look", "(II)J"⟩, prog_1_method_10_code, 3, (some .long))
abbrev m_G_mark : xj_M := (⟨"ThreePhaseGroup", "mark", "(I)I"⟩, prog_1_method_11_code, 2, (some .int))
abbrev m_G_view : xj_M := (⟨"ThreePhaseGroup", "view", "(I)I"⟩, prog_1_method_12_code, 2, (some .int))
abbrev m_G_executed : xj_M := (⟨"ThreePhaseGroup", "executed", "(I)I"⟩, prog_1_method_13_code, 2, (some .int))
abbrev m_G_stable : xj_M := (⟨"ThreePhaseGroup", "stable", "(I)I"⟩, prog_1_method_14_code, 2, (some .int))
abbrev m_G_state : xj_M := (⟨"ThreePhaseGroup", "state", "(I)J"⟩, prog_1_method_15_code, 2, (some .long))
abbrev m_G_slot : xj_M := (⟨"ThreePhaseGroup", "slot", "(II)I"⟩, prog_1_method_16_code, 3, (some .int))
abbrev m_S_summary : xj_M := (⟨"ThreePhaseGroup$Slot", "summary", "(I)I"⟩, prog_7_method_7_code, 3, (some .int))
abbrev m_G_ordered : xj_M := (⟨"ThreePhaseGroup", "ordered", "(II)I"⟩, prog_1_method_17_code, 4, (some .int))
abbrev m_G_timer : xj_M := (⟨"ThreePhaseGroup", "timer", "(I)I"⟩, prog_1_method_18_code, 2, (some .int))
abbrev m_G_waiting : xj_M := (⟨"ThreePhaseGroup", "waiting", "(I)I"⟩, prog_1_method_19_code, 2, (some .int))
abbrev m_G_outstanding : xj_M := (⟨"ThreePhaseGroup", "outstanding", "(I)I"⟩, prog_1_method_20_code, 2, (some .int))
abbrev m_G_answer : xj_M := (⟨"ThreePhaseGroup", "answer", "(I)I"⟩, prog_1_method_21_code, 2, (some .int))
abbrev m_T_init : xj_M := (⟨"ThreePhaseGroupModel", "<init>", "()V"⟩, prog_9_method_1_code, 2, none)
abbrev m_T_waiting : xj_M := (⟨"ThreePhaseGroupModel", "waiting", "(I)I"⟩, prog_9_method_18_code, 4, (some .int))
abbrev m_T_outside : xj_M := (⟨"ThreePhaseGroupModel", "outside", "(III)Z"⟩, prog_9_method_2_code, 3, (some .boolean))
abbrev m_T_waits : xj_M := (⟨"ThreePhaseGroupModel", "waits", "(II)Z"⟩, prog_9_method_17_code, 4, (some .boolean))
abbrev m_T_submit : xj_M := (⟨"ThreePhaseGroupModel", "submit", "(IIII)I"⟩, prog_9_method_38_code, 5, (some .int))
abbrev m_T_send : xj_M := (⟨"ThreePhaseGroupModel", "send", "(IIIJI)I"⟩, prog_9_method_3_code, 8, (some .int))
abbrev m_T_deliver : xj_M := (⟨"ThreePhaseGroupModel", "deliver", "(II)Z"⟩, prog_9_method_39_code, 3, (some .boolean))
abbrev m_T_give : xj_M := (⟨"ThreePhaseGroupModel", "give", "(II)Z"⟩, prog_9_method_19_code, 3, (some .boolean))
abbrev m_T_answered : xj_M := (⟨"ThreePhaseGroupModel", "answered", "(II)Z"⟩, prog_9_method_37_code, 5, (some .boolean))
abbrev m_T_takes : xj_M := (⟨"ThreePhaseGroupModel", "takes", "(II)Z"⟩, prog_9_method_20_code, 8, (some .boolean))
abbrev m_T_window : xj_M := (⟨"ThreePhaseGroupModel", "window", "(IJ)Z"⟩, prog_9_method_13_code, 4, (some .boolean))
abbrev m_T_takesRequest : xj_M := (⟨"ThreePhaseGroupModel", "takesRequest", "(II)Z"⟩, prog_9_method_21_code, 3, (some .boolean))
abbrev m_T_takesOrder : xj_M := (⟨"ThreePhaseGroupModel", "takesOrder", "(II)Z"⟩, prog_9_method_22_code, 5, (some .boolean))
abbrev m_T_notes : xj_M := (⟨"ThreePhaseGroupModel", "notes", "(IIIIJ)Z"⟩, prog_9_method_14_code, 8, (some .boolean))
abbrev m_T_goodChange : xj_M := (⟨"ThreePhaseGroupModel", "goodChange", "(I)Z"⟩, prog_9_method_7_code, 7, (some .boolean))
abbrev m_T_proof : xj_M := (⟨"ThreePhaseGroupModel", "proof", "(JI)I"⟩, prog_9_method_5_code, 5, (some .int))
abbrev m_T_senders : xj_M := (⟨"ThreePhaseGroupModel", "senders", "(IIIJII)I"⟩, prog_9_method_4_code, 12, (some .int))
abbrev m_T_backing : xj_M := (⟨"ThreePhaseGroupModel", "backing", "(IJI)I"⟩, prog_9_method_6_code, 6, (some .int))
abbrev m_T_takesChange : xj_M := (⟨"ThreePhaseGroupModel", "takesChange", "(II)Z"⟩, prog_9_method_23_code, 4, (some .boolean))
abbrev m_T_goodNew : xj_M := (⟨"ThreePhaseGroupModel", "goodNew", "(I)Z"⟩, prog_9_method_9_code, 6, (some .boolean))
abbrev m_T_vote : xj_M := (⟨"ThreePhaseGroupModel", "vote", "(II)I"⟩, prog_9_method_8_code, 3, (some .int))
abbrev m_T_orders : xj_M := (⟨"ThreePhaseGroupModel", "orders", "(I)I"⟩, prog_9_method_12_code, 11, (some .int))
abbrev m_T_start : xj_M := (⟨"ThreePhaseGroupModel", "start", "(I)I"⟩, prog_9_method_10_code, 6, (some .int))
abbrev m_T_claim : xj_M := (⟨"ThreePhaseGroupModel", "claim", "(II)I"⟩, prog_9_method_11_code, 5, (some .int))
abbrev m_T_enters : xj_M := (⟨"ThreePhaseGroupModel", "enters", "(II)Z"⟩, prog_9_method_26_code, 8, (some .boolean))
abbrev m_T_dropAccepted : xj_M := (⟨"ThreePhaseGroupModel", "dropAccepted", "(I)V"⟩, prog_9_method_24_code, 3, none)
abbrev m_T_settles : xj_M := (⟨"ThreePhaseGroupModel", "settles", "(IIJ)V"⟩, prog_9_method_25_code, 6, none)
abbrev m_T_rules : xj_M := (⟨"ThreePhaseGroupModel", "rules", "(I)V"⟩, prog_9_method_28_code, 4, none)
abbrev m_T_phases : xj_M := (⟨"ThreePhaseGroupModel", "phases", "(I)Z"⟩, prog_9_method_29_code, 5, (some .boolean))
abbrev m_T_phase : xj_M := (⟨"ThreePhaseGroupModel", "phase", "(IIII)Z"⟩, prog_9_method_30_code, 6, (some .boolean))
abbrev m_T_sent : xj_M := (⟨"ThreePhaseGroupModel", "sent", "(III)Z"⟩, prog_9_method_16_code, 5, (some .boolean))
abbrev m_T_heard : xj_M := (⟨"ThreePhaseGroupModel", "heard", "(IIIJI)I"⟩, prog_9_method_15_code, 11, (some .int))
abbrev m_T_executes : xj_M := (⟨"ThreePhaseGroupModel", "executes", "(I)Z"⟩, prog_9_method_31_code, 4, (some .boolean))
abbrev m_T_serves : xj_M := (⟨"ThreePhaseGroupModel", "serves", "(II)V"⟩, prog_9_method_32_code, 12, none)
abbrev m_T_truncates : xj_M := (⟨"ThreePhaseGroupModel", "truncates", "(I)Z"⟩, prog_9_method_33_code, 5, (some .boolean))
abbrev m_T_joins : xj_M := (⟨"ThreePhaseGroupModel", "joins", "(I)Z"⟩, prog_9_method_34_code, 5, (some .boolean))
abbrev m_T_begins : xj_M := (⟨"ThreePhaseGroupModel", "begins", "(II)V"⟩, prog_9_method_27_code, 5, none)
abbrev m_T_opens : xj_M := (⟨"ThreePhaseGroupModel", "opens", "(I)Z"⟩, prog_9_method_35_code, 8, (some .boolean))
abbrev m_T_proposes : xj_M := (⟨"ThreePhaseGroupModel", "proposes", "(I)Z"⟩, prog_9_method_36_code, 6, (some .boolean))
abbrev m_T_pump : xj_M := (⟨"ThreePhaseGroupModel", "pump", "(II)I"⟩, prog_9_method_40_code, 6, (some .int))
abbrev m_T_tick : xj_M := (⟨"ThreePhaseGroupModel", "tick", "(I)Z"⟩, prog_9_method_41_code, 2, (some .boolean))
abbrev m_T_corrupt : xj_M := (⟨"ThreePhaseGroupModel", "corrupt", "(I)Z"⟩, prog_9_method_42_code, 2, (some .boolean))
abbrev m_T_forge : xj_M := (⟨"ThreePhaseGroupModel", "forge", "(IIII)I"⟩, prog_9_method_44_code, 5, (some .int))
abbrev m_T_forgeOne : xj_M := (⟨"ThreePhaseGroupModel", "forgeOne", "(IIJI)I"⟩, prog_9_method_43_code, 7, (some .int))
abbrev m_T_forgeCheckpoint : xj_M := (⟨"ThreePhaseGroupModel", "forgeCheckpoint", "(IJ)I"⟩, prog_9_method_45_code, 4, (some .int))
abbrev m_T_messages : xj_M := (⟨"ThreePhaseGroupModel", "messages", "()I"⟩, prog_9_method_46_code, 1, (some .int))
abbrev m_T_look : xj_M := (⟨"ThreePhaseGroupModel", "look", "(II)J"⟩, prog_9_method_47_code, 3, (some .long))
abbrev m_T_mark : xj_M := (⟨"ThreePhaseGroupModel", "mark", "(I)I"⟩, prog_9_method_48_code, 2, (some .int))
abbrev m_T_view : xj_M := (⟨"ThreePhaseGroupModel", "view", "(I)I"⟩, prog_9_method_49_code, 2, (some .int))
abbrev m_T_executed : xj_M := (⟨"ThreePhaseGroupModel", "executed", "(I)I"⟩, prog_9_method_50_code, 2, (some .int))
abbrev m_T_stable : xj_M := (⟨"ThreePhaseGroupModel", "stable", "(I)I"⟩, prog_9_method_51_code, 2, (some .int))
abbrev m_T_state : xj_M := (⟨"ThreePhaseGroupModel", "state", "(I)J"⟩, prog_9_method_52_code, 2, (some .long))
abbrev m_T_slot : xj_M := (⟨"ThreePhaseGroupModel", "slot", "(II)I"⟩, prog_9_method_53_code, 6, (some .int))
abbrev m_T_ordered : xj_M := (⟨"ThreePhaseGroupModel", "ordered", "(II)I"⟩, prog_9_method_54_code, 4, (some .int))
abbrev m_T_timer : xj_M := (⟨"ThreePhaseGroupModel", "timer", "(I)I"⟩, prog_9_method_55_code, 2, (some .int))
abbrev m_T_outstanding : xj_M := (⟨"ThreePhaseGroupModel", "outstanding", "(I)I"⟩, prog_9_method_56_code, 2, (some .int))
abbrev m_T_answer : xj_M := (⟨"ThreePhaseGroupModel", "answer", "(I)I"⟩, prog_9_method_57_code, 2, (some .int))
theorem mb_G_init : xj_MB m_G_init 0 := ⟨(xj_in1 (List.mem_of_getElem? (i := 16) rfl) rfl), (xj_in1 (List.mem_of_getElem? (i := 1) rfl) rfl), ⟨by decide +kernel, by decide +kernel⟩, by decide +kernel⟩
theorem mi_G_init : xj_MI m_G_init 0 := ⟨mb_G_init, rfl, (xj_in1 (List.mem_of_getElem? (i := 15) rfl) rfl)⟩
-- not initialized: ('java/lang/Object', '<init>', '()V')
theorem mb_B_init : xj_MB m_B_init 0 := ⟨(xj_in1 (List.mem_of_getElem? (i := 24) rfl) rfl), (xj_in1 (List.mem_of_getElem? (i := 2) rfl) rfl), ⟨by decide +kernel, by decide +kernel⟩, by decide +kernel⟩
theorem mi_B_init : xj_MI m_B_init 0 := ⟨mb_B_init, rfl, (xj_in1 (List.mem_of_getElem? (i := 23) rfl) rfl)⟩
theorem mb_R_init : xj_MB m_R_init 2 := ⟨(xj_in1 (List.mem_of_getElem? (i := 79) rfl) rfl), (xj_in1 (List.mem_of_getElem? (i := 3) rfl) rfl), ⟨by decide +kernel, by decide +kernel⟩, by decide +kernel⟩
theorem mi_R_init : xj_MI m_R_init 2 := ⟨mb_R_init, rfl, (xj_in1 (List.mem_of_getElem? (i := 78) rfl) rfl)⟩
theorem mb_N_init : xj_MB m_N_init 0 := ⟨(xj_in1 (List.mem_of_getElem? (i := 87) rfl) rfl), (xj_in1 (List.mem_of_getElem? (i := 4) rfl) rfl), ⟨by decide +kernel, by decide +kernel⟩, by decide +kernel⟩
theorem mi_N_init : xj_MI m_N_init 0 := ⟨mb_N_init, rfl, (xj_in1 (List.mem_of_getElem? (i := 86) rfl) rfl)⟩
theorem mb_S_init : xj_MB m_S_init 0 := ⟨(xj_in1 (List.mem_of_getElem? (i := 101) rfl) rfl), (xj_in1 (List.mem_of_getElem? (i := 5) rfl) rfl), ⟨by decide +kernel, by decide +kernel⟩, by decide +kernel⟩
theorem mi_S_init : xj_MI m_S_init 0 := ⟨mb_S_init, rfl, (xj_in1 (List.mem_of_getElem? (i := 100) rfl) rfl)⟩
theorem mb_S_forgetView : xj_MB m_S_forgetView 0 := ⟨(xj_in1 (List.mem_of_getElem? (i := 106) rfl) rfl), (xj_in1 (List.mem_of_getElem? (i := 5) rfl) rfl), ⟨by decide +kernel, by decide +kernel⟩, by decide +kernel⟩
theorem mv_S_forgetView : xj_MV m_S_forgetView 0 := ⟨mb_S_forgetView, (xj_in1 (List.mem_of_getElem? (i := 104) rfl) rfl), (xj_in1 (List.mem_of_getElem? (i := 105) rfl) rfl)⟩
theorem mb_JA_fillI : xj_MB m_JA_fillI 2 := ⟨(xj_in1 (List.mem_of_getElem? (i := 133) rfl) rfl), (xj_in1 (List.mem_of_getElem? (i := 6) rfl) rfl), ⟨by decide +kernel, by decide +kernel⟩, by decide +kernel⟩
theorem ms_JA_fillI : xj_MS m_JA_fillI 2 := ⟨mb_JA_fillI, (xj_in1 (List.mem_of_getElem? (i := 132) rfl) rfl)⟩
theorem mb_C_init : xj_MB m_C_init 2 := ⟨(xj_in1 (List.mem_of_getElem? (i := 186) rfl) rfl), (xj_in1 (List.mem_of_getElem? (i := 7) rfl) rfl), ⟨by decide +kernel, by decide +kernel⟩, by decide +kernel⟩
theorem mi_C_init : xj_MI m_C_init 2 := ⟨mb_C_init, rfl, (xj_in1 (List.mem_of_getElem? (i := 185) rfl) rfl)⟩
theorem mb_G_submit : xj_MB m_G_submit 4 := ⟨(xj_in1 (List.mem_of_getElem? (i := 228) rfl) rfl), (xj_in1 (List.mem_of_getElem? (i := 1) rfl) rfl), ⟨by decide +kernel, by decide +kernel⟩, by decide +kernel⟩
theorem mv_G_submit : xj_MV m_G_submit 4 := ⟨mb_G_submit, (xj_in1 (List.mem_of_getElem? (i := 226) rfl) rfl), (xj_in1 (List.mem_of_getElem? (i := 227) rfl) rfl)⟩
theorem mb_G_isClient : xj_MB m_G_isClient 1 := ⟨(xj_in1 (List.mem_of_getElem? (i := 231) rfl) rfl), (xj_in1 (List.mem_of_getElem? (i := 1) rfl) rfl), ⟨by decide +kernel, by decide +kernel⟩, by decide +kernel⟩
theorem ms_G_isClient : xj_MS m_G_isClient 1 := ⟨mb_G_isClient, (xj_in1 (List.mem_of_getElem? (i := 230) rfl) rfl)⟩
theorem mb_G_isOperation : xj_MB m_G_isOperation 3 := ⟨(xj_in1 (List.mem_of_getElem? (i := 234) rfl) rfl), (xj_in1 (List.mem_of_getElem? (i := 1) rfl) rfl), ⟨by decide +kernel, by decide +kernel⟩, by decide +kernel⟩
theorem ms_G_isOperation : xj_MS m_G_isOperation 3 := ⟨mb_G_isOperation, (xj_in1 (List.mem_of_getElem? (i := 233) rfl) rfl)⟩
theorem mb_B_isFull : xj_MB m_B_isFull 0 := ⟨(xj_in1 (List.mem_of_getElem? (i := 238) rfl) rfl), (xj_in1 (List.mem_of_getElem? (i := 2) rfl) rfl), ⟨by decide +kernel, by decide +kernel⟩, by decide +kernel⟩
theorem mv_B_isFull : xj_MV m_B_isFull 0 := ⟨mb_B_isFull, (xj_in1 (List.mem_of_getElem? (i := 236) rfl) rfl), (xj_in1 (List.mem_of_getElem? (i := 237) rfl) rfl)⟩
theorem mb_C_openNext : xj_MB m_C_openNext 0 := ⟨(xj_in2 (List.mem_of_getElem? (i := 2) rfl) rfl), (xj_in1 (List.mem_of_getElem? (i := 7) rfl) rfl), ⟨by decide +kernel, by decide +kernel⟩, by decide +kernel⟩
theorem mv_C_openNext : xj_MV m_C_openNext 0 := ⟨mb_C_openNext, (xj_in2 (List.mem_of_getElem? (i := 0) rfl) rfl), (xj_in2 (List.mem_of_getElem? (i := 1) rfl) rfl)⟩
theorem mb_JA_fillJ : xj_MB m_JA_fillJ 2 := ⟨(xj_in2 (List.mem_of_getElem? (i := 6) rfl) rfl), (xj_in1 (List.mem_of_getElem? (i := 6) rfl) rfl), ⟨by decide +kernel, by decide +kernel⟩, by decide +kernel⟩
theorem ms_JA_fillJ : xj_MS m_JA_fillJ 2 := ⟨mb_JA_fillJ, (xj_in2 (List.mem_of_getElem? (i := 5) rfl) rfl)⟩
theorem mb_B_post : xj_MB m_B_post 5 := ⟨(xj_in2 (List.mem_of_getElem? (i := 10) rfl) rfl), (xj_in1 (List.mem_of_getElem? (i := 2) rfl) rfl), ⟨by decide +kernel, by decide +kernel⟩, by decide +kernel⟩
theorem mv_B_post : xj_MV m_B_post 5 := ⟨mb_B_post, (xj_in2 (List.mem_of_getElem? (i := 8) rfl) rfl), (xj_in2 (List.mem_of_getElem? (i := 9) rfl) rfl)⟩
theorem mb_G_deliver : xj_MB m_G_deliver 2 := ⟨(xj_in2 (List.mem_of_getElem? (i := 14) rfl) rfl), (xj_in1 (List.mem_of_getElem? (i := 1) rfl) rfl), ⟨by decide +kernel, by decide +kernel⟩, by decide +kernel⟩
theorem mv_G_deliver : xj_MV m_G_deliver 2 := ⟨mb_G_deliver, (xj_in2 (List.mem_of_getElem? (i := 12) rfl) rfl), (xj_in2 (List.mem_of_getElem? (i := 13) rfl) rfl)⟩
theorem mb_B_has : xj_MB m_B_has 1 := ⟨(xj_in2 (List.mem_of_getElem? (i := 18) rfl) rfl), (xj_in1 (List.mem_of_getElem? (i := 2) rfl) rfl), ⟨by decide +kernel, by decide +kernel⟩, by decide +kernel⟩
theorem mv_B_has : xj_MV m_B_has 1 := ⟨mb_B_has, (xj_in2 (List.mem_of_getElem? (i := 16) rfl) rfl), (xj_in2 (List.mem_of_getElem? (i := 17) rfl) rfl)⟩
theorem mb_G_isParty : xj_MB m_G_isParty 1 := ⟨(xj_in2 (List.mem_of_getElem? (i := 21) rfl) rfl), (xj_in1 (List.mem_of_getElem? (i := 1) rfl) rfl), ⟨by decide +kernel, by decide +kernel⟩, by decide +kernel⟩
theorem ms_G_isParty : xj_MS m_G_isParty 1 := ⟨mb_G_isParty, (xj_in2 (List.mem_of_getElem? (i := 20) rfl) rfl)⟩
theorem mb_G_give : xj_MB m_G_give 2 := ⟨(xj_in2 (List.mem_of_getElem? (i := 25) rfl) rfl), (xj_in1 (List.mem_of_getElem? (i := 1) rfl) rfl), ⟨by decide +kernel, by decide +kernel⟩, by decide +kernel⟩
theorem mv_G_give : xj_MV m_G_give 2 := ⟨mb_G_give, (xj_in2 (List.mem_of_getElem? (i := 24) rfl) rfl), (xj_sel (q := (⟨"ThreePhaseGroup", "give", "(II)Z"⟩, 5)) (List.mem_of_getElem? (i := 0) rfl))⟩
theorem mb_C_takes : xj_MB m_C_takes 1 := ⟨(xj_in2 (List.mem_of_getElem? (i := 29) rfl) rfl), (xj_in1 (List.mem_of_getElem? (i := 7) rfl) rfl), ⟨by decide +kernel, by decide +kernel⟩, by decide +kernel⟩
theorem mv_C_takes : xj_MV m_C_takes 1 := ⟨mb_C_takes, (xj_in2 (List.mem_of_getElem? (i := 27) rfl) rfl), (xj_in2 (List.mem_of_getElem? (i := 28) rfl) rfl)⟩
theorem mb_C_countReplies : xj_MB m_C_countReplies 1 := ⟨(xj_in2 (List.mem_of_getElem? (i := 33) rfl) rfl), (xj_in1 (List.mem_of_getElem? (i := 7) rfl) rfl), ⟨by decide +kernel, by decide +kernel⟩, by decide +kernel⟩
theorem mv_C_countReplies : xj_MV m_C_countReplies 1 := ⟨mb_C_countReplies, (xj_in2 (List.mem_of_getElem? (i := 32) rfl) rfl), (xj_sel (q := (⟨"ThreePhaseGroup$Client", "countReplies", "(I)I"⟩, 6)) (List.mem_of_getElem? (i := 1) rfl))⟩
theorem mb_R_takes : xj_MB m_R_takes 1 := ⟨(xj_in2 (List.mem_of_getElem? (i := 37) rfl) rfl), (xj_in1 (List.mem_of_getElem? (i := 3) rfl) rfl), ⟨by decide +kernel, by decide +kernel⟩, by decide +kernel⟩
theorem mv_R_takes : xj_MV m_R_takes 1 := ⟨mb_R_takes, (xj_in2 (List.mem_of_getElem? (i := 35) rfl) rfl), (xj_in2 (List.mem_of_getElem? (i := 36) rfl) rfl)⟩
theorem mb_R_takesRequest : xj_MB m_R_takesRequest 1 := ⟨(xj_in2 (List.mem_of_getElem? (i := 41) rfl) rfl), (xj_in1 (List.mem_of_getElem? (i := 3) rfl) rfl), ⟨by decide +kernel, by decide +kernel⟩, by decide +kernel⟩
theorem mv_R_takesRequest : xj_MV m_R_takesRequest 1 := ⟨mb_R_takesRequest, (xj_in2 (List.mem_of_getElem? (i := 40) rfl) rfl), (xj_sel (q := (⟨"ThreePhaseGroup$Replica", "takesRequest", "(I)Z"⟩, 14)) (List.mem_of_getElem? (i := 2) rfl))⟩
theorem mb_N_has : xj_MB m_N_has 1 := ⟨(xj_in2 (List.mem_of_getElem? (i := 45) rfl) rfl), (xj_in1 (List.mem_of_getElem? (i := 4) rfl) rfl), ⟨by decide +kernel, by decide +kernel⟩, by decide +kernel⟩
theorem mv_N_has : xj_MV m_N_has 1 := ⟨mb_N_has, (xj_in2 (List.mem_of_getElem? (i := 43) rfl) rfl), (xj_in2 (List.mem_of_getElem? (i := 44) rfl) rfl)⟩
theorem mb_R_wouldWait : xj_MB m_R_wouldWait 1 := ⟨(xj_in2 (List.mem_of_getElem? (i := 49) rfl) rfl), (xj_in1 (List.mem_of_getElem? (i := 3) rfl) rfl), ⟨by decide +kernel, by decide +kernel⟩, by decide +kernel⟩
theorem mv_R_wouldWait : xj_MV m_R_wouldWait 1 := ⟨mb_R_wouldWait, (xj_in2 (List.mem_of_getElem? (i := 48) rfl) rfl), (xj_sel (q := (⟨"ThreePhaseGroup$Replica", "wouldWait", "(I)Z"⟩, 14)) (List.mem_of_getElem? (i := 3) rfl))⟩
theorem mb_V_timestampOf : xj_MB m_V_timestampOf 2 := ⟨(xj_in2 (List.mem_of_getElem? (i := 52) rfl) rfl), (xj_in1 (List.mem_of_getElem? (i := 9) rfl) rfl), ⟨by decide +kernel, by decide +kernel⟩, by decide +kernel⟩
theorem ms_V_timestampOf : xj_MS m_V_timestampOf 2 := ⟨mb_V_timestampOf, (xj_in2 (List.mem_of_getElem? (i := 51) rfl) rfl)⟩
theorem mb_R_learn : xj_MB m_R_learn 1 := ⟨(xj_in2 (List.mem_of_getElem? (i := 56) rfl) rfl), (xj_in1 (List.mem_of_getElem? (i := 3) rfl) rfl), ⟨by decide +kernel, by decide +kernel⟩, by decide +kernel⟩
theorem mv_R_learn : xj_MV m_R_learn 1 := ⟨mb_R_learn, (xj_in2 (List.mem_of_getElem? (i := 55) rfl) rfl), (xj_sel (q := (⟨"ThreePhaseGroup$Replica", "learn", "(I)V"⟩, 14)) (List.mem_of_getElem? (i := 4) rfl))⟩
theorem mb_N_add : xj_MB m_N_add 1 := ⟨(xj_in2 (List.mem_of_getElem? (i := 60) rfl) rfl), (xj_in1 (List.mem_of_getElem? (i := 4) rfl) rfl), ⟨by decide +kernel, by decide +kernel⟩, by decide +kernel⟩
theorem mv_N_add : xj_MV m_N_add 1 := ⟨mb_N_add, (xj_in2 (List.mem_of_getElem? (i := 58) rfl) rfl), (xj_in2 (List.mem_of_getElem? (i := 59) rfl) rfl)⟩
theorem mb_R_takesPrePrepare : xj_MB m_R_takesPrePrepare 1 := ⟨(xj_in2 (List.mem_of_getElem? (i := 65) rfl) rfl), (xj_in1 (List.mem_of_getElem? (i := 3) rfl) rfl), ⟨by decide +kernel, by decide +kernel⟩, by decide +kernel⟩
theorem mv_R_takesPrePrepare : xj_MV m_R_takesPrePrepare 1 := ⟨mb_R_takesPrePrepare, (xj_in2 (List.mem_of_getElem? (i := 64) rfl) rfl), (xj_sel (q := (⟨"ThreePhaseGroup$Replica", "takesPrePrepare", "(I)Z"⟩, 14)) (List.mem_of_getElem? (i := 5) rfl))⟩
theorem mb_R_isOfThisView : xj_MB m_R_isOfThisView 1 := ⟨(xj_in2 (List.mem_of_getElem? (i := 69) rfl) rfl), (xj_in1 (List.mem_of_getElem? (i := 3) rfl) rfl), ⟨by decide +kernel, by decide +kernel⟩, by decide +kernel⟩
theorem mv_R_isOfThisView : xj_MV m_R_isOfThisView 1 := ⟨mb_R_isOfThisView, (xj_in2 (List.mem_of_getElem? (i := 68) rfl) rfl), (xj_sel (q := (⟨"ThreePhaseGroup$Replica", "isOfThisView", "(I)Z"⟩, 14)) (List.mem_of_getElem? (i := 6) rfl))⟩
theorem mb_R_inWindow : xj_MB m_R_inWindow 1 := ⟨(xj_in2 (List.mem_of_getElem? (i := 73) rfl) rfl), (xj_in1 (List.mem_of_getElem? (i := 3) rfl) rfl), ⟨by decide +kernel, by decide +kernel⟩, by decide +kernel⟩
theorem mv_R_inWindow : xj_MV m_R_inWindow 1 := ⟨mb_R_inWindow, (xj_in2 (List.mem_of_getElem? (i := 71) rfl) rfl), (xj_in2 (List.mem_of_getElem? (i := 72) rfl) rfl)⟩
theorem mb_G_primaryOf : xj_MB m_G_primaryOf 1 := ⟨(xj_in2 (List.mem_of_getElem? (i := 76) rfl) rfl), (xj_in1 (List.mem_of_getElem? (i := 1) rfl) rfl), ⟨by decide +kernel, by decide +kernel⟩, by decide +kernel⟩
theorem ms_G_primaryOf : xj_MS m_G_primaryOf 1 := ⟨mb_G_primaryOf, (xj_in2 (List.mem_of_getElem? (i := 75) rfl) rfl)⟩
theorem mb_R_slotAt : xj_MB m_R_slotAt 1 := ⟨(xj_in2 (List.mem_of_getElem? (i := 80) rfl) rfl), (xj_in1 (List.mem_of_getElem? (i := 3) rfl) rfl), ⟨by decide +kernel, by decide +kernel⟩, by decide +kernel⟩
theorem mv_R_slotAt : xj_MV m_R_slotAt 1 := ⟨mb_R_slotAt, (xj_in2 (List.mem_of_getElem? (i := 78) rfl) rfl), (xj_in2 (List.mem_of_getElem? (i := 79) rfl) rfl)⟩
theorem mb_B_hasRequestBelow : xj_MB m_B_hasRequestBelow 2 := ⟨(xj_in2 (List.mem_of_getElem? (i := 84) rfl) rfl), (xj_in1 (List.mem_of_getElem? (i := 2) rfl) rfl), ⟨by decide +kernel, by decide +kernel⟩, by decide +kernel⟩
theorem mv_B_hasRequestBelow : xj_MV m_B_hasRequestBelow 2 := ⟨mb_B_hasRequestBelow, (xj_in2 (List.mem_of_getElem? (i := 82) rfl) rfl), (xj_in2 (List.mem_of_getElem? (i := 83) rfl) rfl)⟩
theorem mb_R_takesPhase : xj_MB m_R_takesPhase 1 := ⟨(xj_in2 (List.mem_of_getElem? (i := 88) rfl) rfl), (xj_in1 (List.mem_of_getElem? (i := 3) rfl) rfl), ⟨by decide +kernel, by decide +kernel⟩, by decide +kernel⟩
theorem mv_R_takesPhase : xj_MV m_R_takesPhase 1 := ⟨mb_R_takesPhase, (xj_in2 (List.mem_of_getElem? (i := 87) rfl) rfl), (xj_sel (q := (⟨"ThreePhaseGroup$Replica", "takesPhase", "(I)Z"⟩, 14)) (List.mem_of_getElem? (i := 7) rfl))⟩
theorem mb_R_takesCheckpoint : xj_MB m_R_takesCheckpoint 1 := ⟨(xj_in2 (List.mem_of_getElem? (i := 93) rfl) rfl), (xj_in1 (List.mem_of_getElem? (i := 3) rfl) rfl), ⟨by decide +kernel, by decide +kernel⟩, by decide +kernel⟩
theorem mv_R_takesCheckpoint : xj_MV m_R_takesCheckpoint 1 := ⟨mb_R_takesCheckpoint, (xj_in2 (List.mem_of_getElem? (i := 92) rfl) rfl), (xj_sel (q := (⟨"ThreePhaseGroup$Replica", "takesCheckpoint", "(I)Z"⟩, 14)) (List.mem_of_getElem? (i := 8) rfl))⟩
theorem mb_R_takesViewChange : xj_MB m_R_takesViewChange 1 := ⟨(xj_in2 (List.mem_of_getElem? (i := 97) rfl) rfl), (xj_in1 (List.mem_of_getElem? (i := 3) rfl) rfl), ⟨by decide +kernel, by decide +kernel⟩, by decide +kernel⟩
theorem mv_R_takesViewChange : xj_MV m_R_takesViewChange 1 := ⟨mb_R_takesViewChange, (xj_in2 (List.mem_of_getElem? (i := 96) rfl) rfl), (xj_sel (q := (⟨"ThreePhaseGroup$Replica", "takesViewChange", "(I)Z"⟩, 14)) (List.mem_of_getElem? (i := 9) rfl))⟩
theorem mb_R_isAhead : xj_MB m_R_isAhead 1 := ⟨(xj_in2 (List.mem_of_getElem? (i := 101) rfl) rfl), (xj_in1 (List.mem_of_getElem? (i := 3) rfl) rfl), ⟨by decide +kernel, by decide +kernel⟩, by decide +kernel⟩
theorem mv_R_isAhead : xj_MV m_R_isAhead 1 := ⟨mb_R_isAhead, (xj_in2 (List.mem_of_getElem? (i := 100) rfl) rfl), (xj_sel (q := (⟨"ThreePhaseGroup$Replica", "isAhead", "(I)Z"⟩, 14)) (List.mem_of_getElem? (i := 10) rfl))⟩
theorem mb_R_takesNewView : xj_MB m_R_takesNewView 1 := ⟨(xj_in2 (List.mem_of_getElem? (i := 105) rfl) rfl), (xj_in1 (List.mem_of_getElem? (i := 3) rfl) rfl), ⟨by decide +kernel, by decide +kernel⟩, by decide +kernel⟩
theorem mv_R_takesNewView : xj_MV m_R_takesNewView 1 := ⟨mb_R_takesNewView, (xj_in2 (List.mem_of_getElem? (i := 104) rfl) rfl), (xj_sel (q := (⟨"ThreePhaseGroup$Replica", "takesNewView", "(I)Z"⟩, 14)) (List.mem_of_getElem? (i := 11) rfl))⟩
theorem mb_R_enter : xj_MB m_R_enter 1 := ⟨(xj_in2 (List.mem_of_getElem? (i := 109) rfl) rfl), (xj_in1 (List.mem_of_getElem? (i := 3) rfl) rfl), ⟨by decide +kernel, by decide +kernel⟩, by decide +kernel⟩
theorem mv_R_enter : xj_MV m_R_enter 1 := ⟨mb_R_enter, (xj_in2 (List.mem_of_getElem? (i := 108) rfl) rfl), (xj_sel (q := (⟨"ThreePhaseGroup$Replica", "enter", "(I)V"⟩, 14)) (List.mem_of_getElem? (i := 12) rfl))⟩
theorem mb_R_moveTo : xj_MB m_R_moveTo 1 := ⟨(xj_in2 (List.mem_of_getElem? (i := 113) rfl) rfl), (xj_in1 (List.mem_of_getElem? (i := 3) rfl) rfl), ⟨by decide +kernel, by decide +kernel⟩, by decide +kernel⟩
theorem mv_R_moveTo : xj_MV m_R_moveTo 1 := ⟨mb_R_moveTo, (xj_in2 (List.mem_of_getElem? (i := 112) rfl) rfl), (xj_sel (q := (⟨"ThreePhaseGroup$Replica", "moveTo", "(I)V"⟩, 14)) (List.mem_of_getElem? (i := 13) rfl))⟩
theorem mb_B_startOf : xj_MB m_B_startOf 1 := ⟨(xj_in2 (List.mem_of_getElem? (i := 118) rfl) rfl), (xj_in1 (List.mem_of_getElem? (i := 2) rfl) rfl), ⟨by decide +kernel, by decide +kernel⟩, by decide +kernel⟩
theorem mv_B_startOf : xj_MV m_B_startOf 1 := ⟨mb_B_startOf, (xj_in2 (List.mem_of_getElem? (i := 116) rfl) rfl), (xj_in2 (List.mem_of_getElem? (i := 117) rfl) rfl)⟩
theorem mb_B_voteOf : xj_MB m_B_voteOf 2 := ⟨(xj_in2 (List.mem_of_getElem? (i := 121) rfl) rfl), (xj_in1 (List.mem_of_getElem? (i := 2) rfl) rfl), ⟨by decide +kernel, by decide +kernel⟩, by decide +kernel⟩
theorem ms_B_voteOf : xj_MS m_B_voteOf 2 := ⟨mb_B_voteOf, (xj_in2 (List.mem_of_getElem? (i := 120) rfl) rfl)⟩
theorem mb_JM_max : xj_MB m_JM_max 2 := ⟨(xj_in2 (List.mem_of_getElem? (i := 124) rfl) rfl), (xj_in1 (List.mem_of_getElem? (i := 10) rfl) rfl), ⟨by decide +kernel, by decide +kernel⟩, by decide +kernel⟩
theorem ms_JM_max : xj_MS m_JM_max 2 := ⟨mb_JM_max, (xj_in2 (List.mem_of_getElem? (i := 123) rfl) rfl)⟩
theorem mb_B_certificate : xj_MB m_B_certificate 2 := ⟨(xj_in2 (List.mem_of_getElem? (i := 128) rfl) rfl), (xj_in1 (List.mem_of_getElem? (i := 2) rfl) rfl), ⟨by decide +kernel, by decide +kernel⟩, by decide +kernel⟩
theorem mv_B_certificate : xj_MV m_B_certificate 2 := ⟨mb_B_certificate, (xj_in2 (List.mem_of_getElem? (i := 126) rfl) rfl), (xj_in2 (List.mem_of_getElem? (i := 127) rfl) rfl)⟩
theorem mb_B_countCheckpoints : xj_MB m_B_countCheckpoints 2 := ⟨(xj_in2 (List.mem_of_getElem? (i := 132) rfl) rfl), (xj_in1 (List.mem_of_getElem? (i := 2) rfl) rfl), ⟨by decide +kernel, by decide +kernel⟩, by decide +kernel⟩
theorem mv_B_countCheckpoints : xj_MV m_B_countCheckpoints 2 := ⟨mb_B_countCheckpoints, (xj_in2 (List.mem_of_getElem? (i := 131) rfl) rfl), (xj_sel (q := (⟨"ThreePhaseGroup$Board", "countCheckpoints", "(II)I"⟩, 8)) (List.mem_of_getElem? (i := 14) rfl))⟩
theorem mb_JI_bitCount : xj_MB m_JI_bitCount 1 := ⟨(xj_in2 (List.mem_of_getElem? (i := 135) rfl) rfl), (xj_in1 (List.mem_of_getElem? (i := 11) rfl) rfl), ⟨by decide +kernel, by decide +kernel⟩, by decide +kernel⟩
theorem ms_JI_bitCount : xj_MS m_JI_bitCount 1 := ⟨mb_JI_bitCount, (xj_in2 (List.mem_of_getElem? (i := 134) rfl) rfl)⟩
theorem mb_R_settle : xj_MB m_R_settle 2 := ⟨(xj_in2 (List.mem_of_getElem? (i := 142) rfl) rfl), (xj_in1 (List.mem_of_getElem? (i := 3) rfl) rfl), ⟨by decide +kernel, by decide +kernel⟩, by decide +kernel⟩
theorem mv_R_settle : xj_MV m_R_settle 2 := ⟨mb_R_settle, (xj_in2 (List.mem_of_getElem? (i := 141) rfl) rfl), (xj_sel (q := (⟨"ThreePhaseGroup$Replica", "settle", "(IJ)V"⟩, 14)) (List.mem_of_getElem? (i := 15) rfl))⟩
theorem mb_S_forgetProofs : xj_MB m_S_forgetProofs 0 := ⟨(xj_in2 (List.mem_of_getElem? (i := 146) rfl) rfl), (xj_in1 (List.mem_of_getElem? (i := 5) rfl) rfl), ⟨by decide +kernel, by decide +kernel⟩, by decide +kernel⟩
theorem mv_S_forgetProofs : xj_MV m_S_forgetProofs 0 := ⟨mb_S_forgetProofs, (xj_in2 (List.mem_of_getElem? (i := 144) rfl) rfl), (xj_in2 (List.mem_of_getElem? (i := 145) rfl) rfl)⟩
theorem mb_R_followRules : xj_MB m_R_followRules 0 := ⟨(xj_in2 (List.mem_of_getElem? (i := 150) rfl) rfl), (xj_in1 (List.mem_of_getElem? (i := 3) rfl) rfl), ⟨by decide +kernel, by decide +kernel⟩, by decide +kernel⟩
theorem mv_R_followRules : xj_MV m_R_followRules 0 := ⟨mb_R_followRules, (xj_in2 (List.mem_of_getElem? (i := 148) rfl) rfl), (xj_in2 (List.mem_of_getElem? (i := 149) rfl) rfl)⟩
theorem mb_R_prepareNext : xj_MB m_R_prepareNext 0 := ⟨(xj_in2 (List.mem_of_getElem? (i := 155) rfl) rfl), (xj_in1 (List.mem_of_getElem? (i := 3) rfl) rfl), ⟨by decide +kernel, by decide +kernel⟩, by decide +kernel⟩
theorem mv_R_prepareNext : xj_MV m_R_prepareNext 0 := ⟨mb_R_prepareNext, (xj_in2 (List.mem_of_getElem? (i := 154) rfl) rfl), (xj_sel (q := (⟨"ThreePhaseGroup$Replica", "prepareNext", "()Z"⟩, 14)) (List.mem_of_getElem? (i := 16) rfl))⟩
theorem mb_R_isPrimary : xj_MB m_R_isPrimary 0 := ⟨(xj_in2 (List.mem_of_getElem? (i := 159) rfl) rfl), (xj_in1 (List.mem_of_getElem? (i := 3) rfl) rfl), ⟨by decide +kernel, by decide +kernel⟩, by decide +kernel⟩
theorem mv_R_isPrimary : xj_MV m_R_isPrimary 0 := ⟨mb_R_isPrimary, (xj_in2 (List.mem_of_getElem? (i := 158) rfl) rfl), (xj_sel (q := (⟨"ThreePhaseGroup$Replica", "isPrimary", "()Z"⟩, 14)) (List.mem_of_getElem? (i := 17) rfl))⟩
theorem mb_R_commitNext : xj_MB m_R_commitNext 0 := ⟨(xj_in2 (List.mem_of_getElem? (i := 164) rfl) rfl), (xj_in1 (List.mem_of_getElem? (i := 3) rfl) rfl), ⟨by decide +kernel, by decide +kernel⟩, by decide +kernel⟩
theorem mv_R_commitNext : xj_MV m_R_commitNext 0 := ⟨mb_R_commitNext, (xj_in2 (List.mem_of_getElem? (i := 163) rfl) rfl), (xj_sel (q := (⟨"ThreePhaseGroup$Replica", "commitNext", "()Z"⟩, 14)) (List.mem_of_getElem? (i := 18) rfl))⟩
theorem mb_S_countPrepares : xj_MB m_S_countPrepares 0 := ⟨(xj_in2 (List.mem_of_getElem? (i := 168) rfl) rfl), (xj_in1 (List.mem_of_getElem? (i := 5) rfl) rfl), ⟨by decide +kernel, by decide +kernel⟩, by decide +kernel⟩
theorem mv_S_countPrepares : xj_MV m_S_countPrepares 0 := ⟨mb_S_countPrepares, (xj_in2 (List.mem_of_getElem? (i := 166) rfl) rfl), (xj_in2 (List.mem_of_getElem? (i := 167) rfl) rfl)⟩
theorem mb_S_countAccepted : xj_MB m_S_countAccepted 1 := ⟨(xj_in2 (List.mem_of_getElem? (i := 172) rfl) rfl), (xj_in1 (List.mem_of_getElem? (i := 5) rfl) rfl), ⟨by decide +kernel, by decide +kernel⟩, by decide +kernel⟩
theorem mv_S_countAccepted : xj_MV m_S_countAccepted 1 := ⟨mb_S_countAccepted, (xj_in2 (List.mem_of_getElem? (i := 171) rfl) rfl), (xj_sel (q := (⟨"ThreePhaseGroup$Slot", "countAccepted", "([J)I"⟩, 5)) (List.mem_of_getElem? (i := 19) rfl))⟩
theorem mb_R_decideNext : xj_MB m_R_decideNext 0 := ⟨(xj_in2 (List.mem_of_getElem? (i := 176) rfl) rfl), (xj_in1 (List.mem_of_getElem? (i := 3) rfl) rfl), ⟨by decide +kernel, by decide +kernel⟩, by decide +kernel⟩
theorem mv_R_decideNext : xj_MV m_R_decideNext 0 := ⟨mb_R_decideNext, (xj_in2 (List.mem_of_getElem? (i := 175) rfl) rfl), (xj_sel (q := (⟨"ThreePhaseGroup$Replica", "decideNext", "()Z"⟩, 14)) (List.mem_of_getElem? (i := 20) rfl))⟩
theorem mb_S_countCommits : xj_MB m_S_countCommits 0 := ⟨(xj_in2 (List.mem_of_getElem? (i := 180) rfl) rfl), (xj_in1 (List.mem_of_getElem? (i := 5) rfl) rfl), ⟨by decide +kernel, by decide +kernel⟩, by decide +kernel⟩
theorem mv_S_countCommits : xj_MV m_S_countCommits 0 := ⟨mb_S_countCommits, (xj_in2 (List.mem_of_getElem? (i := 178) rfl) rfl), (xj_in2 (List.mem_of_getElem? (i := 179) rfl) rfl)⟩
theorem mb_R_executeNext : xj_MB m_R_executeNext 0 := ⟨(xj_in2 (List.mem_of_getElem? (i := 184) rfl) rfl), (xj_in1 (List.mem_of_getElem? (i := 3) rfl) rfl), ⟨by decide +kernel, by decide +kernel⟩, by decide +kernel⟩
theorem mv_R_executeNext : xj_MV m_R_executeNext 0 := ⟨mb_R_executeNext, (xj_in2 (List.mem_of_getElem? (i := 183) rfl) rfl), (xj_sel (q := (⟨"ThreePhaseGroup$Replica", "executeNext", "()Z"⟩, 14)) (List.mem_of_getElem? (i := 21) rfl))⟩
theorem mb_R_execute : xj_MB m_R_execute 1 := ⟨(xj_in2 (List.mem_of_getElem? (i := 188) rfl) rfl), (xj_in1 (List.mem_of_getElem? (i := 3) rfl) rfl), ⟨by decide +kernel, by decide +kernel⟩, by decide +kernel⟩
theorem mv_R_execute : xj_MV m_R_execute 1 := ⟨mb_R_execute, (xj_in2 (List.mem_of_getElem? (i := 187) rfl) rfl), (xj_sel (q := (⟨"ThreePhaseGroup$Replica", "execute", "(I)V"⟩, 14)) (List.mem_of_getElem? (i := 22) rfl))⟩
theorem mb_V_valueOf : xj_MB m_V_valueOf 2 := ⟨(xj_in2 (List.mem_of_getElem? (i := 191) rfl) rfl), (xj_in1 (List.mem_of_getElem? (i := 9) rfl) rfl), ⟨by decide +kernel, by decide +kernel⟩, by decide +kernel⟩
theorem ms_V_valueOf : xj_MS m_V_valueOf 2 := ⟨mb_V_valueOf, (xj_in2 (List.mem_of_getElem? (i := 190) rfl) rfl)⟩
theorem mb_V_valueAfter : xj_MB m_V_valueAfter 3 := ⟨(xj_in2 (List.mem_of_getElem? (i := 194) rfl) rfl), (xj_in1 (List.mem_of_getElem? (i := 9) rfl) rfl), ⟨by decide +kernel, by decide +kernel⟩, by decide +kernel⟩
theorem ms_V_valueAfter : xj_MS m_V_valueAfter 3 := ⟨mb_V_valueAfter, (xj_in2 (List.mem_of_getElem? (i := 193) rfl) rfl)⟩
theorem mb_V_withValue : xj_MB m_V_withValue 3 := ⟨(xj_in2 (List.mem_of_getElem? (i := 197) rfl) rfl), (xj_in1 (List.mem_of_getElem? (i := 9) rfl) rfl), ⟨by decide +kernel, by decide +kernel⟩, by decide +kernel⟩
theorem ms_V_withValue : xj_MS m_V_withValue 3 := ⟨mb_V_withValue, (xj_in2 (List.mem_of_getElem? (i := 196) rfl) rfl)⟩
theorem mb_V_withBits : xj_MB m_V_withBits 4 := ⟨(xj_in2 (List.mem_of_getElem? (i := 201) rfl) rfl), (xj_in1 (List.mem_of_getElem? (i := 9) rfl) rfl), ⟨by decide +kernel, by decide +kernel⟩, by decide +kernel⟩
theorem ms_V_withBits : xj_MS m_V_withBits 4 := ⟨mb_V_withBits, (xj_in2 (List.mem_of_getElem? (i := 200) rfl) rfl)⟩
theorem mb_V_withResult : xj_MB m_V_withResult 4 := ⟨(xj_in2 (List.mem_of_getElem? (i := 205) rfl) rfl), (xj_in1 (List.mem_of_getElem? (i := 9) rfl) rfl), ⟨by decide +kernel, by decide +kernel⟩, by decide +kernel⟩
theorem ms_V_withResult : xj_MS m_V_withResult 4 := ⟨mb_V_withResult, (xj_in2 (List.mem_of_getElem? (i := 204) rfl) rfl)⟩
theorem mb_R_settleNext : xj_MB m_R_settleNext 0 := ⟨(xj_in2 (List.mem_of_getElem? (i := 210) rfl) rfl), (xj_in1 (List.mem_of_getElem? (i := 3) rfl) rfl), ⟨by decide +kernel, by decide +kernel⟩, by decide +kernel⟩
theorem mv_R_settleNext : xj_MV m_R_settleNext 0 := ⟨mb_R_settleNext, (xj_in2 (List.mem_of_getElem? (i := 209) rfl) rfl), (xj_sel (q := (⟨"ThreePhaseGroup$Replica", "settleNext", "()Z"⟩, 14)) (List.mem_of_getElem? (i := 23) rfl))⟩
theorem mb_R_countNotedLike : xj_MB m_R_countNotedLike 1 := ⟨(xj_in2 (List.mem_of_getElem? (i := 214) rfl) rfl), (xj_in1 (List.mem_of_getElem? (i := 3) rfl) rfl), ⟨by decide +kernel, by decide +kernel⟩, by decide +kernel⟩
theorem mv_R_countNotedLike : xj_MV m_R_countNotedLike 1 := ⟨mb_R_countNotedLike, (xj_in2 (List.mem_of_getElem? (i := 213) rfl) rfl), (xj_sel (q := (⟨"ThreePhaseGroup$Replica", "countNotedLike", "(I)I"⟩, 14)) (List.mem_of_getElem? (i := 24) rfl))⟩
theorem mb_R_joinChange : xj_MB m_R_joinChange 0 := ⟨(xj_in2 (List.mem_of_getElem? (i := 219) rfl) rfl), (xj_in1 (List.mem_of_getElem? (i := 3) rfl) rfl), ⟨by decide +kernel, by decide +kernel⟩, by decide +kernel⟩
theorem mv_R_joinChange : xj_MV m_R_joinChange 0 := ⟨mb_R_joinChange, (xj_in2 (List.mem_of_getElem? (i := 218) rfl) rfl), (xj_sel (q := (⟨"ThreePhaseGroup$Replica", "joinChange", "()Z"⟩, 14)) (List.mem_of_getElem? (i := 25) rfl))⟩
theorem mb_JM_min : xj_MB m_JM_min 2 := ⟨(xj_in2 (List.mem_of_getElem? (i := 222) rfl) rfl), (xj_in1 (List.mem_of_getElem? (i := 10) rfl) rfl), ⟨by decide +kernel, by decide +kernel⟩, by decide +kernel⟩
theorem ms_JM_min : xj_MS m_JM_min 2 := ⟨mb_JM_min, (xj_in2 (List.mem_of_getElem? (i := 221) rfl) rfl)⟩
theorem mb_R_begin : xj_MB m_R_begin 1 := ⟨(xj_in2 (List.mem_of_getElem? (i := 226) rfl) rfl), (xj_in1 (List.mem_of_getElem? (i := 3) rfl) rfl), ⟨by decide +kernel, by decide +kernel⟩, by decide +kernel⟩
theorem mv_R_begin : xj_MV m_R_begin 1 := ⟨mb_R_begin, (xj_in2 (List.mem_of_getElem? (i := 225) rfl) rfl), (xj_sel (q := (⟨"ThreePhaseGroup$Replica", "begin", "(I)V"⟩, 14)) (List.mem_of_getElem? (i := 26) rfl))⟩
theorem mb_R_openView : xj_MB m_R_openView 0 := ⟨(xj_in2 (List.mem_of_getElem? (i := 230) rfl) rfl), (xj_in1 (List.mem_of_getElem? (i := 3) rfl) rfl), ⟨by decide +kernel, by decide +kernel⟩, by decide +kernel⟩
theorem mv_R_openView : xj_MV m_R_openView 0 := ⟨mb_R_openView, (xj_in2 (List.mem_of_getElem? (i := 229) rfl) rfl), (xj_sel (q := (⟨"ThreePhaseGroup$Replica", "openView", "()Z"⟩, 14)) (List.mem_of_getElem? (i := 27) rfl))⟩
theorem mb_R_votesForView : xj_MB m_R_votesForView 1 := ⟨(xj_in2 (List.mem_of_getElem? (i := 234) rfl) rfl), (xj_in1 (List.mem_of_getElem? (i := 3) rfl) rfl), ⟨by decide +kernel, by decide +kernel⟩, by decide +kernel⟩
theorem mv_R_votesForView : xj_MV m_R_votesForView 1 := ⟨mb_R_votesForView, (xj_in2 (List.mem_of_getElem? (i := 233) rfl) rfl), (xj_sel (q := (⟨"ThreePhaseGroup$Replica", "votesForView", "(I)Z"⟩, 14)) (List.mem_of_getElem? (i := 28) rfl))⟩
theorem mb_B_ordersDue : xj_MB m_B_ordersDue 1 := ⟨(xj_in2 (List.mem_of_getElem? (i := 238) rfl) rfl), (xj_in1 (List.mem_of_getElem? (i := 2) rfl) rfl), ⟨by decide +kernel, by decide +kernel⟩, by decide +kernel⟩
theorem mv_B_ordersDue : xj_MV m_B_ordersDue 1 := ⟨mb_B_ordersDue, (xj_in2 (List.mem_of_getElem? (i := 236) rfl) rfl), (xj_in2 (List.mem_of_getElem? (i := 237) rfl) rfl)⟩
theorem mb_B_greatestClaimant : xj_MB m_B_greatestClaimant 2 := ⟨(xj_in3 (List.mem_of_getElem? (i := 3) rfl) rfl), (xj_in1 (List.mem_of_getElem? (i := 2) rfl) rfl), ⟨by decide +kernel, by decide +kernel⟩, by decide +kernel⟩
theorem mv_B_greatestClaimant : xj_MV m_B_greatestClaimant 2 := ⟨mb_B_greatestClaimant, (xj_in3 (List.mem_of_getElem? (i := 2) rfl) rfl), (xj_sel (q := (⟨"ThreePhaseGroup$Board", "greatestClaimant", "(II)I"⟩, 8)) (List.mem_of_getElem? (i := 29) rfl))⟩
theorem mb_B_claimFor : xj_MB m_B_claimFor 2 := ⟨(xj_in3 (List.mem_of_getElem? (i := 7) rfl) rfl), (xj_in1 (List.mem_of_getElem? (i := 2) rfl) rfl), ⟨by decide +kernel, by decide +kernel⟩, by decide +kernel⟩
theorem mv_B_claimFor : xj_MV m_B_claimFor 2 := ⟨mb_B_claimFor, (xj_in3 (List.mem_of_getElem? (i := 6) rfl) rfl), (xj_sel (q := (⟨"ThreePhaseGroup$Board", "claimFor", "(II)I"⟩, 8)) (List.mem_of_getElem? (i := 30) rfl))⟩
theorem mb_B_backing : xj_MB m_B_backing 3 := ⟨(xj_in3 (List.mem_of_getElem? (i := 11) rfl) rfl), (xj_in1 (List.mem_of_getElem? (i := 2) rfl) rfl), ⟨by decide +kernel, by decide +kernel⟩, by decide +kernel⟩
theorem mv_B_backing : xj_MV m_B_backing 3 := ⟨mb_B_backing, (xj_in3 (List.mem_of_getElem? (i := 10) rfl) rfl), (xj_sel (q := (⟨"ThreePhaseGroup$Board", "backing", "(III)I"⟩, 8)) (List.mem_of_getElem? (i := 31) rfl))⟩
theorem mb_B_isPrepare : xj_MB m_B_isPrepare 3 := ⟨(xj_in3 (List.mem_of_getElem? (i := 16) rfl) rfl), (xj_in1 (List.mem_of_getElem? (i := 2) rfl) rfl), ⟨by decide +kernel, by decide +kernel⟩, by decide +kernel⟩
theorem mv_B_isPrepare : xj_MV m_B_isPrepare 3 := ⟨mb_B_isPrepare, (xj_in3 (List.mem_of_getElem? (i := 15) rfl) rfl), (xj_sel (q := (⟨"ThreePhaseGroup$Board", "isPrepare", "(III)Z"⟩, 8)) (List.mem_of_getElem? (i := 32) rfl))⟩
theorem mb_R_orderNext : xj_MB m_R_orderNext 0 := ⟨(xj_in3 (List.mem_of_getElem? (i := 20) rfl) rfl), (xj_in1 (List.mem_of_getElem? (i := 3) rfl) rfl), ⟨by decide +kernel, by decide +kernel⟩, by decide +kernel⟩
theorem mv_R_orderNext : xj_MV m_R_orderNext 0 := ⟨mb_R_orderNext, (xj_in3 (List.mem_of_getElem? (i := 19) rfl) rfl), (xj_sel (q := (⟨"ThreePhaseGroup$Replica", "orderNext", "()Z"⟩, 14)) (List.mem_of_getElem? (i := 33) rfl))⟩
theorem mb_R_leastUnordered : xj_MB m_R_leastUnordered 0 := ⟨(xj_in3 (List.mem_of_getElem? (i := 24) rfl) rfl), (xj_in1 (List.mem_of_getElem? (i := 3) rfl) rfl), ⟨by decide +kernel, by decide +kernel⟩, by decide +kernel⟩
theorem mv_R_leastUnordered : xj_MV m_R_leastUnordered 0 := ⟨mb_R_leastUnordered, (xj_in3 (List.mem_of_getElem? (i := 23) rfl) rfl), (xj_sel (q := (⟨"ThreePhaseGroup$Replica", "leastUnordered", "()I"⟩, 14)) (List.mem_of_getElem? (i := 34) rfl))⟩
theorem mb_R_isAccepted : xj_MB m_R_isAccepted 1 := ⟨(xj_in3 (List.mem_of_getElem? (i := 28) rfl) rfl), (xj_in1 (List.mem_of_getElem? (i := 3) rfl) rfl), ⟨by decide +kernel, by decide +kernel⟩, by decide +kernel⟩
theorem mv_R_isAccepted : xj_MV m_R_isAccepted 1 := ⟨mb_R_isAccepted, (xj_in3 (List.mem_of_getElem? (i := 27) rfl) rfl), (xj_sel (q := (⟨"ThreePhaseGroup$Replica", "isAccepted", "(I)Z"⟩, 14)) (List.mem_of_getElem? (i := 35) rfl))⟩
theorem mb_R_setTimer : xj_MB m_R_setTimer 0 := ⟨(xj_in3 (List.mem_of_getElem? (i := 32) rfl) rfl), (xj_in1 (List.mem_of_getElem? (i := 3) rfl) rfl), ⟨by decide +kernel, by decide +kernel⟩, by decide +kernel⟩
theorem mv_R_setTimer : xj_MV m_R_setTimer 0 := ⟨mb_R_setTimer, (xj_in3 (List.mem_of_getElem? (i := 31) rfl) rfl), (xj_sel (q := (⟨"ThreePhaseGroup$Replica", "setTimer", "()V"⟩, 14)) (List.mem_of_getElem? (i := 36) rfl))⟩
theorem mb_R_countWaiting : xj_MB m_R_countWaiting 0 := ⟨(xj_in3 (List.mem_of_getElem? (i := 36) rfl) rfl), (xj_in1 (List.mem_of_getElem? (i := 3) rfl) rfl), ⟨by decide +kernel, by decide +kernel⟩, by decide +kernel⟩
theorem mv_R_countWaiting : xj_MV m_R_countWaiting 0 := ⟨mb_R_countWaiting, (xj_in3 (List.mem_of_getElem? (i := 34) rfl) rfl), (xj_in3 (List.mem_of_getElem? (i := 35) rfl) rfl)⟩
theorem mb_B_judgeNew : xj_MB m_B_judgeNew 0 := ⟨(xj_in3 (List.mem_of_getElem? (i := 40) rfl) rfl), (xj_in1 (List.mem_of_getElem? (i := 2) rfl) rfl), ⟨by decide +kernel, by decide +kernel⟩, by decide +kernel⟩
theorem mv_B_judgeNew : xj_MV m_B_judgeNew 0 := ⟨mb_B_judgeNew, (xj_in3 (List.mem_of_getElem? (i := 38) rfl) rfl), (xj_in3 (List.mem_of_getElem? (i := 39) rfl) rfl)⟩
theorem mb_B_isValidViewChange : xj_MB m_B_isValidViewChange 1 := ⟨(xj_in3 (List.mem_of_getElem? (i := 44) rfl) rfl), (xj_in1 (List.mem_of_getElem? (i := 2) rfl) rfl), ⟨by decide +kernel, by decide +kernel⟩, by decide +kernel⟩
theorem mv_B_isValidViewChange : xj_MV m_B_isValidViewChange 1 := ⟨mb_B_isValidViewChange, (xj_in3 (List.mem_of_getElem? (i := 43) rfl) rfl), (xj_sel (q := (⟨"ThreePhaseGroup$Board", "isValidViewChange", "(I)Z"⟩, 8)) (List.mem_of_getElem? (i := 37) rfl))⟩
theorem mb_B_isChangedView : xj_MB m_B_isChangedView 1 := ⟨(xj_in3 (List.mem_of_getElem? (i := 47) rfl) rfl), (xj_in1 (List.mem_of_getElem? (i := 2) rfl) rfl), ⟨by decide +kernel, by decide +kernel⟩, by decide +kernel⟩
theorem ms_B_isChangedView : xj_MS m_B_isChangedView 1 := ⟨mb_B_isChangedView, (xj_in3 (List.mem_of_getElem? (i := 46) rfl) rfl)⟩
theorem mb_B_isValidNewView : xj_MB m_B_isValidNewView 1 := ⟨(xj_in3 (List.mem_of_getElem? (i := 52) rfl) rfl), (xj_in1 (List.mem_of_getElem? (i := 2) rfl) rfl), ⟨by decide +kernel, by decide +kernel⟩, by decide +kernel⟩
theorem mv_B_isValidNewView : xj_MV m_B_isValidNewView 1 := ⟨mb_B_isValidNewView, (xj_in3 (List.mem_of_getElem? (i := 51) rfl) rfl), (xj_sel (q := (⟨"ThreePhaseGroup$Board", "isValidNewView", "(I)Z"⟩, 8)) (List.mem_of_getElem? (i := 38) rfl))⟩
theorem mb_G_pump : xj_MB m_G_pump 2 := ⟨(xj_in3 (List.mem_of_getElem? (i := 57) rfl) rfl), (xj_in1 (List.mem_of_getElem? (i := 1) rfl) rfl), ⟨by decide +kernel, by decide +kernel⟩, by decide +kernel⟩
theorem mv_G_pump : xj_MV m_G_pump 2 := ⟨mb_G_pump, (xj_in3 (List.mem_of_getElem? (i := 55) rfl) rfl), (xj_in3 (List.mem_of_getElem? (i := 56) rfl) rfl)⟩
theorem mb_G_tick : xj_MB m_G_tick 1 := ⟨(xj_in3 (List.mem_of_getElem? (i := 61) rfl) rfl), (xj_in1 (List.mem_of_getElem? (i := 1) rfl) rfl), ⟨by decide +kernel, by decide +kernel⟩, by decide +kernel⟩
theorem mv_G_tick : xj_MV m_G_tick 1 := ⟨mb_G_tick, (xj_in3 (List.mem_of_getElem? (i := 59) rfl) rfl), (xj_in3 (List.mem_of_getElem? (i := 60) rfl) rfl)⟩
theorem mb_G_isReplica : xj_MB m_G_isReplica 1 := ⟨(xj_in3 (List.mem_of_getElem? (i := 64) rfl) rfl), (xj_in1 (List.mem_of_getElem? (i := 1) rfl) rfl), ⟨by decide +kernel, by decide +kernel⟩, by decide +kernel⟩
theorem ms_G_isReplica : xj_MS m_G_isReplica 1 := ⟨mb_G_isReplica, (xj_in3 (List.mem_of_getElem? (i := 63) rfl) rfl)⟩
theorem mb_R_stepClock : xj_MB m_R_stepClock 0 := ⟨(xj_in3 (List.mem_of_getElem? (i := 68) rfl) rfl), (xj_in1 (List.mem_of_getElem? (i := 3) rfl) rfl), ⟨by decide +kernel, by decide +kernel⟩, by decide +kernel⟩
theorem mv_R_stepClock : xj_MV m_R_stepClock 0 := ⟨mb_R_stepClock, (xj_in3 (List.mem_of_getElem? (i := 66) rfl) rfl), (xj_in3 (List.mem_of_getElem? (i := 67) rfl) rfl)⟩
theorem mb_G_corrupt : xj_MB m_G_corrupt 1 := ⟨(xj_in3 (List.mem_of_getElem? (i := 72) rfl) rfl), (xj_in1 (List.mem_of_getElem? (i := 1) rfl) rfl), ⟨by decide +kernel, by decide +kernel⟩, by decide +kernel⟩
theorem mv_G_corrupt : xj_MV m_G_corrupt 1 := ⟨mb_G_corrupt, (xj_in3 (List.mem_of_getElem? (i := 70) rfl) rfl), (xj_in3 (List.mem_of_getElem? (i := 71) rfl) rfl)⟩
theorem mb_G_forge : xj_MB m_G_forge 4 := ⟨(xj_in3 (List.mem_of_getElem? (i := 76) rfl) rfl), (xj_in1 (List.mem_of_getElem? (i := 1) rfl) rfl), ⟨by decide +kernel, by decide +kernel⟩, by decide +kernel⟩
theorem mv_G_forge : xj_MV m_G_forge 4 := ⟨mb_G_forge, (xj_in3 (List.mem_of_getElem? (i := 74) rfl) rfl), (xj_in3 (List.mem_of_getElem? (i := 75) rfl) rfl)⟩
theorem mb_G_postForged : xj_MB m_G_postForged 4 := ⟨(xj_in3 (List.mem_of_getElem? (i := 80) rfl) rfl), (xj_in1 (List.mem_of_getElem? (i := 1) rfl) rfl), ⟨by decide +kernel, by decide +kernel⟩, by decide +kernel⟩
theorem mv_G_postForged : xj_MV m_G_postForged 4 := ⟨mb_G_postForged, (xj_in3 (List.mem_of_getElem? (i := 79) rfl) rfl), (xj_sel (q := (⟨"ThreePhaseGroup", "postForged", "(IIJI)I"⟩, 5)) (List.mem_of_getElem? (i := 39) rfl))⟩
theorem mb_G_forgeCheckpoint : xj_MB m_G_forgeCheckpoint 2 := ⟨(xj_in3 (List.mem_of_getElem? (i := 84) rfl) rfl), (xj_in1 (List.mem_of_getElem? (i := 1) rfl) rfl), ⟨by decide +kernel, by decide +kernel⟩, by decide +kernel⟩
theorem mv_G_forgeCheckpoint : xj_MV m_G_forgeCheckpoint 2 := ⟨mb_G_forgeCheckpoint, (xj_in3 (List.mem_of_getElem? (i := 82) rfl) rfl), (xj_in3 (List.mem_of_getElem? (i := 83) rfl) rfl)⟩
theorem mb_G_messages : xj_MB m_G_messages 0 := ⟨(xj_in3 (List.mem_of_getElem? (i := 88) rfl) rfl), (xj_in1 (List.mem_of_getElem? (i := 1) rfl) rfl), ⟨by decide +kernel, by decide +kernel⟩, by decide +kernel⟩
theorem mv_G_messages : xj_MV m_G_messages 0 := ⟨mb_G_messages, (xj_in3 (List.mem_of_getElem? (i := 86) rfl) rfl), (xj_in3 (List.mem_of_getElem? (i := 87) rfl) rfl)⟩
theorem mb_G_look : xj_MB m_G_look 2 := ⟨(xj_in3 (List.mem_of_getElem? (i := 92) rfl) rfl), (xj_in1 (List.mem_of_getElem? (i := 1) rfl) rfl), ⟨by decide +kernel, by decide +kernel⟩, by decide +kernel⟩
theorem mv_G_look : xj_MV m_G_look 2 := ⟨mb_G_look, (xj_in3 (List.mem_of_getElem? (i := 90) rfl) rfl), (xj_in3 (List.mem_of_getElem? (i := 91) rfl) rfl)⟩
theorem mb_G_mark : xj_MB m_G_mark 1 := ⟨(xj_in3 (List.mem_of_getElem? (i := 97) rfl) rfl), (xj_in1 (List.mem_of_getElem? (i := 1) rfl) rfl), ⟨by decide +kernel, by decide +kernel⟩, by decide +kernel⟩
theorem mv_G_mark : xj_MV m_G_mark 1 := ⟨mb_G_mark, (xj_in3 (List.mem_of_getElem? (i := 95) rfl) rfl), (xj_in3 (List.mem_of_getElem? (i := 96) rfl) rfl)⟩
theorem mb_G_view : xj_MB m_G_view 1 := ⟨(xj_in3 (List.mem_of_getElem? (i := 101) rfl) rfl), (xj_in1 (List.mem_of_getElem? (i := 1) rfl) rfl), ⟨by decide +kernel, by decide +kernel⟩, by decide +kernel⟩
theorem mv_G_view : xj_MV m_G_view 1 := ⟨mb_G_view, (xj_in3 (List.mem_of_getElem? (i := 99) rfl) rfl), (xj_in3 (List.mem_of_getElem? (i := 100) rfl) rfl)⟩
theorem mb_G_executed : xj_MB m_G_executed 1 := ⟨(xj_in3 (List.mem_of_getElem? (i := 105) rfl) rfl), (xj_in1 (List.mem_of_getElem? (i := 1) rfl) rfl), ⟨by decide +kernel, by decide +kernel⟩, by decide +kernel⟩
theorem mv_G_executed : xj_MV m_G_executed 1 := ⟨mb_G_executed, (xj_in3 (List.mem_of_getElem? (i := 103) rfl) rfl), (xj_in3 (List.mem_of_getElem? (i := 104) rfl) rfl)⟩
theorem mb_G_stable : xj_MB m_G_stable 1 := ⟨(xj_in3 (List.mem_of_getElem? (i := 109) rfl) rfl), (xj_in1 (List.mem_of_getElem? (i := 1) rfl) rfl), ⟨by decide +kernel, by decide +kernel⟩, by decide +kernel⟩
theorem mv_G_stable : xj_MV m_G_stable 1 := ⟨mb_G_stable, (xj_in3 (List.mem_of_getElem? (i := 107) rfl) rfl), (xj_in3 (List.mem_of_getElem? (i := 108) rfl) rfl)⟩
theorem mb_G_state : xj_MB m_G_state 1 := ⟨(xj_in3 (List.mem_of_getElem? (i := 113) rfl) rfl), (xj_in1 (List.mem_of_getElem? (i := 1) rfl) rfl), ⟨by decide +kernel, by decide +kernel⟩, by decide +kernel⟩
theorem mv_G_state : xj_MV m_G_state 1 := ⟨mb_G_state, (xj_in3 (List.mem_of_getElem? (i := 111) rfl) rfl), (xj_in3 (List.mem_of_getElem? (i := 112) rfl) rfl)⟩
theorem mb_G_slot : xj_MB m_G_slot 2 := ⟨(xj_in3 (List.mem_of_getElem? (i := 117) rfl) rfl), (xj_in1 (List.mem_of_getElem? (i := 1) rfl) rfl), ⟨by decide +kernel, by decide +kernel⟩, by decide +kernel⟩
theorem mv_G_slot : xj_MV m_G_slot 2 := ⟨mb_G_slot, (xj_in3 (List.mem_of_getElem? (i := 115) rfl) rfl), (xj_in3 (List.mem_of_getElem? (i := 116) rfl) rfl)⟩
theorem mb_S_summary : xj_MB m_S_summary 1 := ⟨(xj_in3 (List.mem_of_getElem? (i := 123) rfl) rfl), (xj_in1 (List.mem_of_getElem? (i := 5) rfl) rfl), ⟨by decide +kernel, by decide +kernel⟩, by decide +kernel⟩
theorem mv_S_summary : xj_MV m_S_summary 1 := ⟨mb_S_summary, (xj_in3 (List.mem_of_getElem? (i := 121) rfl) rfl), (xj_in3 (List.mem_of_getElem? (i := 122) rfl) rfl)⟩
theorem mb_G_ordered : xj_MB m_G_ordered 2 := ⟨(xj_in3 (List.mem_of_getElem? (i := 129) rfl) rfl), (xj_in1 (List.mem_of_getElem? (i := 1) rfl) rfl), ⟨by decide +kernel, by decide +kernel⟩, by decide +kernel⟩
theorem mv_G_ordered : xj_MV m_G_ordered 2 := ⟨mb_G_ordered, (xj_in3 (List.mem_of_getElem? (i := 127) rfl) rfl), (xj_in3 (List.mem_of_getElem? (i := 128) rfl) rfl)⟩
theorem mb_G_timer : xj_MB m_G_timer 1 := ⟨(xj_in3 (List.mem_of_getElem? (i := 133) rfl) rfl), (xj_in1 (List.mem_of_getElem? (i := 1) rfl) rfl), ⟨by decide +kernel, by decide +kernel⟩, by decide +kernel⟩
theorem mv_G_timer : xj_MV m_G_timer 1 := ⟨mb_G_timer, (xj_in3 (List.mem_of_getElem? (i := 131) rfl) rfl), (xj_in3 (List.mem_of_getElem? (i := 132) rfl) rfl)⟩
theorem mb_G_waiting : xj_MB m_G_waiting 1 := ⟨(xj_in3 (List.mem_of_getElem? (i := 137) rfl) rfl), (xj_in1 (List.mem_of_getElem? (i := 1) rfl) rfl), ⟨by decide +kernel, by decide +kernel⟩, by decide +kernel⟩
theorem mv_G_waiting : xj_MV m_G_waiting 1 := ⟨mb_G_waiting, (xj_in3 (List.mem_of_getElem? (i := 135) rfl) rfl), (xj_in3 (List.mem_of_getElem? (i := 136) rfl) rfl)⟩
theorem mb_G_outstanding : xj_MB m_G_outstanding 1 := ⟨(xj_in3 (List.mem_of_getElem? (i := 142) rfl) rfl), (xj_in1 (List.mem_of_getElem? (i := 1) rfl) rfl), ⟨by decide +kernel, by decide +kernel⟩, by decide +kernel⟩
theorem mv_G_outstanding : xj_MV m_G_outstanding 1 := ⟨mb_G_outstanding, (xj_in3 (List.mem_of_getElem? (i := 140) rfl) rfl), (xj_in3 (List.mem_of_getElem? (i := 141) rfl) rfl)⟩
theorem mb_G_answer : xj_MB m_G_answer 1 := ⟨(xj_in3 (List.mem_of_getElem? (i := 146) rfl) rfl), (xj_in1 (List.mem_of_getElem? (i := 1) rfl) rfl), ⟨by decide +kernel, by decide +kernel⟩, by decide +kernel⟩
theorem mv_G_answer : xj_MV m_G_answer 1 := ⟨mb_G_answer, (xj_in3 (List.mem_of_getElem? (i := 144) rfl) rfl), (xj_in3 (List.mem_of_getElem? (i := 145) rfl) rfl)⟩
theorem mb_T_init : xj_MB m_T_init 0 := ⟨(xj_in3 (List.mem_of_getElem? (i := 151) rfl) rfl), (xj_in1 (List.mem_of_getElem? (i := 8) rfl) rfl), ⟨by decide +kernel, by decide +kernel⟩, by decide +kernel⟩
theorem mi_T_init : xj_MI m_T_init 0 := ⟨mb_T_init, rfl, (xj_in3 (List.mem_of_getElem? (i := 150) rfl) rfl)⟩
theorem mb_T_waiting : xj_MB m_T_waiting 1 := ⟨(xj_in3 (List.mem_of_getElem? (i := 238) rfl) rfl), (xj_in1 (List.mem_of_getElem? (i := 8) rfl) rfl), ⟨by decide +kernel, by decide +kernel⟩, by decide +kernel⟩
theorem mv_T_waiting : xj_MV m_T_waiting 1 := ⟨mb_T_waiting, (xj_in3 (List.mem_of_getElem? (i := 236) rfl) rfl), (xj_in3 (List.mem_of_getElem? (i := 237) rfl) rfl)⟩
theorem mb_T_outside : xj_MB m_T_outside 3 := ⟨(xj_in4 (List.mem_of_getElem? (i := 1) rfl) rfl), (xj_in1 (List.mem_of_getElem? (i := 8) rfl) rfl), ⟨by decide +kernel, by decide +kernel⟩, by decide +kernel⟩
theorem ms_T_outside : xj_MS m_T_outside 3 := ⟨mb_T_outside, (xj_in4 (List.mem_of_getElem? (i := 0) rfl) rfl)⟩
theorem mb_T_waits : xj_MB m_T_waits 2 := ⟨(xj_in4 (List.mem_of_getElem? (i := 5) rfl) rfl), (xj_in1 (List.mem_of_getElem? (i := 8) rfl) rfl), ⟨by decide +kernel, by decide +kernel⟩, by decide +kernel⟩
theorem mv_T_waits : xj_MV m_T_waits 2 := ⟨mb_T_waits, (xj_in4 (List.mem_of_getElem? (i := 4) rfl) rfl), (xj_sel (q := (⟨"ThreePhaseGroupModel", "waits", "(II)Z"⟩, 27)) (List.mem_of_getElem? (i := 40) rfl))⟩
theorem mb_T_submit : xj_MB m_T_submit 4 := ⟨(xj_in4 (List.mem_of_getElem? (i := 10) rfl) rfl), (xj_in1 (List.mem_of_getElem? (i := 8) rfl) rfl), ⟨by decide +kernel, by decide +kernel⟩, by decide +kernel⟩
theorem mv_T_submit : xj_MV m_T_submit 4 := ⟨mb_T_submit, (xj_in4 (List.mem_of_getElem? (i := 8) rfl) rfl), (xj_in4 (List.mem_of_getElem? (i := 9) rfl) rfl)⟩
theorem mb_T_send : xj_MB m_T_send 5 := ⟨(xj_in4 (List.mem_of_getElem? (i := 14) rfl) rfl), (xj_in1 (List.mem_of_getElem? (i := 8) rfl) rfl), ⟨by decide +kernel, by decide +kernel⟩, by decide +kernel⟩
theorem mv_T_send : xj_MV m_T_send 5 := ⟨mb_T_send, (xj_in4 (List.mem_of_getElem? (i := 13) rfl) rfl), (xj_sel (q := (⟨"ThreePhaseGroupModel", "send", "(IIIJI)I"⟩, 27)) (List.mem_of_getElem? (i := 41) rfl))⟩
theorem mb_T_deliver : xj_MB m_T_deliver 2 := ⟨(xj_in4 (List.mem_of_getElem? (i := 18) rfl) rfl), (xj_in1 (List.mem_of_getElem? (i := 8) rfl) rfl), ⟨by decide +kernel, by decide +kernel⟩, by decide +kernel⟩
theorem mv_T_deliver : xj_MV m_T_deliver 2 := ⟨mb_T_deliver, (xj_in4 (List.mem_of_getElem? (i := 16) rfl) rfl), (xj_in4 (List.mem_of_getElem? (i := 17) rfl) rfl)⟩
theorem mb_T_give : xj_MB m_T_give 2 := ⟨(xj_in4 (List.mem_of_getElem? (i := 22) rfl) rfl), (xj_in1 (List.mem_of_getElem? (i := 8) rfl) rfl), ⟨by decide +kernel, by decide +kernel⟩, by decide +kernel⟩
theorem mv_T_give : xj_MV m_T_give 2 := ⟨mb_T_give, (xj_in4 (List.mem_of_getElem? (i := 21) rfl) rfl), (xj_sel (q := (⟨"ThreePhaseGroupModel", "give", "(II)Z"⟩, 27)) (List.mem_of_getElem? (i := 42) rfl))⟩
theorem mb_T_answered : xj_MB m_T_answered 2 := ⟨(xj_in4 (List.mem_of_getElem? (i := 26) rfl) rfl), (xj_in1 (List.mem_of_getElem? (i := 8) rfl) rfl), ⟨by decide +kernel, by decide +kernel⟩, by decide +kernel⟩
theorem mv_T_answered : xj_MV m_T_answered 2 := ⟨mb_T_answered, (xj_in4 (List.mem_of_getElem? (i := 25) rfl) rfl), (xj_sel (q := (⟨"ThreePhaseGroupModel", "answered", "(II)Z"⟩, 27)) (List.mem_of_getElem? (i := 43) rfl))⟩
theorem mb_T_takes : xj_MB m_T_takes 2 := ⟨(xj_in4 (List.mem_of_getElem? (i := 30) rfl) rfl), (xj_in1 (List.mem_of_getElem? (i := 8) rfl) rfl), ⟨by decide +kernel, by decide +kernel⟩, by decide +kernel⟩
theorem mv_T_takes : xj_MV m_T_takes 2 := ⟨mb_T_takes, (xj_in4 (List.mem_of_getElem? (i := 29) rfl) rfl), (xj_sel (q := (⟨"ThreePhaseGroupModel", "takes", "(II)Z"⟩, 27)) (List.mem_of_getElem? (i := 44) rfl))⟩
theorem mb_T_window : xj_MB m_T_window 2 := ⟨(xj_in4 (List.mem_of_getElem? (i := 34) rfl) rfl), (xj_in1 (List.mem_of_getElem? (i := 8) rfl) rfl), ⟨by decide +kernel, by decide +kernel⟩, by decide +kernel⟩
theorem mv_T_window : xj_MV m_T_window 2 := ⟨mb_T_window, (xj_in4 (List.mem_of_getElem? (i := 33) rfl) rfl), (xj_sel (q := (⟨"ThreePhaseGroupModel", "window", "(IJ)Z"⟩, 27)) (List.mem_of_getElem? (i := 45) rfl))⟩
theorem mb_T_takesRequest : xj_MB m_T_takesRequest 2 := ⟨(xj_in4 (List.mem_of_getElem? (i := 38) rfl) rfl), (xj_in1 (List.mem_of_getElem? (i := 8) rfl) rfl), ⟨by decide +kernel, by decide +kernel⟩, by decide +kernel⟩
theorem mv_T_takesRequest : xj_MV m_T_takesRequest 2 := ⟨mb_T_takesRequest, (xj_in4 (List.mem_of_getElem? (i := 37) rfl) rfl), (xj_sel (q := (⟨"ThreePhaseGroupModel", "takesRequest", "(II)Z"⟩, 27)) (List.mem_of_getElem? (i := 46) rfl))⟩
theorem mb_T_takesOrder : xj_MB m_T_takesOrder 2 := ⟨(xj_in4 (List.mem_of_getElem? (i := 42) rfl) rfl), (xj_in1 (List.mem_of_getElem? (i := 8) rfl) rfl), ⟨by decide +kernel, by decide +kernel⟩, by decide +kernel⟩
theorem mv_T_takesOrder : xj_MV m_T_takesOrder 2 := ⟨mb_T_takesOrder, (xj_in4 (List.mem_of_getElem? (i := 41) rfl) rfl), (xj_sel (q := (⟨"ThreePhaseGroupModel", "takesOrder", "(II)Z"⟩, 27)) (List.mem_of_getElem? (i := 47) rfl))⟩
theorem mb_T_notes : xj_MB m_T_notes 5 := ⟨(xj_in4 (List.mem_of_getElem? (i := 46) rfl) rfl), (xj_in1 (List.mem_of_getElem? (i := 8) rfl) rfl), ⟨by decide +kernel, by decide +kernel⟩, by decide +kernel⟩
theorem mv_T_notes : xj_MV m_T_notes 5 := ⟨mb_T_notes, (xj_in4 (List.mem_of_getElem? (i := 45) rfl) rfl), (xj_sel (q := (⟨"ThreePhaseGroupModel", "notes", "(IIIIJ)Z"⟩, 27)) (List.mem_of_getElem? (i := 48) rfl))⟩
theorem mb_T_goodChange : xj_MB m_T_goodChange 1 := ⟨(xj_in4 (List.mem_of_getElem? (i := 50) rfl) rfl), (xj_in1 (List.mem_of_getElem? (i := 8) rfl) rfl), ⟨by decide +kernel, by decide +kernel⟩, by decide +kernel⟩
theorem mv_T_goodChange : xj_MV m_T_goodChange 1 := ⟨mb_T_goodChange, (xj_in4 (List.mem_of_getElem? (i := 49) rfl) rfl), (xj_sel (q := (⟨"ThreePhaseGroupModel", "goodChange", "(I)Z"⟩, 27)) (List.mem_of_getElem? (i := 49) rfl))⟩
theorem mb_T_proof : xj_MB m_T_proof 2 := ⟨(xj_in4 (List.mem_of_getElem? (i := 54) rfl) rfl), (xj_in1 (List.mem_of_getElem? (i := 8) rfl) rfl), ⟨by decide +kernel, by decide +kernel⟩, by decide +kernel⟩
theorem mv_T_proof : xj_MV m_T_proof 2 := ⟨mb_T_proof, (xj_in4 (List.mem_of_getElem? (i := 53) rfl) rfl), (xj_sel (q := (⟨"ThreePhaseGroupModel", "proof", "(JI)I"⟩, 27)) (List.mem_of_getElem? (i := 50) rfl))⟩
theorem mb_T_senders : xj_MB m_T_senders 6 := ⟨(xj_in4 (List.mem_of_getElem? (i := 58) rfl) rfl), (xj_in1 (List.mem_of_getElem? (i := 8) rfl) rfl), ⟨by decide +kernel, by decide +kernel⟩, by decide +kernel⟩
theorem mv_T_senders : xj_MV m_T_senders 6 := ⟨mb_T_senders, (xj_in4 (List.mem_of_getElem? (i := 57) rfl) rfl), (xj_sel (q := (⟨"ThreePhaseGroupModel", "senders", "(IIIJII)I"⟩, 27)) (List.mem_of_getElem? (i := 51) rfl))⟩
theorem mb_T_backing : xj_MB m_T_backing 3 := ⟨(xj_in4 (List.mem_of_getElem? (i := 62) rfl) rfl), (xj_in1 (List.mem_of_getElem? (i := 8) rfl) rfl), ⟨by decide +kernel, by decide +kernel⟩, by decide +kernel⟩
theorem mv_T_backing : xj_MV m_T_backing 3 := ⟨mb_T_backing, (xj_in4 (List.mem_of_getElem? (i := 61) rfl) rfl), (xj_sel (q := (⟨"ThreePhaseGroupModel", "backing", "(IJI)I"⟩, 27)) (List.mem_of_getElem? (i := 52) rfl))⟩
theorem mb_T_takesChange : xj_MB m_T_takesChange 2 := ⟨(xj_in4 (List.mem_of_getElem? (i := 66) rfl) rfl), (xj_in1 (List.mem_of_getElem? (i := 8) rfl) rfl), ⟨by decide +kernel, by decide +kernel⟩, by decide +kernel⟩
theorem mv_T_takesChange : xj_MV m_T_takesChange 2 := ⟨mb_T_takesChange, (xj_in4 (List.mem_of_getElem? (i := 65) rfl) rfl), (xj_sel (q := (⟨"ThreePhaseGroupModel", "takesChange", "(II)Z"⟩, 27)) (List.mem_of_getElem? (i := 53) rfl))⟩
theorem mb_T_goodNew : xj_MB m_T_goodNew 1 := ⟨(xj_in4 (List.mem_of_getElem? (i := 70) rfl) rfl), (xj_in1 (List.mem_of_getElem? (i := 8) rfl) rfl), ⟨by decide +kernel, by decide +kernel⟩, by decide +kernel⟩
theorem mv_T_goodNew : xj_MV m_T_goodNew 1 := ⟨mb_T_goodNew, (xj_in4 (List.mem_of_getElem? (i := 69) rfl) rfl), (xj_sel (q := (⟨"ThreePhaseGroupModel", "goodNew", "(I)Z"⟩, 27)) (List.mem_of_getElem? (i := 54) rfl))⟩
theorem mb_T_vote : xj_MB m_T_vote 2 := ⟨(xj_in4 (List.mem_of_getElem? (i := 75) rfl) rfl), (xj_in1 (List.mem_of_getElem? (i := 8) rfl) rfl), ⟨by decide +kernel, by decide +kernel⟩, by decide +kernel⟩
theorem mv_T_vote : xj_MV m_T_vote 2 := ⟨mb_T_vote, (xj_in4 (List.mem_of_getElem? (i := 74) rfl) rfl), (xj_sel (q := (⟨"ThreePhaseGroupModel", "vote", "(II)I"⟩, 27)) (List.mem_of_getElem? (i := 55) rfl))⟩
theorem mb_T_orders : xj_MB m_T_orders 1 := ⟨(xj_in4 (List.mem_of_getElem? (i := 79) rfl) rfl), (xj_in1 (List.mem_of_getElem? (i := 8) rfl) rfl), ⟨by decide +kernel, by decide +kernel⟩, by decide +kernel⟩
theorem mv_T_orders : xj_MV m_T_orders 1 := ⟨mb_T_orders, (xj_in4 (List.mem_of_getElem? (i := 78) rfl) rfl), (xj_sel (q := (⟨"ThreePhaseGroupModel", "orders", "(I)I"⟩, 27)) (List.mem_of_getElem? (i := 56) rfl))⟩
theorem mb_T_start : xj_MB m_T_start 1 := ⟨(xj_in4 (List.mem_of_getElem? (i := 83) rfl) rfl), (xj_in1 (List.mem_of_getElem? (i := 8) rfl) rfl), ⟨by decide +kernel, by decide +kernel⟩, by decide +kernel⟩
theorem mv_T_start : xj_MV m_T_start 1 := ⟨mb_T_start, (xj_in4 (List.mem_of_getElem? (i := 82) rfl) rfl), (xj_sel (q := (⟨"ThreePhaseGroupModel", "start", "(I)I"⟩, 27)) (List.mem_of_getElem? (i := 57) rfl))⟩
theorem mb_T_claim : xj_MB m_T_claim 2 := ⟨(xj_in4 (List.mem_of_getElem? (i := 87) rfl) rfl), (xj_in1 (List.mem_of_getElem? (i := 8) rfl) rfl), ⟨by decide +kernel, by decide +kernel⟩, by decide +kernel⟩
theorem mv_T_claim : xj_MV m_T_claim 2 := ⟨mb_T_claim, (xj_in4 (List.mem_of_getElem? (i := 86) rfl) rfl), (xj_sel (q := (⟨"ThreePhaseGroupModel", "claim", "(II)I"⟩, 27)) (List.mem_of_getElem? (i := 58) rfl))⟩
theorem mb_T_enters : xj_MB m_T_enters 2 := ⟨(xj_in4 (List.mem_of_getElem? (i := 92) rfl) rfl), (xj_in1 (List.mem_of_getElem? (i := 8) rfl) rfl), ⟨by decide +kernel, by decide +kernel⟩, by decide +kernel⟩
theorem mv_T_enters : xj_MV m_T_enters 2 := ⟨mb_T_enters, (xj_in4 (List.mem_of_getElem? (i := 91) rfl) rfl), (xj_sel (q := (⟨"ThreePhaseGroupModel", "enters", "(II)Z"⟩, 27)) (List.mem_of_getElem? (i := 59) rfl))⟩
theorem mb_T_dropAccepted : xj_MB m_T_dropAccepted 1 := ⟨(xj_in4 (List.mem_of_getElem? (i := 96) rfl) rfl), (xj_in1 (List.mem_of_getElem? (i := 8) rfl) rfl), ⟨by decide +kernel, by decide +kernel⟩, by decide +kernel⟩
theorem mv_T_dropAccepted : xj_MV m_T_dropAccepted 1 := ⟨mb_T_dropAccepted, (xj_in4 (List.mem_of_getElem? (i := 95) rfl) rfl), (xj_sel (q := (⟨"ThreePhaseGroupModel", "dropAccepted", "(I)V"⟩, 27)) (List.mem_of_getElem? (i := 60) rfl))⟩
theorem mb_T_settles : xj_MB m_T_settles 3 := ⟨(xj_in4 (List.mem_of_getElem? (i := 100) rfl) rfl), (xj_in1 (List.mem_of_getElem? (i := 8) rfl) rfl), ⟨by decide +kernel, by decide +kernel⟩, by decide +kernel⟩
theorem mv_T_settles : xj_MV m_T_settles 3 := ⟨mb_T_settles, (xj_in4 (List.mem_of_getElem? (i := 99) rfl) rfl), (xj_sel (q := (⟨"ThreePhaseGroupModel", "settles", "(IIJ)V"⟩, 27)) (List.mem_of_getElem? (i := 61) rfl))⟩
theorem mb_T_rules : xj_MB m_T_rules 1 := ⟨(xj_in4 (List.mem_of_getElem? (i := 104) rfl) rfl), (xj_in1 (List.mem_of_getElem? (i := 8) rfl) rfl), ⟨by decide +kernel, by decide +kernel⟩, by decide +kernel⟩
theorem mv_T_rules : xj_MV m_T_rules 1 := ⟨mb_T_rules, (xj_in4 (List.mem_of_getElem? (i := 103) rfl) rfl), (xj_sel (q := (⟨"ThreePhaseGroupModel", "rules", "(I)V"⟩, 27)) (List.mem_of_getElem? (i := 62) rfl))⟩
theorem mb_T_phases : xj_MB m_T_phases 1 := ⟨(xj_in4 (List.mem_of_getElem? (i := 108) rfl) rfl), (xj_in1 (List.mem_of_getElem? (i := 8) rfl) rfl), ⟨by decide +kernel, by decide +kernel⟩, by decide +kernel⟩
theorem mv_T_phases : xj_MV m_T_phases 1 := ⟨mb_T_phases, (xj_in4 (List.mem_of_getElem? (i := 107) rfl) rfl), (xj_sel (q := (⟨"ThreePhaseGroupModel", "phases", "(I)Z"⟩, 27)) (List.mem_of_getElem? (i := 63) rfl))⟩
theorem mb_T_phase : xj_MB m_T_phase 4 := ⟨(xj_in4 (List.mem_of_getElem? (i := 112) rfl) rfl), (xj_in1 (List.mem_of_getElem? (i := 8) rfl) rfl), ⟨by decide +kernel, by decide +kernel⟩, by decide +kernel⟩
theorem mv_T_phase : xj_MV m_T_phase 4 := ⟨mb_T_phase, (xj_in4 (List.mem_of_getElem? (i := 111) rfl) rfl), (xj_sel (q := (⟨"ThreePhaseGroupModel", "phase", "(IIII)Z"⟩, 27)) (List.mem_of_getElem? (i := 64) rfl))⟩
theorem mb_T_sent : xj_MB m_T_sent 3 := ⟨(xj_in4 (List.mem_of_getElem? (i := 116) rfl) rfl), (xj_in1 (List.mem_of_getElem? (i := 8) rfl) rfl), ⟨by decide +kernel, by decide +kernel⟩, by decide +kernel⟩
theorem mv_T_sent : xj_MV m_T_sent 3 := ⟨mb_T_sent, (xj_in4 (List.mem_of_getElem? (i := 115) rfl) rfl), (xj_sel (q := (⟨"ThreePhaseGroupModel", "sent", "(III)Z"⟩, 27)) (List.mem_of_getElem? (i := 65) rfl))⟩
theorem mb_T_heard : xj_MB m_T_heard 5 := ⟨(xj_in4 (List.mem_of_getElem? (i := 120) rfl) rfl), (xj_in1 (List.mem_of_getElem? (i := 8) rfl) rfl), ⟨by decide +kernel, by decide +kernel⟩, by decide +kernel⟩
theorem mv_T_heard : xj_MV m_T_heard 5 := ⟨mb_T_heard, (xj_in4 (List.mem_of_getElem? (i := 119) rfl) rfl), (xj_sel (q := (⟨"ThreePhaseGroupModel", "heard", "(IIIJI)I"⟩, 27)) (List.mem_of_getElem? (i := 66) rfl))⟩
theorem mb_T_executes : xj_MB m_T_executes 1 := ⟨(xj_in4 (List.mem_of_getElem? (i := 124) rfl) rfl), (xj_in1 (List.mem_of_getElem? (i := 8) rfl) rfl), ⟨by decide +kernel, by decide +kernel⟩, by decide +kernel⟩
theorem mv_T_executes : xj_MV m_T_executes 1 := ⟨mb_T_executes, (xj_in4 (List.mem_of_getElem? (i := 123) rfl) rfl), (xj_sel (q := (⟨"ThreePhaseGroupModel", "executes", "(I)Z"⟩, 27)) (List.mem_of_getElem? (i := 67) rfl))⟩
theorem mb_T_serves : xj_MB m_T_serves 2 := ⟨(xj_in4 (List.mem_of_getElem? (i := 128) rfl) rfl), (xj_in1 (List.mem_of_getElem? (i := 8) rfl) rfl), ⟨by decide +kernel, by decide +kernel⟩, by decide +kernel⟩
theorem mv_T_serves : xj_MV m_T_serves 2 := ⟨mb_T_serves, (xj_in4 (List.mem_of_getElem? (i := 127) rfl) rfl), (xj_sel (q := (⟨"ThreePhaseGroupModel", "serves", "(II)V"⟩, 27)) (List.mem_of_getElem? (i := 68) rfl))⟩
theorem mb_T_truncates : xj_MB m_T_truncates 1 := ⟨(xj_in4 (List.mem_of_getElem? (i := 136) rfl) rfl), (xj_in1 (List.mem_of_getElem? (i := 8) rfl) rfl), ⟨by decide +kernel, by decide +kernel⟩, by decide +kernel⟩
theorem mv_T_truncates : xj_MV m_T_truncates 1 := ⟨mb_T_truncates, (xj_in4 (List.mem_of_getElem? (i := 135) rfl) rfl), (xj_sel (q := (⟨"ThreePhaseGroupModel", "truncates", "(I)Z"⟩, 27)) (List.mem_of_getElem? (i := 69) rfl))⟩
theorem mb_T_joins : xj_MB m_T_joins 1 := ⟨(xj_in4 (List.mem_of_getElem? (i := 140) rfl) rfl), (xj_in1 (List.mem_of_getElem? (i := 8) rfl) rfl), ⟨by decide +kernel, by decide +kernel⟩, by decide +kernel⟩
theorem mv_T_joins : xj_MV m_T_joins 1 := ⟨mb_T_joins, (xj_in4 (List.mem_of_getElem? (i := 139) rfl) rfl), (xj_sel (q := (⟨"ThreePhaseGroupModel", "joins", "(I)Z"⟩, 27)) (List.mem_of_getElem? (i := 70) rfl))⟩
theorem mb_T_begins : xj_MB m_T_begins 2 := ⟨(xj_in4 (List.mem_of_getElem? (i := 144) rfl) rfl), (xj_in1 (List.mem_of_getElem? (i := 8) rfl) rfl), ⟨by decide +kernel, by decide +kernel⟩, by decide +kernel⟩
theorem mv_T_begins : xj_MV m_T_begins 2 := ⟨mb_T_begins, (xj_in4 (List.mem_of_getElem? (i := 143) rfl) rfl), (xj_sel (q := (⟨"ThreePhaseGroupModel", "begins", "(II)V"⟩, 27)) (List.mem_of_getElem? (i := 71) rfl))⟩
theorem mb_T_opens : xj_MB m_T_opens 1 := ⟨(xj_in4 (List.mem_of_getElem? (i := 148) rfl) rfl), (xj_in1 (List.mem_of_getElem? (i := 8) rfl) rfl), ⟨by decide +kernel, by decide +kernel⟩, by decide +kernel⟩
theorem mv_T_opens : xj_MV m_T_opens 1 := ⟨mb_T_opens, (xj_in4 (List.mem_of_getElem? (i := 147) rfl) rfl), (xj_sel (q := (⟨"ThreePhaseGroupModel", "opens", "(I)Z"⟩, 27)) (List.mem_of_getElem? (i := 72) rfl))⟩
theorem mb_T_proposes : xj_MB m_T_proposes 1 := ⟨(xj_in4 (List.mem_of_getElem? (i := 152) rfl) rfl), (xj_in1 (List.mem_of_getElem? (i := 8) rfl) rfl), ⟨by decide +kernel, by decide +kernel⟩, by decide +kernel⟩
theorem mv_T_proposes : xj_MV m_T_proposes 1 := ⟨mb_T_proposes, (xj_in4 (List.mem_of_getElem? (i := 151) rfl) rfl), (xj_sel (q := (⟨"ThreePhaseGroupModel", "proposes", "(I)Z"⟩, 27)) (List.mem_of_getElem? (i := 73) rfl))⟩
theorem mb_T_pump : xj_MB m_T_pump 2 := ⟨(xj_in4 (List.mem_of_getElem? (i := 157) rfl) rfl), (xj_in1 (List.mem_of_getElem? (i := 8) rfl) rfl), ⟨by decide +kernel, by decide +kernel⟩, by decide +kernel⟩
theorem mv_T_pump : xj_MV m_T_pump 2 := ⟨mb_T_pump, (xj_in4 (List.mem_of_getElem? (i := 155) rfl) rfl), (xj_in4 (List.mem_of_getElem? (i := 156) rfl) rfl)⟩
theorem mb_T_tick : xj_MB m_T_tick 1 := ⟨(xj_in4 (List.mem_of_getElem? (i := 161) rfl) rfl), (xj_in1 (List.mem_of_getElem? (i := 8) rfl) rfl), ⟨by decide +kernel, by decide +kernel⟩, by decide +kernel⟩
theorem mv_T_tick : xj_MV m_T_tick 1 := ⟨mb_T_tick, (xj_in4 (List.mem_of_getElem? (i := 159) rfl) rfl), (xj_in4 (List.mem_of_getElem? (i := 160) rfl) rfl)⟩
theorem mb_T_corrupt : xj_MB m_T_corrupt 1 := ⟨(xj_in4 (List.mem_of_getElem? (i := 165) rfl) rfl), (xj_in1 (List.mem_of_getElem? (i := 8) rfl) rfl), ⟨by decide +kernel, by decide +kernel⟩, by decide +kernel⟩
theorem mv_T_corrupt : xj_MV m_T_corrupt 1 := ⟨mb_T_corrupt, (xj_in4 (List.mem_of_getElem? (i := 163) rfl) rfl), (xj_in4 (List.mem_of_getElem? (i := 164) rfl) rfl)⟩
theorem mb_T_forge : xj_MB m_T_forge 4 := ⟨(xj_in4 (List.mem_of_getElem? (i := 169) rfl) rfl), (xj_in1 (List.mem_of_getElem? (i := 8) rfl) rfl), ⟨by decide +kernel, by decide +kernel⟩, by decide +kernel⟩
theorem mv_T_forge : xj_MV m_T_forge 4 := ⟨mb_T_forge, (xj_in4 (List.mem_of_getElem? (i := 167) rfl) rfl), (xj_in4 (List.mem_of_getElem? (i := 168) rfl) rfl)⟩
theorem mb_T_forgeOne : xj_MB m_T_forgeOne 4 := ⟨(xj_in4 (List.mem_of_getElem? (i := 173) rfl) rfl), (xj_in1 (List.mem_of_getElem? (i := 8) rfl) rfl), ⟨by decide +kernel, by decide +kernel⟩, by decide +kernel⟩
theorem mv_T_forgeOne : xj_MV m_T_forgeOne 4 := ⟨mb_T_forgeOne, (xj_in4 (List.mem_of_getElem? (i := 172) rfl) rfl), (xj_sel (q := (⟨"ThreePhaseGroupModel", "forgeOne", "(IIJI)I"⟩, 27)) (List.mem_of_getElem? (i := 74) rfl))⟩
theorem mb_T_forgeCheckpoint : xj_MB m_T_forgeCheckpoint 2 := ⟨(xj_in4 (List.mem_of_getElem? (i := 177) rfl) rfl), (xj_in1 (List.mem_of_getElem? (i := 8) rfl) rfl), ⟨by decide +kernel, by decide +kernel⟩, by decide +kernel⟩
theorem mv_T_forgeCheckpoint : xj_MV m_T_forgeCheckpoint 2 := ⟨mb_T_forgeCheckpoint, (xj_in4 (List.mem_of_getElem? (i := 175) rfl) rfl), (xj_in4 (List.mem_of_getElem? (i := 176) rfl) rfl)⟩
theorem mb_T_messages : xj_MB m_T_messages 0 := ⟨(xj_in4 (List.mem_of_getElem? (i := 181) rfl) rfl), (xj_in1 (List.mem_of_getElem? (i := 8) rfl) rfl), ⟨by decide +kernel, by decide +kernel⟩, by decide +kernel⟩
theorem mv_T_messages : xj_MV m_T_messages 0 := ⟨mb_T_messages, (xj_in4 (List.mem_of_getElem? (i := 179) rfl) rfl), (xj_in4 (List.mem_of_getElem? (i := 180) rfl) rfl)⟩
theorem mb_T_look : xj_MB m_T_look 2 := ⟨(xj_in4 (List.mem_of_getElem? (i := 185) rfl) rfl), (xj_in1 (List.mem_of_getElem? (i := 8) rfl) rfl), ⟨by decide +kernel, by decide +kernel⟩, by decide +kernel⟩
theorem mv_T_look : xj_MV m_T_look 2 := ⟨mb_T_look, (xj_in4 (List.mem_of_getElem? (i := 183) rfl) rfl), (xj_in4 (List.mem_of_getElem? (i := 184) rfl) rfl)⟩
theorem mb_T_mark : xj_MB m_T_mark 1 := ⟨(xj_in4 (List.mem_of_getElem? (i := 189) rfl) rfl), (xj_in1 (List.mem_of_getElem? (i := 8) rfl) rfl), ⟨by decide +kernel, by decide +kernel⟩, by decide +kernel⟩
theorem mv_T_mark : xj_MV m_T_mark 1 := ⟨mb_T_mark, (xj_in4 (List.mem_of_getElem? (i := 187) rfl) rfl), (xj_in4 (List.mem_of_getElem? (i := 188) rfl) rfl)⟩
theorem mb_T_view : xj_MB m_T_view 1 := ⟨(xj_in4 (List.mem_of_getElem? (i := 193) rfl) rfl), (xj_in1 (List.mem_of_getElem? (i := 8) rfl) rfl), ⟨by decide +kernel, by decide +kernel⟩, by decide +kernel⟩
theorem mv_T_view : xj_MV m_T_view 1 := ⟨mb_T_view, (xj_in4 (List.mem_of_getElem? (i := 191) rfl) rfl), (xj_in4 (List.mem_of_getElem? (i := 192) rfl) rfl)⟩
theorem mb_T_executed : xj_MB m_T_executed 1 := ⟨(xj_in4 (List.mem_of_getElem? (i := 197) rfl) rfl), (xj_in1 (List.mem_of_getElem? (i := 8) rfl) rfl), ⟨by decide +kernel, by decide +kernel⟩, by decide +kernel⟩
theorem mv_T_executed : xj_MV m_T_executed 1 := ⟨mb_T_executed, (xj_in4 (List.mem_of_getElem? (i := 195) rfl) rfl), (xj_in4 (List.mem_of_getElem? (i := 196) rfl) rfl)⟩
theorem mb_T_stable : xj_MB m_T_stable 1 := ⟨(xj_in4 (List.mem_of_getElem? (i := 201) rfl) rfl), (xj_in1 (List.mem_of_getElem? (i := 8) rfl) rfl), ⟨by decide +kernel, by decide +kernel⟩, by decide +kernel⟩
theorem mv_T_stable : xj_MV m_T_stable 1 := ⟨mb_T_stable, (xj_in4 (List.mem_of_getElem? (i := 199) rfl) rfl), (xj_in4 (List.mem_of_getElem? (i := 200) rfl) rfl)⟩
theorem mb_T_state : xj_MB m_T_state 1 := ⟨(xj_in4 (List.mem_of_getElem? (i := 205) rfl) rfl), (xj_in1 (List.mem_of_getElem? (i := 8) rfl) rfl), ⟨by decide +kernel, by decide +kernel⟩, by decide +kernel⟩
theorem mv_T_state : xj_MV m_T_state 1 := ⟨mb_T_state, (xj_in4 (List.mem_of_getElem? (i := 203) rfl) rfl), (xj_in4 (List.mem_of_getElem? (i := 204) rfl) rfl)⟩
theorem mb_T_slot : xj_MB m_T_slot 2 := ⟨(xj_in4 (List.mem_of_getElem? (i := 209) rfl) rfl), (xj_in1 (List.mem_of_getElem? (i := 8) rfl) rfl), ⟨by decide +kernel, by decide +kernel⟩, by decide +kernel⟩
theorem mv_T_slot : xj_MV m_T_slot 2 := ⟨mb_T_slot, (xj_in4 (List.mem_of_getElem? (i := 207) rfl) rfl), (xj_in4 (List.mem_of_getElem? (i := 208) rfl) rfl)⟩
theorem mb_T_ordered : xj_MB m_T_ordered 2 := ⟨(xj_in4 (List.mem_of_getElem? (i := 213) rfl) rfl), (xj_in1 (List.mem_of_getElem? (i := 8) rfl) rfl), ⟨by decide +kernel, by decide +kernel⟩, by decide +kernel⟩
theorem mv_T_ordered : xj_MV m_T_ordered 2 := ⟨mb_T_ordered, (xj_in4 (List.mem_of_getElem? (i := 211) rfl) rfl), (xj_in4 (List.mem_of_getElem? (i := 212) rfl) rfl)⟩
theorem mb_T_timer : xj_MB m_T_timer 1 := ⟨(xj_in4 (List.mem_of_getElem? (i := 217) rfl) rfl), (xj_in1 (List.mem_of_getElem? (i := 8) rfl) rfl), ⟨by decide +kernel, by decide +kernel⟩, by decide +kernel⟩
theorem mv_T_timer : xj_MV m_T_timer 1 := ⟨mb_T_timer, (xj_in4 (List.mem_of_getElem? (i := 215) rfl) rfl), (xj_in4 (List.mem_of_getElem? (i := 216) rfl) rfl)⟩
theorem mb_T_outstanding : xj_MB m_T_outstanding 1 := ⟨(xj_in4 (List.mem_of_getElem? (i := 221) rfl) rfl), (xj_in1 (List.mem_of_getElem? (i := 8) rfl) rfl), ⟨by decide +kernel, by decide +kernel⟩, by decide +kernel⟩
theorem mv_T_outstanding : xj_MV m_T_outstanding 1 := ⟨mb_T_outstanding, (xj_in4 (List.mem_of_getElem? (i := 219) rfl) rfl), (xj_in4 (List.mem_of_getElem? (i := 220) rfl) rfl)⟩
theorem mb_T_answer : xj_MB m_T_answer 1 := ⟨(xj_in4 (List.mem_of_getElem? (i := 225) rfl) rfl), (xj_in1 (List.mem_of_getElem? (i := 8) rfl) rfl), ⟨by decide +kernel, by decide +kernel⟩, by decide +kernel⟩
theorem mv_T_answer : xj_MV m_T_answer 1 := ⟨mb_T_answer, (xj_in4 (List.mem_of_getElem? (i := 223) rfl) rfl), (xj_in4 (List.mem_of_getElem? (i := 224) rfl) rfl)⟩
theorem nw_L : Cond.initialized "ThreePhaseGroupLaw" ∈ xj_GW := (xj_in1 (List.mem_of_getElem? (i := 0) rfl) rfl)
theorem nw_G : Cond.initialized "ThreePhaseGroup" ∈ xj_GW := (xj_in1 (List.mem_of_getElem? (i := 1) rfl) rfl)
theorem nw_B : Cond.initialized "ThreePhaseGroup$Board" ∈ xj_GW := (xj_in1 (List.mem_of_getElem? (i := 2) rfl) rfl)
theorem nw_R : Cond.initialized "ThreePhaseGroup$Replica" ∈ xj_GW := (xj_in1 (List.mem_of_getElem? (i := 3) rfl) rfl)
theorem nw_N : Cond.initialized "ThreePhaseGroup$Numbers" ∈ xj_GW := (xj_in1 (List.mem_of_getElem? (i := 4) rfl) rfl)
theorem nw_S : Cond.initialized "ThreePhaseGroup$Slot" ∈ xj_GW := (xj_in1 (List.mem_of_getElem? (i := 5) rfl) rfl)
theorem nw_JA : Cond.initialized "java/util/Arrays" ∈ xj_GW := (xj_in1 (List.mem_of_getElem? (i := 6) rfl) rfl)
theorem nw_C : Cond.initialized "ThreePhaseGroup$Client" ∈ xj_GW := (xj_in1 (List.mem_of_getElem? (i := 7) rfl) rfl)
theorem nw_T : Cond.initialized "ThreePhaseGroupModel" ∈ xj_GW := (xj_in1 (List.mem_of_getElem? (i := 8) rfl) rfl)
theorem nw_V : Cond.initialized "ThreePhaseGroup$Service" ∈ xj_GW := (xj_in1 (List.mem_of_getElem? (i := 9) rfl) rfl)
theorem nw_JM : Cond.initialized "java/lang/Math" ∈ xj_GW := (xj_in1 (List.mem_of_getElem? (i := 10) rfl) rfl)
theorem nw_JI : Cond.initialized "java/lang/Integer" ∈ xj_GW := (xj_in1 (List.mem_of_getElem? (i := 11) rfl) rfl)
theorem cw_L_7 : Cond.classLink "ThreePhaseGroupLaw" 7 "ThreePhaseGroup" ∈ xj_GW := (xj_in1 (List.mem_of_getElem? (i := 12) rfl) rfl)
theorem iw_G : Cond.instantiable "ThreePhaseGroup" 5 ∈ xj_GW := (xj_in1 (List.mem_of_getElem? (i := 13) rfl) rfl)
theorem lk_L_9 : xj_LK "ThreePhaseGroupLaw" 9 m_G_init.1 := Or.inl (xj_in1 (List.mem_of_getElem? (i := 14) rfl) rfl)
theorem lk_G_3 : xj_LK "ThreePhaseGroup" 3 m_JO_init.1 := Or.inl (xj_in1 (List.mem_of_getElem? (i := 17) rfl) rfl)
theorem cw_G_9 : Cond.classLink "ThreePhaseGroup" 9 "ThreePhaseGroup$Board" ∈ xj_GW := (xj_in1 (List.mem_of_getElem? (i := 20) rfl) rfl)
theorem iw_B : Cond.instantiable "ThreePhaseGroup$Board" 8 ∈ xj_GW := (xj_in1 (List.mem_of_getElem? (i := 21) rfl) rfl)
theorem lk_G_11 : xj_LK "ThreePhaseGroup" 11 m_B_init.1 := Or.inr ⟨_, (xj_nn1 (List.mem_of_getElem? (i := 22) rfl) rfl)⟩
theorem lk_B_3 : xj_LK "ThreePhaseGroup$Board" 3 m_JO_init.1 := Or.inl (xj_in1 (List.mem_of_getElem? (i := 25) rfl) rfl)
theorem fw_B_9 : Cond.fieldLink "ThreePhaseGroup$Board" 9 "ThreePhaseGroup$Board" "kind" "[I" ∈ xj_GW := (xj_in1 (List.mem_of_getElem? (i := 26) rfl) rfl)
theorem fl_B_9 : xj_FL "ThreePhaseGroup$Board" 9 "ThreePhaseGroup$Board" "kind" "[I" := Or.inl fw_B_9
theorem fw_C_40 : Cond.fieldLink "ThreePhaseGroup$Client" 40 "ThreePhaseGroup$Board" "kind" "[I" ∈ xj_GW := (xj_in1 (List.mem_of_getElem? (i := 27) rfl) rfl)
theorem fl_C_40 : xj_FL "ThreePhaseGroup$Client" 40 "ThreePhaseGroup$Board" "kind" "[I" := Or.inl fw_C_40
theorem fw_R_104 : Cond.fieldLink "ThreePhaseGroup$Replica" 104 "ThreePhaseGroup$Board" "kind" "[I" ∈ xj_GW := (xj_in1 (List.mem_of_getElem? (i := 28) rfl) rfl)
theorem fl_R_104 : xj_FL "ThreePhaseGroup$Replica" 104 "ThreePhaseGroup$Board" "kind" "[I" := Or.inl fw_R_104
theorem fw_G_96 : Cond.fieldLink "ThreePhaseGroup" 96 "ThreePhaseGroup$Board" "kind" "[I" ∈ xj_GW := (xj_in1 (List.mem_of_getElem? (i := 29) rfl) rfl)
theorem fl_G_96 : xj_FL "ThreePhaseGroup" 96 "ThreePhaseGroup$Board" "kind" "[I" := Or.inl fw_G_96
theorem fw_B_15 : Cond.fieldLink "ThreePhaseGroup$Board" 15 "ThreePhaseGroup$Board" "sender" "[I" ∈ xj_GW := (xj_in1 (List.mem_of_getElem? (i := 30) rfl) rfl)
theorem fl_B_15 : xj_FL "ThreePhaseGroup$Board" 15 "ThreePhaseGroup$Board" "sender" "[I" := Or.inl fw_B_15
theorem fw_C_46 : Cond.fieldLink "ThreePhaseGroup$Client" 46 "ThreePhaseGroup$Board" "sender" "[I" ∈ xj_GW := (xj_in1 (List.mem_of_getElem? (i := 31) rfl) rfl)
theorem fl_C_46 : xj_FL "ThreePhaseGroup$Client" 46 "ThreePhaseGroup$Board" "sender" "[I" := Or.inl fw_C_46
theorem fw_R_76 : Cond.fieldLink "ThreePhaseGroup$Replica" 76 "ThreePhaseGroup$Board" "sender" "[I" ∈ xj_GW := (xj_in1 (List.mem_of_getElem? (i := 32) rfl) rfl)
theorem fl_R_76 : xj_FL "ThreePhaseGroup$Replica" 76 "ThreePhaseGroup$Board" "sender" "[I" := Or.inl fw_R_76
theorem fw_G_99 : Cond.fieldLink "ThreePhaseGroup" 99 "ThreePhaseGroup$Board" "sender" "[I" ∈ xj_GW := (xj_in1 (List.mem_of_getElem? (i := 33) rfl) rfl)
theorem fl_G_99 : xj_FL "ThreePhaseGroup" 99 "ThreePhaseGroup$Board" "sender" "[I" := Or.inl fw_G_99
theorem fw_B_18 : Cond.fieldLink "ThreePhaseGroup$Board" 18 "ThreePhaseGroup$Board" "a" "[I" ∈ xj_GW := (xj_in1 (List.mem_of_getElem? (i := 34) rfl) rfl)
theorem fl_B_18 : xj_FL "ThreePhaseGroup$Board" 18 "ThreePhaseGroup$Board" "a" "[I" := Or.inl fw_B_18
theorem fw_C_49 : Cond.fieldLink "ThreePhaseGroup$Client" 49 "ThreePhaseGroup$Board" "a" "[I" ∈ xj_GW := (xj_in1 (List.mem_of_getElem? (i := 35) rfl) rfl)
theorem fl_C_49 : xj_FL "ThreePhaseGroup$Client" 49 "ThreePhaseGroup$Board" "a" "[I" := Or.inl fw_C_49
theorem fw_R_81 : Cond.fieldLink "ThreePhaseGroup$Replica" 81 "ThreePhaseGroup$Board" "a" "[I" ∈ xj_GW := (xj_in1 (List.mem_of_getElem? (i := 36) rfl) rfl)
theorem fl_R_81 : xj_FL "ThreePhaseGroup$Replica" 81 "ThreePhaseGroup$Board" "a" "[I" := Or.inl fw_R_81
theorem fw_G_102 : Cond.fieldLink "ThreePhaseGroup" 102 "ThreePhaseGroup$Board" "a" "[I" ∈ xj_GW := (xj_in1 (List.mem_of_getElem? (i := 37) rfl) rfl)
theorem fl_G_102 : xj_FL "ThreePhaseGroup" 102 "ThreePhaseGroup$Board" "a" "[I" := Or.inl fw_G_102
theorem fw_B_21 : Cond.fieldLink "ThreePhaseGroup$Board" 21 "ThreePhaseGroup$Board" "b" "[J" ∈ xj_GW := (xj_in1 (List.mem_of_getElem? (i := 38) rfl) rfl)
theorem fl_B_21 : xj_FL "ThreePhaseGroup$Board" 21 "ThreePhaseGroup$Board" "b" "[J" := Or.inl fw_B_21
theorem fw_C_52 : Cond.fieldLink "ThreePhaseGroup$Client" 52 "ThreePhaseGroup$Board" "b" "[J" ∈ xj_GW := (xj_in1 (List.mem_of_getElem? (i := 39) rfl) rfl)
theorem fl_C_52 : xj_FL "ThreePhaseGroup$Client" 52 "ThreePhaseGroup$Board" "b" "[J" := Or.inl fw_C_52
theorem fw_R_131 : Cond.fieldLink "ThreePhaseGroup$Replica" 131 "ThreePhaseGroup$Board" "b" "[J" ∈ xj_GW := (xj_in1 (List.mem_of_getElem? (i := 40) rfl) rfl)
theorem fl_R_131 : xj_FL "ThreePhaseGroup$Replica" 131 "ThreePhaseGroup$Board" "b" "[J" := Or.inl fw_R_131
theorem fw_G_105 : Cond.fieldLink "ThreePhaseGroup" 105 "ThreePhaseGroup$Board" "b" "[J" ∈ xj_GW := (xj_in1 (List.mem_of_getElem? (i := 41) rfl) rfl)
theorem fl_G_105 : xj_FL "ThreePhaseGroup" 105 "ThreePhaseGroup$Board" "b" "[J" := Or.inl fw_G_105
theorem fw_B_25 : Cond.fieldLink "ThreePhaseGroup$Board" 25 "ThreePhaseGroup$Board" "c" "[I" ∈ xj_GW := (xj_in1 (List.mem_of_getElem? (i := 42) rfl) rfl)
theorem fl_B_25 : xj_FL "ThreePhaseGroup$Board" 25 "ThreePhaseGroup$Board" "c" "[I" := Or.inl fw_B_25
theorem fw_C_55 : Cond.fieldLink "ThreePhaseGroup$Client" 55 "ThreePhaseGroup$Board" "c" "[I" ∈ xj_GW := (xj_in1 (List.mem_of_getElem? (i := 43) rfl) rfl)
theorem fl_C_55 : xj_FL "ThreePhaseGroup$Client" 55 "ThreePhaseGroup$Board" "c" "[I" := Or.inl fw_C_55
theorem fw_G_109 : Cond.fieldLink "ThreePhaseGroup" 109 "ThreePhaseGroup$Board" "c" "[I" ∈ xj_GW := (xj_in1 (List.mem_of_getElem? (i := 44) rfl) rfl)
theorem fl_G_109 : xj_FL "ThreePhaseGroup" 109 "ThreePhaseGroup$Board" "c" "[I" := Or.inl fw_G_109
theorem fw_R_139 : Cond.fieldLink "ThreePhaseGroup$Replica" 139 "ThreePhaseGroup$Board" "c" "[I" ∈ xj_GW := (xj_in1 (List.mem_of_getElem? (i := 45) rfl) rfl)
theorem fl_R_139 : xj_FL "ThreePhaseGroup$Replica" 139 "ThreePhaseGroup$Board" "c" "[I" := Or.inl fw_R_139
theorem fw_B_28 : Cond.fieldLink "ThreePhaseGroup$Board" 28 "ThreePhaseGroup$Board" "valid" "[Z" ∈ xj_GW := (xj_in1 (List.mem_of_getElem? (i := 46) rfl) rfl)
theorem fl_B_28 : xj_FL "ThreePhaseGroup$Board" 28 "ThreePhaseGroup$Board" "valid" "[Z" := Or.inl fw_B_28
theorem fw_G_112 : Cond.fieldLink "ThreePhaseGroup" 112 "ThreePhaseGroup$Board" "valid" "[Z" ∈ xj_GW := (xj_in1 (List.mem_of_getElem? (i := 47) rfl) rfl)
theorem fl_G_112 : xj_FL "ThreePhaseGroup" 112 "ThreePhaseGroup$Board" "valid" "[Z" := Or.inl fw_G_112
theorem fw_R_164 : Cond.fieldLink "ThreePhaseGroup$Replica" 164 "ThreePhaseGroup$Board" "valid" "[Z" ∈ xj_GW := (xj_in1 (List.mem_of_getElem? (i := 48) rfl) rfl)
theorem fl_R_164 : xj_FL "ThreePhaseGroup$Replica" 164 "ThreePhaseGroup$Board" "valid" "[Z" := Or.inl fw_R_164
theorem fw_B_32 : Cond.fieldLink "ThreePhaseGroup$Board" 32 "ThreePhaseGroup$Board" "size" "I" ∈ xj_GW := (xj_in1 (List.mem_of_getElem? (i := 49) rfl) rfl)
theorem fl_B_32 : xj_FL "ThreePhaseGroup$Board" 32 "ThreePhaseGroup$Board" "size" "I" := Or.inl fw_B_32
theorem fw_G_91 : Cond.fieldLink "ThreePhaseGroup" 91 "ThreePhaseGroup$Board" "size" "I" ∈ xj_GW := (xj_in1 (List.mem_of_getElem? (i := 50) rfl) rfl)
theorem fl_G_91 : xj_FL "ThreePhaseGroup" 91 "ThreePhaseGroup$Board" "size" "I" := Or.inl fw_G_91
theorem fw_B_36 : Cond.fieldLink "ThreePhaseGroup$Board" 36 "ThreePhaseGroup$Board" "judged" "I" ∈ xj_GW := (xj_in1 (List.mem_of_getElem? (i := 51) rfl) rfl)
theorem fl_B_36 : xj_FL "ThreePhaseGroup$Board" 36 "ThreePhaseGroup$Board" "judged" "I" := Or.inl fw_B_36
theorem aw_int : Cond.arrayClass .int ∈ xj_GW := (xj_in1 (List.mem_of_getElem? (i := 69) rfl) rfl)
theorem aw_long : Cond.arrayClass .long ∈ xj_GW := (xj_in1 (List.mem_of_getElem? (i := 70) rfl) rfl)
theorem aw_boolean : Cond.arrayClass .boolean ∈ xj_GW := (xj_in1 (List.mem_of_getElem? (i := 71) rfl) rfl)
theorem cw_G_16 : Cond.classLink "ThreePhaseGroup" 16 "ThreePhaseGroup$Replica" ∈ xj_GW := (xj_in1 (List.mem_of_getElem? (i := 72) rfl) rfl)
theorem ow_R : Cond.arrayOver (.object "ThreePhaseGroup$Replica") ∈ xj_NW := (xj_nn1 (List.mem_of_getElem? (i := 73) rfl) rfl)
theorem cw_G_22 : Cond.classLink "ThreePhaseGroup" 22 "ThreePhaseGroup$Client" ∈ xj_GW := (xj_in1 (List.mem_of_getElem? (i := 74) rfl) rfl)
theorem ow_C : Cond.arrayOver (.object "ThreePhaseGroup$Client") ∈ xj_NW := (xj_nn1 (List.mem_of_getElem? (i := 75) rfl) rfl)
theorem iw_R : Cond.instantiable "ThreePhaseGroup$Replica" 14 ∈ xj_GW := (xj_in1 (List.mem_of_getElem? (i := 76) rfl) rfl)
theorem lk_G_36 : xj_LK "ThreePhaseGroup" 36 m_R_init.1 := Or.inl (xj_in1 (List.mem_of_getElem? (i := 77) rfl) rfl)
theorem lk_R_3 : xj_LK "ThreePhaseGroup$Replica" 3 m_JO_init.1 := Or.inl (xj_in1 (List.mem_of_getElem? (i := 80) rfl) rfl)
theorem cw_R_9 : Cond.classLink "ThreePhaseGroup$Replica" 9 "ThreePhaseGroup$Slot" ∈ xj_GW := (xj_in1 (List.mem_of_getElem? (i := 81) rfl) rfl)
theorem ow_S : Cond.arrayOver (.object "ThreePhaseGroup$Slot") ∈ xj_NW := (xj_nn1 (List.mem_of_getElem? (i := 82) rfl) rfl)
theorem cw_R_17 : Cond.classLink "ThreePhaseGroup$Replica" 17 "ThreePhaseGroup$Numbers" ∈ xj_GW := (xj_in1 (List.mem_of_getElem? (i := 83) rfl) rfl)
theorem iw_N : Cond.instantiable "ThreePhaseGroup$Numbers" 2 ∈ xj_GW := (xj_in1 (List.mem_of_getElem? (i := 84) rfl) rfl)
theorem lk_R_19 : xj_LK "ThreePhaseGroup$Replica" 19 m_N_init.1 := Or.inr ⟨_, (xj_nn1 (List.mem_of_getElem? (i := 85) rfl) rfl)⟩
theorem lk_N_3 : xj_LK "ThreePhaseGroup$Numbers" 3 m_JO_init.1 := Or.inl (xj_in1 (List.mem_of_getElem? (i := 88) rfl) rfl)
theorem fw_N_9 : Cond.fieldLink "ThreePhaseGroup$Numbers" 9 "ThreePhaseGroup$Numbers" "at" "[I" ∈ xj_GW := (xj_in1 (List.mem_of_getElem? (i := 89) rfl) rfl)
theorem fl_N_9 : xj_FL "ThreePhaseGroup$Numbers" 9 "ThreePhaseGroup$Numbers" "at" "[I" := Or.inl fw_N_9
theorem fw_R_93 : Cond.fieldLink "ThreePhaseGroup$Replica" 93 "ThreePhaseGroup$Numbers" "at" "[I" ∈ xj_GW := (xj_in1 (List.mem_of_getElem? (i := 90) rfl) rfl)
theorem fl_R_93 : xj_FL "ThreePhaseGroup$Replica" 93 "ThreePhaseGroup$Numbers" "at" "[I" := Or.inl fw_R_93
theorem fw_N_15 : Cond.fieldLink "ThreePhaseGroup$Numbers" 15 "ThreePhaseGroup$Numbers" "size" "I" ∈ xj_GW := (xj_in1 (List.mem_of_getElem? (i := 91) rfl) rfl)
theorem fl_N_15 : xj_FL "ThreePhaseGroup$Numbers" 15 "ThreePhaseGroup$Numbers" "size" "I" := Or.inl fw_N_15
theorem fw_R_90 : Cond.fieldLink "ThreePhaseGroup$Replica" 90 "ThreePhaseGroup$Numbers" "size" "I" ∈ xj_GW := (xj_in1 (List.mem_of_getElem? (i := 92) rfl) rfl)
theorem fl_R_90 : xj_FL "ThreePhaseGroup$Replica" 90 "ThreePhaseGroup$Numbers" "size" "I" := Or.inl fw_R_90
theorem iw_S : Cond.instantiable "ThreePhaseGroup$Slot" 5 ∈ xj_GW := (xj_in1 (List.mem_of_getElem? (i := 98) rfl) rfl)
theorem lk_R_65 : xj_LK "ThreePhaseGroup$Replica" 65 m_S_init.1 := Or.inl (xj_in1 (List.mem_of_getElem? (i := 99) rfl) rfl)
theorem lk_S_3 : xj_LK "ThreePhaseGroup$Slot" 3 m_JO_init.1 := Or.inl (xj_in1 (List.mem_of_getElem? (i := 102) rfl) rfl)
theorem lk_S_25 : xj_LK "ThreePhaseGroup$Slot" 25 m_S_forgetView.1 := Or.inl (xj_in1 (List.mem_of_getElem? (i := 103) rfl) rfl)
theorem kl_S_31 : Cond.constantLong "ThreePhaseGroup$Slot" 31 (1099511627776) ∈ xj_GW := (xj_in1 (List.mem_of_getElem? (i := 107) rfl) rfl)
theorem fw_S_9 : Cond.fieldLink "ThreePhaseGroup$Slot" 9 "ThreePhaseGroup$Slot" "prepares" "[J" ∈ xj_GW := (xj_in1 (List.mem_of_getElem? (i := 108) rfl) rfl)
theorem fl_S_9 : xj_FL "ThreePhaseGroup$Slot" 9 "ThreePhaseGroup$Slot" "prepares" "[J" := Or.inl fw_S_9
theorem fw_R_156 : Cond.fieldLink "ThreePhaseGroup$Replica" 156 "ThreePhaseGroup$Slot" "prepares" "[J" ∈ xj_GW := (xj_in1 (List.mem_of_getElem? (i := 109) rfl) rfl)
theorem fl_R_156 : xj_FL "ThreePhaseGroup$Replica" 156 "ThreePhaseGroup$Slot" "prepares" "[J" := Or.inl fw_R_156
theorem fw_S_15 : Cond.fieldLink "ThreePhaseGroup$Slot" 15 "ThreePhaseGroup$Slot" "commits" "[J" ∈ xj_GW := (xj_in1 (List.mem_of_getElem? (i := 110) rfl) rfl)
theorem fl_S_15 : xj_FL "ThreePhaseGroup$Slot" 15 "ThreePhaseGroup$Slot" "commits" "[J" := Or.inl fw_S_15
theorem fw_R_159 : Cond.fieldLink "ThreePhaseGroup$Replica" 159 "ThreePhaseGroup$Slot" "commits" "[J" ∈ xj_GW := (xj_in1 (List.mem_of_getElem? (i := 111) rfl) rfl)
theorem fl_R_159 : xj_FL "ThreePhaseGroup$Replica" 159 "ThreePhaseGroup$Slot" "commits" "[J" := Or.inl fw_R_159
theorem fw_S_28 : Cond.fieldLink "ThreePhaseGroup$Slot" 28 "ThreePhaseGroup$Slot" "accepted" "I" ∈ xj_GW := (xj_in1 (List.mem_of_getElem? (i := 112) rfl) rfl)
theorem fl_S_28 : xj_FL "ThreePhaseGroup$Slot" 28 "ThreePhaseGroup$Slot" "accepted" "I" := Or.inl fw_S_28
theorem fw_R_149 : Cond.fieldLink "ThreePhaseGroup$Replica" 149 "ThreePhaseGroup$Slot" "accepted" "I" ∈ xj_GW := (xj_in1 (List.mem_of_getElem? (i := 113) rfl) rfl)
theorem fl_R_149 : xj_FL "ThreePhaseGroup$Replica" 149 "ThreePhaseGroup$Slot" "accepted" "I" := Or.inl fw_R_149
theorem fw_G_150 : Cond.fieldLink "ThreePhaseGroup" 150 "ThreePhaseGroup$Slot" "accepted" "I" ∈ xj_GW := (xj_in1 (List.mem_of_getElem? (i := 114) rfl) rfl)
theorem fl_G_150 : xj_FL "ThreePhaseGroup" 150 "ThreePhaseGroup$Slot" "accepted" "I" := Or.inl fw_G_150
theorem fw_S_18 : Cond.fieldLink "ThreePhaseGroup$Slot" 18 "ThreePhaseGroup$Slot" "decided" "I" ∈ xj_GW := (xj_in1 (List.mem_of_getElem? (i := 115) rfl) rfl)
theorem fl_S_18 : xj_FL "ThreePhaseGroup$Slot" 18 "ThreePhaseGroup$Slot" "decided" "I" := Or.inl fw_S_18
theorem fw_G_147 : Cond.fieldLink "ThreePhaseGroup" 147 "ThreePhaseGroup$Slot" "decided" "I" ∈ xj_GW := (xj_in1 (List.mem_of_getElem? (i := 116) rfl) rfl)
theorem fl_G_147 : xj_FL "ThreePhaseGroup" 147 "ThreePhaseGroup$Slot" "decided" "I" := Or.inl fw_G_147
theorem fw_R_223 : Cond.fieldLink "ThreePhaseGroup$Replica" 223 "ThreePhaseGroup$Slot" "decided" "I" ∈ xj_GW := (xj_in1 (List.mem_of_getElem? (i := 117) rfl) rfl)
theorem fl_R_223 : xj_FL "ThreePhaseGroup$Replica" 223 "ThreePhaseGroup$Slot" "decided" "I" := Or.inl fw_R_223
theorem fw_S_22 : Cond.fieldLink "ThreePhaseGroup$Slot" 22 "ThreePhaseGroup$Slot" "claim" "I" ∈ xj_GW := (xj_in1 (List.mem_of_getElem? (i := 118) rfl) rfl)
theorem fl_S_22 : xj_FL "ThreePhaseGroup$Slot" 22 "ThreePhaseGroup$Slot" "claim" "I" := Or.inl fw_S_22
theorem fw_R_220 : Cond.fieldLink "ThreePhaseGroup$Replica" 220 "ThreePhaseGroup$Slot" "claim" "I" ∈ xj_GW := (xj_in1 (List.mem_of_getElem? (i := 119) rfl) rfl)
theorem fl_R_220 : xj_FL "ThreePhaseGroup$Replica" 220 "ThreePhaseGroup$Slot" "claim" "I" := Or.inl fw_R_220
theorem lk_R_66 : xj_LK "ThreePhaseGroup$Replica" 66 m_JA_fillI.1 := Or.inl (xj_in1 (List.mem_of_getElem? (i := 131) rfl) rfl)
theorem fw_R_58 : Cond.fieldLink "ThreePhaseGroup$Replica" 58 "ThreePhaseGroup$Replica" "self" "I" ∈ xj_GW := (xj_in1 (List.mem_of_getElem? (i := 134) rfl) rfl)
theorem fl_R_58 : xj_FL "ThreePhaseGroup$Replica" 58 "ThreePhaseGroup$Replica" "self" "I" := Or.inl fw_R_58
theorem fw_R_61 : Cond.fieldLink "ThreePhaseGroup$Replica" 61 "ThreePhaseGroup$Replica" "board" "LThreePhaseGroup$Board;" ∈ xj_GW := (xj_in1 (List.mem_of_getElem? (i := 135) rfl) rfl)
theorem fl_R_61 : xj_FL "ThreePhaseGroup$Replica" 61 "ThreePhaseGroup$Replica" "board" "LThreePhaseGroup$Board;" := Or.inl fw_R_61
theorem fw_R_11 : Cond.fieldLink "ThreePhaseGroup$Replica" 11 "ThreePhaseGroup$Replica" "slots" "[LThreePhaseGroup$Slot;" ∈ xj_GW := (xj_in1 (List.mem_of_getElem? (i := 136) rfl) rfl)
theorem fl_R_11 : xj_FL "ThreePhaseGroup$Replica" 11 "ThreePhaseGroup$Replica" "slots" "[LThreePhaseGroup$Slot;" := Or.inl fw_R_11
theorem fw_R_20 : Cond.fieldLink "ThreePhaseGroup$Replica" 20 "ThreePhaseGroup$Replica" "known" "LThreePhaseGroup$Numbers;" ∈ xj_GW := (xj_in1 (List.mem_of_getElem? (i := 137) rfl) rfl)
theorem fl_R_20 : xj_FL "ThreePhaseGroup$Replica" 20 "ThreePhaseGroup$Replica" "known" "LThreePhaseGroup$Numbers;" := Or.inl fw_R_20
theorem fw_R_24 : Cond.fieldLink "ThreePhaseGroup$Replica" 24 "ThreePhaseGroup$Replica" "checkpoints" "LThreePhaseGroup$Numbers;" ∈ xj_GW := (xj_in1 (List.mem_of_getElem? (i := 138) rfl) rfl)
theorem fl_R_24 : xj_FL "ThreePhaseGroup$Replica" 24 "ThreePhaseGroup$Replica" "checkpoints" "LThreePhaseGroup$Numbers;" := Or.inl fw_R_24
theorem fw_R_27 : Cond.fieldLink "ThreePhaseGroup$Replica" 27 "ThreePhaseGroup$Replica" "viewChanges" "[I" ∈ xj_GW := (xj_in1 (List.mem_of_getElem? (i := 139) rfl) rfl)
theorem fl_R_27 : xj_FL "ThreePhaseGroup$Replica" 27 "ThreePhaseGroup$Replica" "viewChanges" "[I" := Or.inl fw_R_27
theorem fw_R_31 : Cond.fieldLink "ThreePhaseGroup$Replica" 31 "ThreePhaseGroup$Replica" "view" "I" ∈ xj_GW := (xj_in1 (List.mem_of_getElem? (i := 140) rfl) rfl)
theorem fl_R_31 : xj_FL "ThreePhaseGroup$Replica" 31 "ThreePhaseGroup$Replica" "view" "I" := Or.inl fw_R_31
theorem fw_G_116 : Cond.fieldLink "ThreePhaseGroup" 116 "ThreePhaseGroup$Replica" "view" "I" ∈ xj_GW := (xj_in1 (List.mem_of_getElem? (i := 141) rfl) rfl)
theorem fl_G_116 : xj_FL "ThreePhaseGroup" 116 "ThreePhaseGroup$Replica" "view" "I" := Or.inl fw_G_116
theorem fw_R_35 : Cond.fieldLink "ThreePhaseGroup$Replica" 35 "ThreePhaseGroup$Replica" "changing" "Z" ∈ xj_GW := (xj_in1 (List.mem_of_getElem? (i := 142) rfl) rfl)
theorem fl_R_35 : xj_FL "ThreePhaseGroup$Replica" 35 "ThreePhaseGroup$Replica" "changing" "Z" := Or.inl fw_R_35
theorem fw_G_119 : Cond.fieldLink "ThreePhaseGroup" 119 "ThreePhaseGroup$Replica" "changing" "Z" ∈ xj_GW := (xj_in1 (List.mem_of_getElem? (i := 143) rfl) rfl)
theorem fl_G_119 : xj_FL "ThreePhaseGroup" 119 "ThreePhaseGroup$Replica" "changing" "Z" := Or.inl fw_G_119
theorem fw_R_39 : Cond.fieldLink "ThreePhaseGroup$Replica" 39 "ThreePhaseGroup$Replica" "stable" "I" ∈ xj_GW := (xj_in1 (List.mem_of_getElem? (i := 144) rfl) rfl)
theorem fl_R_39 : xj_FL "ThreePhaseGroup$Replica" 39 "ThreePhaseGroup$Replica" "stable" "I" := Or.inl fw_R_39
theorem fw_G_126 : Cond.fieldLink "ThreePhaseGroup" 126 "ThreePhaseGroup$Replica" "stable" "I" ∈ xj_GW := (xj_in1 (List.mem_of_getElem? (i := 145) rfl) rfl)
theorem fl_G_126 : xj_FL "ThreePhaseGroup" 126 "ThreePhaseGroup$Replica" "stable" "I" := Or.inl fw_G_126
theorem fw_R_42 : Cond.fieldLink "ThreePhaseGroup$Replica" 42 "ThreePhaseGroup$Replica" "executed" "I" ∈ xj_GW := (xj_in1 (List.mem_of_getElem? (i := 146) rfl) rfl)
theorem fl_R_42 : xj_FL "ThreePhaseGroup$Replica" 42 "ThreePhaseGroup$Replica" "executed" "I" := Or.inl fw_R_42
theorem fw_G_123 : Cond.fieldLink "ThreePhaseGroup" 123 "ThreePhaseGroup$Replica" "executed" "I" ∈ xj_GW := (xj_in1 (List.mem_of_getElem? (i := 147) rfl) rfl)
theorem fl_G_123 : xj_FL "ThreePhaseGroup" 123 "ThreePhaseGroup$Replica" "executed" "I" := Or.inl fw_G_123
theorem fw_R_45 : Cond.fieldLink "ThreePhaseGroup$Replica" 45 "ThreePhaseGroup$Replica" "state" "J" ∈ xj_GW := (xj_in1 (List.mem_of_getElem? (i := 148) rfl) rfl)
theorem fl_R_45 : xj_FL "ThreePhaseGroup$Replica" 45 "ThreePhaseGroup$Replica" "state" "J" := Or.inl fw_R_45
theorem fw_G_129 : Cond.fieldLink "ThreePhaseGroup" 129 "ThreePhaseGroup$Replica" "state" "J" ∈ xj_GW := (xj_in1 (List.mem_of_getElem? (i := 149) rfl) rfl)
theorem fl_G_129 : xj_FL "ThreePhaseGroup" 129 "ThreePhaseGroup$Replica" "state" "J" := Or.inl fw_G_129
theorem fw_R_49 : Cond.fieldLink "ThreePhaseGroup$Replica" 49 "ThreePhaseGroup$Replica" "timer" "I" ∈ xj_GW := (xj_in1 (List.mem_of_getElem? (i := 150) rfl) rfl)
theorem fl_R_49 : xj_FL "ThreePhaseGroup$Replica" 49 "ThreePhaseGroup$Replica" "timer" "I" := Or.inl fw_R_49
theorem fw_G_75 : Cond.fieldLink "ThreePhaseGroup" 75 "ThreePhaseGroup$Replica" "timer" "I" ∈ xj_GW := (xj_in1 (List.mem_of_getElem? (i := 151) rfl) rfl)
theorem fl_G_75 : xj_FL "ThreePhaseGroup" 75 "ThreePhaseGroup$Replica" "timer" "I" := Or.inl fw_G_75
theorem fw_R_52 : Cond.fieldLink "ThreePhaseGroup$Replica" 52 "ThreePhaseGroup$Replica" "span" "I" ∈ xj_GW := (xj_in1 (List.mem_of_getElem? (i := 152) rfl) rfl)
theorem fl_R_52 : xj_FL "ThreePhaseGroup$Replica" 52 "ThreePhaseGroup$Replica" "span" "I" := Or.inl fw_R_52
theorem fw_R_55 : Cond.fieldLink "ThreePhaseGroup$Replica" 55 "ThreePhaseGroup$Replica" "renewing" "Z" ∈ xj_GW := (xj_in1 (List.mem_of_getElem? (i := 153) rfl) rfl)
theorem fl_R_55 : xj_FL "ThreePhaseGroup$Replica" 55 "ThreePhaseGroup$Replica" "renewing" "Z" := Or.inl fw_R_55
theorem iw_C : Cond.instantiable "ThreePhaseGroup$Client" 6 ∈ xj_GW := (xj_in1 (List.mem_of_getElem? (i := 183) rfl) rfl)
theorem lk_G_39 : xj_LK "ThreePhaseGroup" 39 m_C_init.1 := Or.inl (xj_in1 (List.mem_of_getElem? (i := 184) rfl) rfl)
theorem lk_C_3 : xj_LK "ThreePhaseGroup$Client" 3 m_JO_init.1 := Or.inl (xj_in1 (List.mem_of_getElem? (i := 187) rfl) rfl)
theorem fw_C_25 : Cond.fieldLink "ThreePhaseGroup$Client" 25 "ThreePhaseGroup$Client" "self" "I" ∈ xj_GW := (xj_in1 (List.mem_of_getElem? (i := 188) rfl) rfl)
theorem fl_C_25 : xj_FL "ThreePhaseGroup$Client" 25 "ThreePhaseGroup$Client" "self" "I" := Or.inl fw_C_25
theorem fw_C_28 : Cond.fieldLink "ThreePhaseGroup$Client" 28 "ThreePhaseGroup$Client" "board" "LThreePhaseGroup$Board;" ∈ xj_GW := (xj_in1 (List.mem_of_getElem? (i := 189) rfl) rfl)
theorem fl_C_28 : xj_FL "ThreePhaseGroup$Client" 28 "ThreePhaseGroup$Client" "board" "LThreePhaseGroup$Board;" := Or.inl fw_C_28
theorem fw_C_9 : Cond.fieldLink "ThreePhaseGroup$Client" 9 "ThreePhaseGroup$Client" "replies" "[J" ∈ xj_GW := (xj_in1 (List.mem_of_getElem? (i := 190) rfl) rfl)
theorem fl_C_9 : xj_FL "ThreePhaseGroup$Client" 9 "ThreePhaseGroup$Client" "replies" "[J" := Or.inl fw_C_9
theorem fw_C_15 : Cond.fieldLink "ThreePhaseGroup$Client" 15 "ThreePhaseGroup$Client" "submitted" "I" ∈ xj_GW := (xj_in1 (List.mem_of_getElem? (i := 191) rfl) rfl)
theorem fl_C_15 : xj_FL "ThreePhaseGroup$Client" 15 "ThreePhaseGroup$Client" "submitted" "I" := Or.inl fw_C_15
theorem fw_C_19 : Cond.fieldLink "ThreePhaseGroup$Client" 19 "ThreePhaseGroup$Client" "outstanding" "I" ∈ xj_GW := (xj_in1 (List.mem_of_getElem? (i := 192) rfl) rfl)
theorem fl_C_19 : xj_FL "ThreePhaseGroup$Client" 19 "ThreePhaseGroup$Client" "outstanding" "I" := Or.inl fw_C_19
theorem fw_G_48 : Cond.fieldLink "ThreePhaseGroup" 48 "ThreePhaseGroup$Client" "outstanding" "I" ∈ xj_GW := (xj_in1 (List.mem_of_getElem? (i := 193) rfl) rfl)
theorem fl_G_48 : xj_FL "ThreePhaseGroup" 48 "ThreePhaseGroup$Client" "outstanding" "I" := Or.inl fw_G_48
theorem fw_C_22 : Cond.fieldLink "ThreePhaseGroup$Client" 22 "ThreePhaseGroup$Client" "latestAnswer" "I" ∈ xj_GW := (xj_in1 (List.mem_of_getElem? (i := 194) rfl) rfl)
theorem fl_C_22 : xj_FL "ThreePhaseGroup$Client" 22 "ThreePhaseGroup$Client" "latestAnswer" "I" := Or.inl fw_C_22
theorem fw_G_157 : Cond.fieldLink "ThreePhaseGroup" 157 "ThreePhaseGroup$Client" "latestAnswer" "I" ∈ xj_GW := (xj_in1 (List.mem_of_getElem? (i := 195) rfl) rfl)
theorem fl_G_157 : xj_FL "ThreePhaseGroup" 157 "ThreePhaseGroup$Client" "latestAnswer" "I" := Or.inl fw_G_157
theorem fw_G_12 : Cond.fieldLink "ThreePhaseGroup" 12 "ThreePhaseGroup" "board" "LThreePhaseGroup$Board;" ∈ xj_GW := (xj_in1 (List.mem_of_getElem? (i := 209) rfl) rfl)
theorem fl_G_12 : xj_FL "ThreePhaseGroup" 12 "ThreePhaseGroup" "board" "LThreePhaseGroup$Board;" := Or.inl fw_G_12
theorem fw_G_18 : Cond.fieldLink "ThreePhaseGroup" 18 "ThreePhaseGroup" "replicas" "[LThreePhaseGroup$Replica;" ∈ xj_GW := (xj_in1 (List.mem_of_getElem? (i := 210) rfl) rfl)
theorem fl_G_18 : xj_FL "ThreePhaseGroup" 18 "ThreePhaseGroup" "replicas" "[LThreePhaseGroup$Replica;" := Or.inl fw_G_18
theorem fw_G_24 : Cond.fieldLink "ThreePhaseGroup" 24 "ThreePhaseGroup" "clients" "[LThreePhaseGroup$Client;" ∈ xj_GW := (xj_in1 (List.mem_of_getElem? (i := 211) rfl) rfl)
theorem fl_G_24 : xj_FL "ThreePhaseGroup" 24 "ThreePhaseGroup" "clients" "[LThreePhaseGroup$Client;" := Or.inl fw_G_24
theorem fw_G_28 : Cond.fieldLink "ThreePhaseGroup" 28 "ThreePhaseGroup" "marks" "[I" ∈ xj_GW := (xj_in1 (List.mem_of_getElem? (i := 212) rfl) rfl)
theorem fl_G_28 : xj_FL "ThreePhaseGroup" 28 "ThreePhaseGroup" "marks" "[I" := Or.inl fw_G_28
theorem fw_G_32 : Cond.fieldLink "ThreePhaseGroup" 32 "ThreePhaseGroup" "faulty" "I" ∈ xj_GW := (xj_in1 (List.mem_of_getElem? (i := 213) rfl) rfl)
theorem fl_G_32 : xj_FL "ThreePhaseGroup" 32 "ThreePhaseGroup" "faulty" "I" := Or.inl fw_G_32
theorem lk_L_13 : xj_LK "ThreePhaseGroupLaw" 13 m_G_submit.1 := Or.inl (xj_in1 (List.mem_of_getElem? (i := 225) rfl) rfl)
theorem lk_G_40 : xj_LK "ThreePhaseGroup" 40 m_G_isClient.1 := Or.inl (xj_in1 (List.mem_of_getElem? (i := 229) rfl) rfl)
theorem lk_G_44 : xj_LK "ThreePhaseGroup" 44 m_G_isOperation.1 := Or.inl (xj_in1 (List.mem_of_getElem? (i := 232) rfl) rfl)
theorem lk_G_51 : xj_LK "ThreePhaseGroup" 51 m_B_isFull.1 := Or.inl (xj_in1 (List.mem_of_getElem? (i := 235) rfl) rfl)
theorem lk_G_55 : xj_LK "ThreePhaseGroup" 55 m_C_openNext.1 := Or.inl (xj_in1 (List.mem_of_getElem? (i := 239) rfl) rfl)
theorem kl_C_32 : Cond.constantLong "ThreePhaseGroup$Client" 32 (1099511627776) ∈ xj_GW := (xj_in2 (List.mem_of_getElem? (i := 3) rfl) rfl)
theorem lk_C_34 : xj_LK "ThreePhaseGroup$Client" 34 m_JA_fillJ.1 := Or.inl (xj_in2 (List.mem_of_getElem? (i := 4) rfl) rfl)
theorem lk_G_58 : xj_LK "ThreePhaseGroup" 58 m_B_post.1 := Or.inl (xj_in2 (List.mem_of_getElem? (i := 7) rfl) rfl)
theorem lk_L_18 : xj_LK "ThreePhaseGroupLaw" 18 m_G_deliver.1 := Or.inl (xj_in2 (List.mem_of_getElem? (i := 11) rfl) rfl)
theorem lk_G_62 : xj_LK "ThreePhaseGroup" 62 m_B_has.1 := Or.inl (xj_in2 (List.mem_of_getElem? (i := 15) rfl) rfl)
theorem lk_G_65 : xj_LK "ThreePhaseGroup" 65 m_G_isParty.1 := Or.inl (xj_in2 (List.mem_of_getElem? (i := 19) rfl) rfl)
theorem lk_G_68 : xj_LK "ThreePhaseGroup" 68 m_G_give.1 := Or.inl (xj_in2 (List.mem_of_getElem? (i := 22) rfl) rfl)
theorem lk_G_162 : xj_LK "ThreePhaseGroup" 162 m_C_takes.1 := Or.inl (xj_in2 (List.mem_of_getElem? (i := 26) rfl) rfl)
theorem lk_C_58 : xj_LK "ThreePhaseGroup$Client" 58 m_C_countReplies.1 := Or.inl (xj_in2 (List.mem_of_getElem? (i := 30) rfl) rfl)
theorem lk_G_165 : xj_LK "ThreePhaseGroup" 165 m_R_takes.1 := Or.inl (xj_in2 (List.mem_of_getElem? (i := 34) rfl) rfl)
theorem lk_R_107 : xj_LK "ThreePhaseGroup$Replica" 107 m_R_takesRequest.1 := Or.inl (xj_in2 (List.mem_of_getElem? (i := 38) rfl) rfl)
theorem lk_R_125 : xj_LK "ThreePhaseGroup$Replica" 125 m_N_has.1 := Or.inl (xj_in2 (List.mem_of_getElem? (i := 42) rfl) rfl)
theorem lk_R_96 : xj_LK "ThreePhaseGroup$Replica" 96 m_R_wouldWait.1 := Or.inl (xj_in2 (List.mem_of_getElem? (i := 46) rfl) rfl)
theorem lk_R_84 : xj_LK "ThreePhaseGroup$Replica" 84 m_V_timestampOf.1 := Or.inl (xj_in2 (List.mem_of_getElem? (i := 50) rfl) rfl)
theorem lk_R_128 : xj_LK "ThreePhaseGroup$Replica" 128 m_R_learn.1 := Or.inl (xj_in2 (List.mem_of_getElem? (i := 53) rfl) rfl)
theorem lk_R_100 : xj_LK "ThreePhaseGroup$Replica" 100 m_N_add.1 := Or.inl (xj_in2 (List.mem_of_getElem? (i := 57) rfl) rfl)
theorem lk_N_19 : xj_LK "ThreePhaseGroup$Numbers" 19 m_N_has.1 := Or.inl (xj_in2 (List.mem_of_getElem? (i := 61) rfl) rfl)
theorem lk_R_110 : xj_LK "ThreePhaseGroup$Replica" 110 m_R_takesPrePrepare.1 := Or.inl (xj_in2 (List.mem_of_getElem? (i := 62) rfl) rfl)
theorem lk_R_142 : xj_LK "ThreePhaseGroup$Replica" 142 m_R_isOfThisView.1 := Or.inl (xj_in2 (List.mem_of_getElem? (i := 66) rfl) rfl)
theorem lk_R_135 : xj_LK "ThreePhaseGroup$Replica" 135 m_R_inWindow.1 := Or.inl (xj_in2 (List.mem_of_getElem? (i := 70) rfl) rfl)
theorem lk_R_72 : xj_LK "ThreePhaseGroup$Replica" 72 m_G_primaryOf.1 := Or.inr ⟨_, (xj_nn2 (List.mem_of_getElem? (i := 74) rfl) rfl)⟩
theorem lk_R_145 : xj_LK "ThreePhaseGroup$Replica" 145 m_R_slotAt.1 := Or.inl (xj_in2 (List.mem_of_getElem? (i := 77) rfl) rfl)
theorem lk_R_152 : xj_LK "ThreePhaseGroup$Replica" 152 m_B_hasRequestBelow.1 := Or.inl (xj_in2 (List.mem_of_getElem? (i := 81) rfl) rfl)
theorem lk_R_113 : xj_LK "ThreePhaseGroup$Replica" 113 m_R_takesPhase.1 := Or.inl (xj_in2 (List.mem_of_getElem? (i := 85) rfl) rfl)
theorem kl_R_162 : Cond.constantLong "ThreePhaseGroup$Replica" 162 (1099511627776) ∈ xj_GW := (xj_in2 (List.mem_of_getElem? (i := 89) rfl) rfl)
theorem lk_R_116 : xj_LK "ThreePhaseGroup$Replica" 116 m_R_takesCheckpoint.1 := Or.inl (xj_in2 (List.mem_of_getElem? (i := 90) rfl) rfl)
theorem lk_R_119 : xj_LK "ThreePhaseGroup$Replica" 119 m_R_takesViewChange.1 := Or.inl (xj_in2 (List.mem_of_getElem? (i := 94) rfl) rfl)
theorem lk_R_168 : xj_LK "ThreePhaseGroup$Replica" 168 m_R_isAhead.1 := Or.inl (xj_in2 (List.mem_of_getElem? (i := 98) rfl) rfl)
theorem lk_R_122 : xj_LK "ThreePhaseGroup$Replica" 122 m_R_takesNewView.1 := Or.inl (xj_in2 (List.mem_of_getElem? (i := 102) rfl) rfl)
theorem lk_R_171 : xj_LK "ThreePhaseGroup$Replica" 171 m_R_enter.1 := Or.inl (xj_in2 (List.mem_of_getElem? (i := 106) rfl) rfl)
theorem lk_R_283 : xj_LK "ThreePhaseGroup$Replica" 283 m_R_moveTo.1 := Or.inl (xj_in2 (List.mem_of_getElem? (i := 110) rfl) rfl)
theorem lk_R_277 : xj_LK "ThreePhaseGroup$Replica" 277 m_S_forgetView.1 := Or.inl (xj_in2 (List.mem_of_getElem? (i := 114) rfl) rfl)
theorem lk_R_286 : xj_LK "ThreePhaseGroup$Replica" 286 m_B_startOf.1 := Or.inl (xj_in2 (List.mem_of_getElem? (i := 115) rfl) rfl)
theorem lk_B_61 : xj_LK "ThreePhaseGroup$Board" 61 m_B_voteOf.1 := Or.inl (xj_in2 (List.mem_of_getElem? (i := 119) rfl) rfl)
theorem lk_B_83 : xj_LK "ThreePhaseGroup$Board" 83 m_JM_max.1 := Or.inl (xj_in2 (List.mem_of_getElem? (i := 122) rfl) rfl)
theorem lk_R_289 : xj_LK "ThreePhaseGroup$Replica" 289 m_B_certificate.1 := Or.inl (xj_in2 (List.mem_of_getElem? (i := 125) rfl) rfl)
theorem lk_B_73 : xj_LK "ThreePhaseGroup$Board" 73 m_B_countCheckpoints.1 := Or.inl (xj_in2 (List.mem_of_getElem? (i := 129) rfl) rfl)
theorem lk_B_64 : xj_LK "ThreePhaseGroup$Board" 64 m_JI_bitCount.1 := Or.inl (xj_in2 (List.mem_of_getElem? (i := 133) rfl) rfl)
theorem ki_JI_265 : Cond.constant "java/lang/Integer" 265 (1431655765) ∈ xj_GW := (xj_in2 (List.mem_of_getElem? (i := 136) rfl) rfl)
theorem ki_JI_266 : Cond.constant "java/lang/Integer" 266 (858993459) ∈ xj_GW := (xj_in2 (List.mem_of_getElem? (i := 137) rfl) rfl)
theorem ki_JI_267 : Cond.constant "java/lang/Integer" 267 (252645135) ∈ xj_GW := (xj_in2 (List.mem_of_getElem? (i := 138) rfl) rfl)
theorem lk_R_250 : xj_LK "ThreePhaseGroup$Replica" 250 m_R_settle.1 := Or.inl (xj_in2 (List.mem_of_getElem? (i := 139) rfl) rfl)
theorem lk_R_280 : xj_LK "ThreePhaseGroup$Replica" 280 m_S_forgetProofs.1 := Or.inl (xj_in2 (List.mem_of_getElem? (i := 143) rfl) rfl)
theorem lk_G_81 : xj_LK "ThreePhaseGroup" 81 m_R_followRules.1 := Or.inl (xj_in2 (List.mem_of_getElem? (i := 147) rfl) rfl)
theorem ki_R_177 : Cond.constant "ThreePhaseGroup$Replica" 177 (100000) ∈ xj_GW := (xj_in2 (List.mem_of_getElem? (i := 151) rfl) rfl)
theorem lk_R_178 : xj_LK "ThreePhaseGroup$Replica" 178 m_R_prepareNext.1 := Or.inl (xj_in2 (List.mem_of_getElem? (i := 152) rfl) rfl)
theorem lk_R_210 : xj_LK "ThreePhaseGroup$Replica" 210 m_R_isPrimary.1 := Or.inl (xj_in2 (List.mem_of_getElem? (i := 156) rfl) rfl)
theorem lk_R_213 : xj_LK "ThreePhaseGroup$Replica" 213 m_B_post.1 := Or.inl (xj_in2 (List.mem_of_getElem? (i := 160) rfl) rfl)
theorem lk_R_182 : xj_LK "ThreePhaseGroup$Replica" 182 m_R_commitNext.1 := Or.inl (xj_in2 (List.mem_of_getElem? (i := 161) rfl) rfl)
theorem lk_R_217 : xj_LK "ThreePhaseGroup$Replica" 217 m_S_countPrepares.1 := Or.inl (xj_in2 (List.mem_of_getElem? (i := 165) rfl) rfl)
theorem lk_S_33 : xj_LK "ThreePhaseGroup$Slot" 33 m_S_countAccepted.1 := Or.inl (xj_in2 (List.mem_of_getElem? (i := 169) rfl) rfl)
theorem lk_R_185 : xj_LK "ThreePhaseGroup$Replica" 185 m_R_decideNext.1 := Or.inl (xj_in2 (List.mem_of_getElem? (i := 173) rfl) rfl)
theorem lk_R_226 : xj_LK "ThreePhaseGroup$Replica" 226 m_S_countCommits.1 := Or.inl (xj_in2 (List.mem_of_getElem? (i := 177) rfl) rfl)
theorem lk_R_188 : xj_LK "ThreePhaseGroup$Replica" 188 m_R_executeNext.1 := Or.inl (xj_in2 (List.mem_of_getElem? (i := 181) rfl) rfl)
theorem lk_R_229 : xj_LK "ThreePhaseGroup$Replica" 229 m_R_execute.1 := Or.inl (xj_in2 (List.mem_of_getElem? (i := 185) rfl) rfl)
theorem lk_R_232 : xj_LK "ThreePhaseGroup$Replica" 232 m_V_valueOf.1 := Or.inl (xj_in2 (List.mem_of_getElem? (i := 189) rfl) rfl)
theorem lk_R_235 : xj_LK "ThreePhaseGroup$Replica" 235 m_V_valueAfter.1 := Or.inl (xj_in2 (List.mem_of_getElem? (i := 192) rfl) rfl)
theorem lk_R_239 : xj_LK "ThreePhaseGroup$Replica" 239 m_V_withValue.1 := Or.inl (xj_in2 (List.mem_of_getElem? (i := 195) rfl) rfl)
theorem kl_V_11 : Cond.constantLong "ThreePhaseGroup$Service" 11 (15) ∈ xj_GW := (xj_in2 (List.mem_of_getElem? (i := 198) rfl) rfl)
theorem lk_V_13 : xj_LK "ThreePhaseGroup$Service" 13 m_V_withBits.1 := Or.inl (xj_in2 (List.mem_of_getElem? (i := 199) rfl) rfl)
theorem kl_V_19 : Cond.constantLong "ThreePhaseGroup$Service" 19 (-1) ∈ xj_GW := (xj_in2 (List.mem_of_getElem? (i := 202) rfl) rfl)
theorem lk_R_243 : xj_LK "ThreePhaseGroup$Replica" 243 m_V_withResult.1 := Or.inl (xj_in2 (List.mem_of_getElem? (i := 203) rfl) rfl)
theorem kl_V_17 : Cond.constantLong "ThreePhaseGroup$Service" 17 (4095) ∈ xj_GW := (xj_in2 (List.mem_of_getElem? (i := 206) rfl) rfl)
theorem lk_R_191 : xj_LK "ThreePhaseGroup$Replica" 191 m_R_settleNext.1 := Or.inl (xj_in2 (List.mem_of_getElem? (i := 207) rfl) rfl)
theorem lk_R_247 : xj_LK "ThreePhaseGroup$Replica" 247 m_R_countNotedLike.1 := Or.inl (xj_in2 (List.mem_of_getElem? (i := 211) rfl) rfl)
theorem lk_R_254 : xj_LK "ThreePhaseGroup$Replica" 254 m_JI_bitCount.1 := Or.inl (xj_in2 (List.mem_of_getElem? (i := 215) rfl) rfl)
theorem lk_R_194 : xj_LK "ThreePhaseGroup$Replica" 194 m_R_joinChange.1 := Or.inl (xj_in2 (List.mem_of_getElem? (i := 216) rfl) rfl)
theorem lk_R_259 : xj_LK "ThreePhaseGroup$Replica" 259 m_JM_min.1 := Or.inl (xj_in2 (List.mem_of_getElem? (i := 220) rfl) rfl)
theorem lk_R_174 : xj_LK "ThreePhaseGroup$Replica" 174 m_R_begin.1 := Or.inl (xj_in2 (List.mem_of_getElem? (i := 223) rfl) rfl)
theorem lk_R_197 : xj_LK "ThreePhaseGroup$Replica" 197 m_R_openView.1 := Or.inl (xj_in2 (List.mem_of_getElem? (i := 227) rfl) rfl)
theorem lk_R_265 : xj_LK "ThreePhaseGroup$Replica" 265 m_R_votesForView.1 := Or.inl (xj_in2 (List.mem_of_getElem? (i := 231) rfl) rfl)
theorem lk_R_268 : xj_LK "ThreePhaseGroup$Replica" 268 m_B_ordersDue.1 := Or.inl (xj_in2 (List.mem_of_getElem? (i := 235) rfl) rfl)
theorem lk_B_88 : xj_LK "ThreePhaseGroup$Board" 88 m_B_startOf.1 := Or.inl (xj_in2 (List.mem_of_getElem? (i := 239) rfl) rfl)
theorem lk_B_91 : xj_LK "ThreePhaseGroup$Board" 91 m_B_greatestClaimant.1 := Or.inl (xj_in3 (List.mem_of_getElem? (i := 0) rfl) rfl)
theorem lk_B_53 : xj_LK "ThreePhaseGroup$Board" 53 m_B_claimFor.1 := Or.inl (xj_in3 (List.mem_of_getElem? (i := 4) rfl) rfl)
theorem lk_B_57 : xj_LK "ThreePhaseGroup$Board" 57 m_B_backing.1 := Or.inl (xj_in3 (List.mem_of_getElem? (i := 8) rfl) rfl)
theorem lk_B_76 : xj_LK "ThreePhaseGroup$Board" 76 m_G_primaryOf.1 := Or.inr ⟨_, (xj_nn3 (List.mem_of_getElem? (i := 12) rfl) rfl)⟩
theorem lk_B_79 : xj_LK "ThreePhaseGroup$Board" 79 m_B_isPrepare.1 := Or.inl (xj_in3 (List.mem_of_getElem? (i := 13) rfl) rfl)
theorem lk_R_200 : xj_LK "ThreePhaseGroup$Replica" 200 m_R_orderNext.1 := Or.inl (xj_in3 (List.mem_of_getElem? (i := 17) rfl) rfl)
theorem lk_R_271 : xj_LK "ThreePhaseGroup$Replica" 271 m_R_leastUnordered.1 := Or.inl (xj_in3 (List.mem_of_getElem? (i := 21) rfl) rfl)
theorem lk_R_274 : xj_LK "ThreePhaseGroup$Replica" 274 m_R_isAccepted.1 := Or.inl (xj_in3 (List.mem_of_getElem? (i := 25) rfl) rfl)
theorem lk_R_203 : xj_LK "ThreePhaseGroup$Replica" 203 m_R_setTimer.1 := Or.inl (xj_in3 (List.mem_of_getElem? (i := 29) rfl) rfl)
theorem lk_R_206 : xj_LK "ThreePhaseGroup$Replica" 206 m_R_countWaiting.1 := Or.inl (xj_in3 (List.mem_of_getElem? (i := 33) rfl) rfl)
theorem lk_G_84 : xj_LK "ThreePhaseGroup" 84 m_B_judgeNew.1 := Or.inl (xj_in3 (List.mem_of_getElem? (i := 37) rfl) rfl)
theorem lk_B_39 : xj_LK "ThreePhaseGroup$Board" 39 m_B_isValidViewChange.1 := Or.inl (xj_in3 (List.mem_of_getElem? (i := 41) rfl) rfl)
theorem lk_B_46 : xj_LK "ThreePhaseGroup$Board" 46 m_B_isChangedView.1 := Or.inl (xj_in3 (List.mem_of_getElem? (i := 45) rfl) rfl)
theorem lk_B_49 : xj_LK "ThreePhaseGroup$Board" 49 m_B_certificate.1 := Or.inl (xj_in3 (List.mem_of_getElem? (i := 48) rfl) rfl)
theorem lk_B_43 : xj_LK "ThreePhaseGroup$Board" 43 m_B_isValidNewView.1 := Or.inl (xj_in3 (List.mem_of_getElem? (i := 49) rfl) rfl)
theorem lk_B_70 : xj_LK "ThreePhaseGroup$Board" 70 m_B_ordersDue.1 := Or.inl (xj_in3 (List.mem_of_getElem? (i := 53) rfl) rfl)
theorem lk_L_23 : xj_LK "ThreePhaseGroupLaw" 23 m_G_pump.1 := Or.inl (xj_in3 (List.mem_of_getElem? (i := 54) rfl) rfl)
theorem lk_L_28 : xj_LK "ThreePhaseGroupLaw" 28 m_G_tick.1 := Or.inl (xj_in3 (List.mem_of_getElem? (i := 58) rfl) rfl)
theorem lk_G_72 : xj_LK "ThreePhaseGroup" 72 m_G_isReplica.1 := Or.inl (xj_in3 (List.mem_of_getElem? (i := 62) rfl) rfl)
theorem lk_G_78 : xj_LK "ThreePhaseGroup" 78 m_R_stepClock.1 := Or.inl (xj_in3 (List.mem_of_getElem? (i := 65) rfl) rfl)
theorem lk_L_33 : xj_LK "ThreePhaseGroupLaw" 33 m_G_corrupt.1 := Or.inl (xj_in3 (List.mem_of_getElem? (i := 69) rfl) rfl)
theorem lk_L_37 : xj_LK "ThreePhaseGroupLaw" 37 m_G_forge.1 := Or.inl (xj_in3 (List.mem_of_getElem? (i := 73) rfl) rfl)
theorem lk_G_87 : xj_LK "ThreePhaseGroup" 87 m_G_postForged.1 := Or.inl (xj_in3 (List.mem_of_getElem? (i := 77) rfl) rfl)
theorem lk_L_43 : xj_LK "ThreePhaseGroupLaw" 43 m_G_forgeCheckpoint.1 := Or.inl (xj_in3 (List.mem_of_getElem? (i := 81) rfl) rfl)
theorem lk_L_48 : xj_LK "ThreePhaseGroupLaw" 48 m_G_messages.1 := Or.inl (xj_in3 (List.mem_of_getElem? (i := 85) rfl) rfl)
theorem lk_L_53 : xj_LK "ThreePhaseGroupLaw" 53 m_G_look.1 := Or.inl (xj_in3 (List.mem_of_getElem? (i := 89) rfl) rfl)
theorem kl_G_94 : Cond.constantLong "ThreePhaseGroup" 94 (-1) ∈ xj_GW := (xj_in3 (List.mem_of_getElem? (i := 93) rfl) rfl)
theorem lk_L_58 : xj_LK "ThreePhaseGroupLaw" 58 m_G_mark.1 := Or.inl (xj_in3 (List.mem_of_getElem? (i := 94) rfl) rfl)
theorem lk_L_63 : xj_LK "ThreePhaseGroupLaw" 63 m_G_view.1 := Or.inl (xj_in3 (List.mem_of_getElem? (i := 98) rfl) rfl)
theorem lk_L_67 : xj_LK "ThreePhaseGroupLaw" 67 m_G_executed.1 := Or.inl (xj_in3 (List.mem_of_getElem? (i := 102) rfl) rfl)
theorem lk_L_71 : xj_LK "ThreePhaseGroupLaw" 71 m_G_stable.1 := Or.inl (xj_in3 (List.mem_of_getElem? (i := 106) rfl) rfl)
theorem lk_L_75 : xj_LK "ThreePhaseGroupLaw" 75 m_G_state.1 := Or.inl (xj_in3 (List.mem_of_getElem? (i := 110) rfl) rfl)
theorem lk_L_80 : xj_LK "ThreePhaseGroupLaw" 80 m_G_slot.1 := Or.inl (xj_in3 (List.mem_of_getElem? (i := 114) rfl) rfl)
theorem lk_G_133 : xj_LK "ThreePhaseGroup" 133 m_R_inWindow.1 := Or.inl (xj_in3 (List.mem_of_getElem? (i := 118) rfl) rfl)
theorem lk_G_137 : xj_LK "ThreePhaseGroup" 137 m_R_slotAt.1 := Or.inl (xj_in3 (List.mem_of_getElem? (i := 119) rfl) rfl)
theorem lk_G_141 : xj_LK "ThreePhaseGroup" 141 m_S_summary.1 := Or.inl (xj_in3 (List.mem_of_getElem? (i := 120) rfl) rfl)
theorem lk_S_37 : xj_LK "ThreePhaseGroup$Slot" 37 m_S_countPrepares.1 := Or.inl (xj_in3 (List.mem_of_getElem? (i := 124) rfl) rfl)
theorem lk_S_41 : xj_LK "ThreePhaseGroup$Slot" 41 m_S_countCommits.1 := Or.inl (xj_in3 (List.mem_of_getElem? (i := 125) rfl) rfl)
theorem lk_L_84 : xj_LK "ThreePhaseGroupLaw" 84 m_G_ordered.1 := Or.inl (xj_in3 (List.mem_of_getElem? (i := 126) rfl) rfl)
theorem lk_L_88 : xj_LK "ThreePhaseGroupLaw" 88 m_G_timer.1 := Or.inl (xj_in3 (List.mem_of_getElem? (i := 130) rfl) rfl)
theorem lk_L_92 : xj_LK "ThreePhaseGroupLaw" 92 m_G_waiting.1 := Or.inl (xj_in3 (List.mem_of_getElem? (i := 134) rfl) rfl)
theorem lk_G_153 : xj_LK "ThreePhaseGroup" 153 m_R_countWaiting.1 := Or.inl (xj_in3 (List.mem_of_getElem? (i := 138) rfl) rfl)
theorem lk_L_96 : xj_LK "ThreePhaseGroupLaw" 96 m_G_outstanding.1 := Or.inl (xj_in3 (List.mem_of_getElem? (i := 139) rfl) rfl)
theorem lk_L_100 : xj_LK "ThreePhaseGroupLaw" 100 m_G_answer.1 := Or.inl (xj_in3 (List.mem_of_getElem? (i := 143) rfl) rfl)
theorem cw_L_10 : Cond.classLink "ThreePhaseGroupLaw" 10 "ThreePhaseGroupModel" ∈ xj_GW := (xj_in3 (List.mem_of_getElem? (i := 147) rfl) rfl)
theorem iw_T : Cond.instantiable "ThreePhaseGroupModel" 27 ∈ xj_GW := (xj_in3 (List.mem_of_getElem? (i := 148) rfl) rfl)
theorem lk_L_12 : xj_LK "ThreePhaseGroupLaw" 12 m_T_init.1 := Or.inl (xj_in3 (List.mem_of_getElem? (i := 149) rfl) rfl)
theorem lk_T_1 : xj_LK "ThreePhaseGroupModel" 1 m_JO_init.1 := Or.inl (xj_in3 (List.mem_of_getElem? (i := 152) rfl) rfl)
theorem fw_T_88 : Cond.fieldLink "ThreePhaseGroupModel" 88 "ThreePhaseGroupModel" "count" "I" ∈ xj_GW := (xj_in3 (List.mem_of_getElem? (i := 153) rfl) rfl)
theorem fl_T_88 : xj_FL "ThreePhaseGroupModel" 88 "ThreePhaseGroupModel" "count" "I" := Or.inl fw_T_88
theorem fw_T_7 : Cond.fieldLink "ThreePhaseGroupModel" 7 "ThreePhaseGroupModel" "kind" "[I" ∈ xj_GW := (xj_in3 (List.mem_of_getElem? (i := 154) rfl) rfl)
theorem fl_T_7 : xj_FL "ThreePhaseGroupModel" 7 "ThreePhaseGroupModel" "kind" "[I" := Or.inl fw_T_7
theorem fw_T_13 : Cond.fieldLink "ThreePhaseGroupModel" 13 "ThreePhaseGroupModel" "from" "[I" ∈ xj_GW := (xj_in3 (List.mem_of_getElem? (i := 155) rfl) rfl)
theorem fl_T_13 : xj_FL "ThreePhaseGroupModel" 13 "ThreePhaseGroupModel" "from" "[I" := Or.inl fw_T_13
theorem fw_T_16 : Cond.fieldLink "ThreePhaseGroupModel" 16 "ThreePhaseGroupModel" "a" "[I" ∈ xj_GW := (xj_in3 (List.mem_of_getElem? (i := 156) rfl) rfl)
theorem fl_T_16 : xj_FL "ThreePhaseGroupModel" 16 "ThreePhaseGroupModel" "a" "[I" := Or.inl fw_T_16
theorem fw_T_19 : Cond.fieldLink "ThreePhaseGroupModel" 19 "ThreePhaseGroupModel" "b" "[J" ∈ xj_GW := (xj_in3 (List.mem_of_getElem? (i := 157) rfl) rfl)
theorem fl_T_19 : xj_FL "ThreePhaseGroupModel" 19 "ThreePhaseGroupModel" "b" "[J" := Or.inl fw_T_19
theorem fw_T_23 : Cond.fieldLink "ThreePhaseGroupModel" 23 "ThreePhaseGroupModel" "c" "[I" ∈ xj_GW := (xj_in3 (List.mem_of_getElem? (i := 158) rfl) rfl)
theorem fl_T_23 : xj_FL "ThreePhaseGroupModel" 23 "ThreePhaseGroupModel" "c" "[I" := Or.inl fw_T_23
theorem fw_T_26 : Cond.fieldLink "ThreePhaseGroupModel" 26 "ThreePhaseGroupModel" "forged" "[Z" ∈ xj_GW := (xj_in3 (List.mem_of_getElem? (i := 159) rfl) rfl)
theorem fl_T_26 : xj_FL "ThreePhaseGroupModel" 26 "ThreePhaseGroupModel" "forged" "[Z" := Or.inl fw_T_26
theorem fw_T_30 : Cond.fieldLink "ThreePhaseGroupModel" 30 "ThreePhaseGroupModel" "noted" "[Z" ∈ xj_GW := (xj_in3 (List.mem_of_getElem? (i := 160) rfl) rfl)
theorem fl_T_30 : xj_FL "ThreePhaseGroupModel" 30 "ThreePhaseGroupModel" "noted" "[Z" := Or.inl fw_T_30
theorem fw_T_33 : Cond.fieldLink "ThreePhaseGroupModel" 33 "ThreePhaseGroupModel" "known" "[Z" ∈ xj_GW := (xj_in3 (List.mem_of_getElem? (i := 161) rfl) rfl)
theorem fl_T_33 : xj_FL "ThreePhaseGroupModel" 33 "ThreePhaseGroupModel" "known" "[Z" := Or.inl fw_T_33
theorem fw_T_36 : Cond.fieldLink "ThreePhaseGroupModel" 36 "ThreePhaseGroupModel" "view" "[I" ∈ xj_GW := (xj_in3 (List.mem_of_getElem? (i := 162) rfl) rfl)
theorem fl_T_36 : xj_FL "ThreePhaseGroupModel" 36 "ThreePhaseGroupModel" "view" "[I" := Or.inl fw_T_36
theorem fw_T_39 : Cond.fieldLink "ThreePhaseGroupModel" 39 "ThreePhaseGroupModel" "changing" "[Z" ∈ xj_GW := (xj_in3 (List.mem_of_getElem? (i := 163) rfl) rfl)
theorem fl_T_39 : xj_FL "ThreePhaseGroupModel" 39 "ThreePhaseGroupModel" "changing" "[Z" := Or.inl fw_T_39
theorem fw_T_42 : Cond.fieldLink "ThreePhaseGroupModel" 42 "ThreePhaseGroupModel" "h" "[I" ∈ xj_GW := (xj_in3 (List.mem_of_getElem? (i := 164) rfl) rfl)
theorem fl_T_42 : xj_FL "ThreePhaseGroupModel" 42 "ThreePhaseGroupModel" "h" "[I" := Or.inl fw_T_42
theorem fw_T_45 : Cond.fieldLink "ThreePhaseGroupModel" 45 "ThreePhaseGroupModel" "e" "[I" ∈ xj_GW := (xj_in3 (List.mem_of_getElem? (i := 165) rfl) rfl)
theorem fl_T_45 : xj_FL "ThreePhaseGroupModel" 45 "ThreePhaseGroupModel" "e" "[I" := Or.inl fw_T_45
theorem fw_T_48 : Cond.fieldLink "ThreePhaseGroupModel" 48 "ThreePhaseGroupModel" "state" "[J" ∈ xj_GW := (xj_in3 (List.mem_of_getElem? (i := 166) rfl) rfl)
theorem fl_T_48 : xj_FL "ThreePhaseGroupModel" 48 "ThreePhaseGroupModel" "state" "[J" := Or.inl fw_T_48
theorem fw_T_51 : Cond.fieldLink "ThreePhaseGroupModel" 51 "ThreePhaseGroupModel" "span" "[I" ∈ xj_GW := (xj_in3 (List.mem_of_getElem? (i := 167) rfl) rfl)
theorem fl_T_51 : xj_FL "ThreePhaseGroupModel" 51 "ThreePhaseGroupModel" "span" "[I" := Or.inl fw_T_51
theorem fw_T_54 : Cond.fieldLink "ThreePhaseGroupModel" 54 "ThreePhaseGroupModel" "timer" "[I" ∈ xj_GW := (xj_in3 (List.mem_of_getElem? (i := 168) rfl) rfl)
theorem fl_T_54 : xj_FL "ThreePhaseGroupModel" 54 "ThreePhaseGroupModel" "timer" "[I" := Or.inl fw_T_54
theorem fw_T_57 : Cond.fieldLink "ThreePhaseGroupModel" 57 "ThreePhaseGroupModel" "accepted" "[I" ∈ xj_GW := (xj_in3 (List.mem_of_getElem? (i := 169) rfl) rfl)
theorem fl_T_57 : xj_FL "ThreePhaseGroupModel" 57 "ThreePhaseGroupModel" "accepted" "[I" := Or.inl fw_T_57
theorem fw_T_60 : Cond.fieldLink "ThreePhaseGroupModel" 60 "ThreePhaseGroupModel" "decided" "[I" ∈ xj_GW := (xj_in3 (List.mem_of_getElem? (i := 170) rfl) rfl)
theorem fl_T_60 : xj_FL "ThreePhaseGroupModel" 60 "ThreePhaseGroupModel" "decided" "[I" := Or.inl fw_T_60
theorem fw_T_63 : Cond.fieldLink "ThreePhaseGroupModel" 63 "ThreePhaseGroupModel" "certified" "[I" ∈ xj_GW := (xj_in3 (List.mem_of_getElem? (i := 171) rfl) rfl)
theorem fl_T_63 : xj_FL "ThreePhaseGroupModel" 63 "ThreePhaseGroupModel" "certified" "[I" := Or.inl fw_T_63
theorem fw_T_66 : Cond.fieldLink "ThreePhaseGroupModel" 66 "ThreePhaseGroupModel" "certView" "[I" ∈ xj_GW := (xj_in3 (List.mem_of_getElem? (i := 172) rfl) rfl)
theorem fl_T_66 : xj_FL "ThreePhaseGroupModel" 66 "ThreePhaseGroupModel" "certView" "[I" := Or.inl fw_T_66
theorem fw_T_69 : Cond.fieldLink "ThreePhaseGroupModel" 69 "ThreePhaseGroupModel" "faulty" "I" ∈ xj_GW := (xj_in3 (List.mem_of_getElem? (i := 173) rfl) rfl)
theorem fl_T_69 : xj_FL "ThreePhaseGroupModel" 69 "ThreePhaseGroupModel" "faulty" "I" := Or.inl fw_T_69
theorem fw_T_138 : Cond.fieldLink "ThreePhaseGroupModel" 138 "ThreePhaseGroupModel" "afresh" "Z" ∈ xj_GW := (xj_in3 (List.mem_of_getElem? (i := 174) rfl) rfl)
theorem fl_T_138 : xj_FL "ThreePhaseGroupModel" 138 "ThreePhaseGroupModel" "afresh" "Z" := Or.inl fw_T_138
theorem fw_T_73 : Cond.fieldLink "ThreePhaseGroupModel" 73 "ThreePhaseGroupModel" "stamp" "[I" ∈ xj_GW := (xj_in3 (List.mem_of_getElem? (i := 175) rfl) rfl)
theorem fl_T_73 : xj_FL "ThreePhaseGroupModel" 73 "ThreePhaseGroupModel" "stamp" "[I" := Or.inl fw_T_73
theorem fw_T_76 : Cond.fieldLink "ThreePhaseGroupModel" 76 "ThreePhaseGroupModel" "open" "[I" ∈ xj_GW := (xj_in3 (List.mem_of_getElem? (i := 176) rfl) rfl)
theorem fl_T_76 : xj_FL "ThreePhaseGroupModel" 76 "ThreePhaseGroupModel" "open" "[I" := Or.inl fw_T_76
theorem fw_T_79 : Cond.fieldLink "ThreePhaseGroupModel" 79 "ThreePhaseGroupModel" "reply" "[I" ∈ xj_GW := (xj_in3 (List.mem_of_getElem? (i := 177) rfl) rfl)
theorem fl_T_79 : xj_FL "ThreePhaseGroupModel" 79 "ThreePhaseGroupModel" "reply" "[I" := Or.inl fw_T_79
theorem fw_T_82 : Cond.fieldLink "ThreePhaseGroupModel" 82 "ThreePhaseGroupModel" "taken" "[Z" ∈ xj_GW := (xj_in3 (List.mem_of_getElem? (i := 178) rfl) rfl)
theorem fl_T_82 : xj_FL "ThreePhaseGroupModel" 82 "ThreePhaseGroupModel" "taken" "[Z" := Or.inl fw_T_82
theorem fw_T_85 : Cond.fieldLink "ThreePhaseGroupModel" 85 "ThreePhaseGroupModel" "mark" "[I" ∈ xj_GW := (xj_in3 (List.mem_of_getElem? (i := 179) rfl) rfl)
theorem fl_T_85 : xj_FL "ThreePhaseGroupModel" 85 "ThreePhaseGroupModel" "mark" "[I" := Or.inl fw_T_85
theorem lk_L_95 : xj_LK "ThreePhaseGroupLaw" 95 m_T_waiting.1 := Or.inl (xj_in3 (List.mem_of_getElem? (i := 235) rfl) rfl)
theorem lk_T_95 : xj_LK "ThreePhaseGroupModel" 95 m_T_outside.1 := Or.inl (xj_in3 (List.mem_of_getElem? (i := 239) rfl) rfl)
theorem lk_T_131 : xj_LK "ThreePhaseGroupModel" 131 m_T_waits.1 := Or.inl (xj_in4 (List.mem_of_getElem? (i := 2) rfl) rfl)
theorem kl_T_107 : Cond.constantLong "ThreePhaseGroupModel" 107 (255) ∈ xj_GW := (xj_in4 (List.mem_of_getElem? (i := 6) rfl) rfl)
theorem lk_L_17 : xj_LK "ThreePhaseGroupLaw" 17 m_T_submit.1 := Or.inl (xj_in4 (List.mem_of_getElem? (i := 7) rfl) rfl)
theorem lk_T_179 : xj_LK "ThreePhaseGroupModel" 179 m_T_send.1 := Or.inl (xj_in4 (List.mem_of_getElem? (i := 11) rfl) rfl)
theorem lk_L_22 : xj_LK "ThreePhaseGroupLaw" 22 m_T_deliver.1 := Or.inl (xj_in4 (List.mem_of_getElem? (i := 15) rfl) rfl)
theorem lk_T_229 : xj_LK "ThreePhaseGroupModel" 229 m_T_give.1 := Or.inl (xj_in4 (List.mem_of_getElem? (i := 19) rfl) rfl)
theorem lk_T_135 : xj_LK "ThreePhaseGroupModel" 135 m_T_answered.1 := Or.inl (xj_in4 (List.mem_of_getElem? (i := 23) rfl) rfl)
theorem lk_T_142 : xj_LK "ThreePhaseGroupModel" 142 m_T_takes.1 := Or.inl (xj_in4 (List.mem_of_getElem? (i := 27) rfl) rfl)
theorem lk_T_149 : xj_LK "ThreePhaseGroupModel" 149 m_T_window.1 := Or.inl (xj_in4 (List.mem_of_getElem? (i := 31) rfl) rfl)
theorem lk_T_153 : xj_LK "ThreePhaseGroupModel" 153 m_T_takesRequest.1 := Or.inl (xj_in4 (List.mem_of_getElem? (i := 35) rfl) rfl)
theorem lk_T_156 : xj_LK "ThreePhaseGroupModel" 156 m_T_takesOrder.1 := Or.inl (xj_in4 (List.mem_of_getElem? (i := 39) rfl) rfl)
theorem lk_T_159 : xj_LK "ThreePhaseGroupModel" 159 m_T_notes.1 := Or.inl (xj_in4 (List.mem_of_getElem? (i := 43) rfl) rfl)
theorem lk_T_115 : xj_LK "ThreePhaseGroupModel" 115 m_T_goodChange.1 := Or.inl (xj_in4 (List.mem_of_getElem? (i := 47) rfl) rfl)
theorem lk_T_99 : xj_LK "ThreePhaseGroupModel" 99 m_T_proof.1 := Or.inl (xj_in4 (List.mem_of_getElem? (i := 51) rfl) rfl)
theorem lk_T_91 : xj_LK "ThreePhaseGroupModel" 91 m_T_senders.1 := Or.inl (xj_in4 (List.mem_of_getElem? (i := 55) rfl) rfl)
theorem lk_T_103 : xj_LK "ThreePhaseGroupModel" 103 m_T_backing.1 := Or.inl (xj_in4 (List.mem_of_getElem? (i := 59) rfl) rfl)
theorem lk_T_163 : xj_LK "ThreePhaseGroupModel" 163 m_T_takesChange.1 := Or.inl (xj_in4 (List.mem_of_getElem? (i := 63) rfl) rfl)
theorem lk_T_166 : xj_LK "ThreePhaseGroupModel" 166 m_T_goodNew.1 := Or.inl (xj_in4 (List.mem_of_getElem? (i := 67) rfl) rfl)
theorem kl_T_109 : Cond.constantLong "ThreePhaseGroupModel" 109 (16777215) ∈ xj_GW := (xj_in4 (List.mem_of_getElem? (i := 71) rfl) rfl)
theorem lk_T_111 : xj_LK "ThreePhaseGroupModel" 111 m_T_vote.1 := Or.inl (xj_in4 (List.mem_of_getElem? (i := 72) rfl) rfl)
theorem lk_T_119 : xj_LK "ThreePhaseGroupModel" 119 m_T_orders.1 := Or.inl (xj_in4 (List.mem_of_getElem? (i := 76) rfl) rfl)
theorem lk_T_125 : xj_LK "ThreePhaseGroupModel" 125 m_T_start.1 := Or.inl (xj_in4 (List.mem_of_getElem? (i := 80) rfl) rfl)
theorem lk_T_128 : xj_LK "ThreePhaseGroupModel" 128 m_T_claim.1 := Or.inl (xj_in4 (List.mem_of_getElem? (i := 84) rfl) rfl)
theorem kl_T_123 : Cond.constantLong "ThreePhaseGroupModel" 123 (3) ∈ xj_GW := (xj_in4 (List.mem_of_getElem? (i := 88) rfl) rfl)
theorem lk_T_169 : xj_LK "ThreePhaseGroupModel" 169 m_T_enters.1 := Or.inl (xj_in4 (List.mem_of_getElem? (i := 89) rfl) rfl)
theorem lk_T_172 : xj_LK "ThreePhaseGroupModel" 172 m_T_dropAccepted.1 := Or.inl (xj_in4 (List.mem_of_getElem? (i := 93) rfl) rfl)
theorem lk_T_175 : xj_LK "ThreePhaseGroupModel" 175 m_T_settles.1 := Or.inl (xj_in4 (List.mem_of_getElem? (i := 97) rfl) rfl)
theorem lk_T_145 : xj_LK "ThreePhaseGroupModel" 145 m_T_rules.1 := Or.inl (xj_in4 (List.mem_of_getElem? (i := 101) rfl) rfl)
theorem lk_T_183 : xj_LK "ThreePhaseGroupModel" 183 m_T_phases.1 := Or.inl (xj_in4 (List.mem_of_getElem? (i := 105) rfl) rfl)
theorem lk_T_204 : xj_LK "ThreePhaseGroupModel" 204 m_T_phase.1 := Or.inl (xj_in4 (List.mem_of_getElem? (i := 109) rfl) rfl)
theorem lk_T_208 : xj_LK "ThreePhaseGroupModel" 208 m_T_sent.1 := Or.inl (xj_in4 (List.mem_of_getElem? (i := 113) rfl) rfl)
theorem lk_T_211 : xj_LK "ThreePhaseGroupModel" 211 m_T_heard.1 := Or.inl (xj_in4 (List.mem_of_getElem? (i := 117) rfl) rfl)
theorem lk_T_186 : xj_LK "ThreePhaseGroupModel" 186 m_T_executes.1 := Or.inl (xj_in4 (List.mem_of_getElem? (i := 121) rfl) rfl)
theorem lk_T_214 : xj_LK "ThreePhaseGroupModel" 214 m_T_serves.1 := Or.inl (xj_in4 (List.mem_of_getElem? (i := 125) rfl) rfl)
theorem kl_T_218 : Cond.constantLong "ThreePhaseGroupModel" 218 (15) ∈ xj_GW := (xj_in4 (List.mem_of_getElem? (i := 129) rfl) rfl)
theorem kl_T_220 : Cond.constantLong "ThreePhaseGroupModel" 220 (2) ∈ xj_GW := (xj_in4 (List.mem_of_getElem? (i := 130) rfl) rfl)
theorem kl_T_222 : Cond.constantLong "ThreePhaseGroupModel" 222 (-1) ∈ xj_GW := (xj_in4 (List.mem_of_getElem? (i := 131) rfl) rfl)
theorem kl_T_224 : Cond.constantLong "ThreePhaseGroupModel" 224 (4095) ∈ xj_GW := (xj_in4 (List.mem_of_getElem? (i := 132) rfl) rfl)
theorem lk_T_189 : xj_LK "ThreePhaseGroupModel" 189 m_T_truncates.1 := Or.inl (xj_in4 (List.mem_of_getElem? (i := 133) rfl) rfl)
theorem lk_T_192 : xj_LK "ThreePhaseGroupModel" 192 m_T_joins.1 := Or.inl (xj_in4 (List.mem_of_getElem? (i := 137) rfl) rfl)
theorem lk_T_226 : xj_LK "ThreePhaseGroupModel" 226 m_T_begins.1 := Or.inl (xj_in4 (List.mem_of_getElem? (i := 141) rfl) rfl)
theorem lk_T_195 : xj_LK "ThreePhaseGroupModel" 195 m_T_opens.1 := Or.inl (xj_in4 (List.mem_of_getElem? (i := 145) rfl) rfl)
theorem lk_T_198 : xj_LK "ThreePhaseGroupModel" 198 m_T_proposes.1 := Or.inl (xj_in4 (List.mem_of_getElem? (i := 149) rfl) rfl)
theorem lk_T_201 : xj_LK "ThreePhaseGroupModel" 201 m_T_waiting.1 := Or.inl (xj_in4 (List.mem_of_getElem? (i := 153) rfl) rfl)
theorem lk_L_27 : xj_LK "ThreePhaseGroupLaw" 27 m_T_pump.1 := Or.inl (xj_in4 (List.mem_of_getElem? (i := 154) rfl) rfl)
theorem lk_L_32 : xj_LK "ThreePhaseGroupLaw" 32 m_T_tick.1 := Or.inl (xj_in4 (List.mem_of_getElem? (i := 158) rfl) rfl)
theorem lk_L_36 : xj_LK "ThreePhaseGroupLaw" 36 m_T_corrupt.1 := Or.inl (xj_in4 (List.mem_of_getElem? (i := 162) rfl) rfl)
theorem lk_L_40 : xj_LK "ThreePhaseGroupLaw" 40 m_T_forge.1 := Or.inl (xj_in4 (List.mem_of_getElem? (i := 166) rfl) rfl)
theorem lk_T_232 : xj_LK "ThreePhaseGroupModel" 232 m_T_forgeOne.1 := Or.inl (xj_in4 (List.mem_of_getElem? (i := 170) rfl) rfl)
theorem lk_L_47 : xj_LK "ThreePhaseGroupLaw" 47 m_T_forgeCheckpoint.1 := Or.inl (xj_in4 (List.mem_of_getElem? (i := 174) rfl) rfl)
theorem lk_L_52 : xj_LK "ThreePhaseGroupLaw" 52 m_T_messages.1 := Or.inl (xj_in4 (List.mem_of_getElem? (i := 178) rfl) rfl)
theorem lk_L_57 : xj_LK "ThreePhaseGroupLaw" 57 m_T_look.1 := Or.inl (xj_in4 (List.mem_of_getElem? (i := 182) rfl) rfl)
theorem lk_L_62 : xj_LK "ThreePhaseGroupLaw" 62 m_T_mark.1 := Or.inl (xj_in4 (List.mem_of_getElem? (i := 186) rfl) rfl)
theorem lk_L_66 : xj_LK "ThreePhaseGroupLaw" 66 m_T_view.1 := Or.inl (xj_in4 (List.mem_of_getElem? (i := 190) rfl) rfl)
theorem lk_L_70 : xj_LK "ThreePhaseGroupLaw" 70 m_T_executed.1 := Or.inl (xj_in4 (List.mem_of_getElem? (i := 194) rfl) rfl)
theorem lk_L_74 : xj_LK "ThreePhaseGroupLaw" 74 m_T_stable.1 := Or.inl (xj_in4 (List.mem_of_getElem? (i := 198) rfl) rfl)
theorem lk_L_79 : xj_LK "ThreePhaseGroupLaw" 79 m_T_state.1 := Or.inl (xj_in4 (List.mem_of_getElem? (i := 202) rfl) rfl)
theorem lk_L_83 : xj_LK "ThreePhaseGroupLaw" 83 m_T_slot.1 := Or.inl (xj_in4 (List.mem_of_getElem? (i := 206) rfl) rfl)
theorem lk_L_87 : xj_LK "ThreePhaseGroupLaw" 87 m_T_ordered.1 := Or.inl (xj_in4 (List.mem_of_getElem? (i := 210) rfl) rfl)
theorem lk_L_91 : xj_LK "ThreePhaseGroupLaw" 91 m_T_timer.1 := Or.inl (xj_in4 (List.mem_of_getElem? (i := 214) rfl) rfl)
theorem lk_L_99 : xj_LK "ThreePhaseGroupLaw" 99 m_T_outstanding.1 := Or.inl (xj_in4 (List.mem_of_getElem? (i := 218) rfl) rfl)
theorem lk_L_103 : xj_LK "ThreePhaseGroupLaw" 103 m_T_answer.1 := Or.inl (xj_in4 (List.mem_of_getElem? (i := 222) rfl) rfl)
theorem kl_L_41 : Cond.constantLong "ThreePhaseGroupLaw" 41 (4294967295) ∈ xj_GW := (xj_in4 (List.mem_of_getElem? (i := 226) rfl) rfl)
theorem cf_G : xj_CF 0 "ThreePhaseGroup" xj_T0 5 xj_t0 := by
  refine ⟨rfl, fun v hv => ?_, by decide +kernel, by decide +kernel⟩
  obtain ⟨k, hk, rfl⟩ := List.mem_map.mp hv
  have hk2 : k < 5 := List.mem_range.mp hk
  match k, hk2 with
  | 0, _ => exact (xj_in1 (List.mem_of_getElem? (i := 214) rfl) rfl)
  | 1, _ => exact (xj_in1 (List.mem_of_getElem? (i := 216) rfl) rfl)
  | 2, _ => exact (xj_in1 (List.mem_of_getElem? (i := 218) rfl) rfl)
  | 3, _ => exact (xj_in1 (List.mem_of_getElem? (i := 220) rfl) rfl)
  | 4, _ => exact (xj_in1 (List.mem_of_getElem? (i := 222) rfl) rfl)
  | k + 5, h => omega
theorem cf_B : xj_CF 1 "ThreePhaseGroup$Board" xj_T1 8 xj_t1 := by
  refine ⟨rfl, fun v hv => ?_, by decide +kernel, by decide +kernel⟩
  obtain ⟨k, hk, rfl⟩ := List.mem_map.mp hv
  have hk2 : k < 8 := List.mem_range.mp hk
  match k, hk2 with
  | 0, _ => exact (xj_in1 (List.mem_of_getElem? (i := 52) rfl) rfl)
  | 1, _ => exact (xj_in1 (List.mem_of_getElem? (i := 54) rfl) rfl)
  | 2, _ => exact (xj_in1 (List.mem_of_getElem? (i := 56) rfl) rfl)
  | 3, _ => exact (xj_in1 (List.mem_of_getElem? (i := 58) rfl) rfl)
  | 4, _ => exact (xj_in1 (List.mem_of_getElem? (i := 60) rfl) rfl)
  | 5, _ => exact (xj_in1 (List.mem_of_getElem? (i := 62) rfl) rfl)
  | 6, _ => exact (xj_in1 (List.mem_of_getElem? (i := 64) rfl) rfl)
  | 7, _ => exact (xj_in1 (List.mem_of_getElem? (i := 66) rfl) rfl)
  | k + 8, h => omega
theorem cf_R : xj_CF 2 "ThreePhaseGroup$Replica" xj_T2 14 xj_t2 := by
  refine ⟨rfl, fun v hv => ?_, by decide +kernel, by decide +kernel⟩
  obtain ⟨k, hk, rfl⟩ := List.mem_map.mp hv
  have hk2 : k < 14 := List.mem_range.mp hk
  match k, hk2 with
  | 0, _ => exact (xj_in1 (List.mem_of_getElem? (i := 154) rfl) rfl)
  | 1, _ => exact (xj_in1 (List.mem_of_getElem? (i := 156) rfl) rfl)
  | 2, _ => exact (xj_in1 (List.mem_of_getElem? (i := 158) rfl) rfl)
  | 3, _ => exact (xj_in1 (List.mem_of_getElem? (i := 160) rfl) rfl)
  | 4, _ => exact (xj_in1 (List.mem_of_getElem? (i := 162) rfl) rfl)
  | 5, _ => exact (xj_in1 (List.mem_of_getElem? (i := 164) rfl) rfl)
  | 6, _ => exact (xj_in1 (List.mem_of_getElem? (i := 166) rfl) rfl)
  | 7, _ => exact (xj_in1 (List.mem_of_getElem? (i := 168) rfl) rfl)
  | 8, _ => exact (xj_in1 (List.mem_of_getElem? (i := 170) rfl) rfl)
  | 9, _ => exact (xj_in1 (List.mem_of_getElem? (i := 172) rfl) rfl)
  | 10, _ => exact (xj_in1 (List.mem_of_getElem? (i := 174) rfl) rfl)
  | 11, _ => exact (xj_in1 (List.mem_of_getElem? (i := 176) rfl) rfl)
  | 12, _ => exact (xj_in1 (List.mem_of_getElem? (i := 178) rfl) rfl)
  | 13, _ => exact (xj_in1 (List.mem_of_getElem? (i := 180) rfl) rfl)
  | k + 14, h => omega
theorem cf_S : xj_CF 3 "ThreePhaseGroup$Slot" xj_T3 5 xj_t3 := by
  refine ⟨rfl, fun v hv => ?_, by decide +kernel, by decide +kernel⟩
  obtain ⟨k, hk, rfl⟩ := List.mem_map.mp hv
  have hk2 : k < 5 := List.mem_range.mp hk
  match k, hk2 with
  | 0, _ => exact (xj_in1 (List.mem_of_getElem? (i := 120) rfl) rfl)
  | 1, _ => exact (xj_in1 (List.mem_of_getElem? (i := 122) rfl) rfl)
  | 2, _ => exact (xj_in1 (List.mem_of_getElem? (i := 124) rfl) rfl)
  | 3, _ => exact (xj_in1 (List.mem_of_getElem? (i := 126) rfl) rfl)
  | 4, _ => exact (xj_in1 (List.mem_of_getElem? (i := 128) rfl) rfl)
  | k + 5, h => omega
theorem cf_N : xj_CF 4 "ThreePhaseGroup$Numbers" xj_T4 2 xj_t4 := by
  refine ⟨rfl, fun v hv => ?_, by decide +kernel, by decide +kernel⟩
  obtain ⟨k, hk, rfl⟩ := List.mem_map.mp hv
  have hk2 : k < 2 := List.mem_range.mp hk
  match k, hk2 with
  | 0, _ => exact (xj_in1 (List.mem_of_getElem? (i := 93) rfl) rfl)
  | 1, _ => exact (xj_in1 (List.mem_of_getElem? (i := 95) rfl) rfl)
  | k + 2, h => omega
theorem cf_C : xj_CF 5 "ThreePhaseGroup$Client" xj_T5 6 xj_t5 := by
  refine ⟨rfl, fun v hv => ?_, by decide +kernel, by decide +kernel⟩
  obtain ⟨k, hk, rfl⟩ := List.mem_map.mp hv
  have hk2 : k < 6 := List.mem_range.mp hk
  match k, hk2 with
  | 0, _ => exact (xj_in1 (List.mem_of_getElem? (i := 196) rfl) rfl)
  | 1, _ => exact (xj_in1 (List.mem_of_getElem? (i := 198) rfl) rfl)
  | 2, _ => exact (xj_in1 (List.mem_of_getElem? (i := 200) rfl) rfl)
  | 3, _ => exact (xj_in1 (List.mem_of_getElem? (i := 202) rfl) rfl)
  | 4, _ => exact (xj_in1 (List.mem_of_getElem? (i := 204) rfl) rfl)
  | 5, _ => exact (xj_in1 (List.mem_of_getElem? (i := 206) rfl) rfl)
  | k + 6, h => omega
theorem cf_T : xj_CF 6 "ThreePhaseGroupModel" xj_T6 27 xj_t6 := by
  refine ⟨rfl, fun v hv => ?_, by decide +kernel, by decide +kernel⟩
  obtain ⟨k, hk, rfl⟩ := List.mem_map.mp hv
  have hk2 : k < 27 := List.mem_range.mp hk
  match k, hk2 with
  | 0, _ => exact (xj_in3 (List.mem_of_getElem? (i := 180) rfl) rfl)
  | 1, _ => exact (xj_in3 (List.mem_of_getElem? (i := 182) rfl) rfl)
  | 2, _ => exact (xj_in3 (List.mem_of_getElem? (i := 184) rfl) rfl)
  | 3, _ => exact (xj_in3 (List.mem_of_getElem? (i := 186) rfl) rfl)
  | 4, _ => exact (xj_in3 (List.mem_of_getElem? (i := 188) rfl) rfl)
  | 5, _ => exact (xj_in3 (List.mem_of_getElem? (i := 190) rfl) rfl)
  | 6, _ => exact (xj_in3 (List.mem_of_getElem? (i := 192) rfl) rfl)
  | 7, _ => exact (xj_in3 (List.mem_of_getElem? (i := 194) rfl) rfl)
  | 8, _ => exact (xj_in3 (List.mem_of_getElem? (i := 196) rfl) rfl)
  | 9, _ => exact (xj_in3 (List.mem_of_getElem? (i := 198) rfl) rfl)
  | 10, _ => exact (xj_in3 (List.mem_of_getElem? (i := 200) rfl) rfl)
  | 11, _ => exact (xj_in3 (List.mem_of_getElem? (i := 202) rfl) rfl)
  | 12, _ => exact (xj_in3 (List.mem_of_getElem? (i := 204) rfl) rfl)
  | 13, _ => exact (xj_in3 (List.mem_of_getElem? (i := 206) rfl) rfl)
  | 14, _ => exact (xj_in3 (List.mem_of_getElem? (i := 208) rfl) rfl)
  | 15, _ => exact (xj_in3 (List.mem_of_getElem? (i := 210) rfl) rfl)
  | 16, _ => exact (xj_in3 (List.mem_of_getElem? (i := 212) rfl) rfl)
  | 17, _ => exact (xj_in3 (List.mem_of_getElem? (i := 214) rfl) rfl)
  | 18, _ => exact (xj_in3 (List.mem_of_getElem? (i := 216) rfl) rfl)
  | 19, _ => exact (xj_in3 (List.mem_of_getElem? (i := 218) rfl) rfl)
  | 20, _ => exact (xj_in3 (List.mem_of_getElem? (i := 220) rfl) rfl)
  | 21, _ => exact (xj_in3 (List.mem_of_getElem? (i := 222) rfl) rfl)
  | 22, _ => exact (xj_in3 (List.mem_of_getElem? (i := 224) rfl) rfl)
  | 23, _ => exact (xj_in3 (List.mem_of_getElem? (i := 226) rfl) rfl)
  | 24, _ => exact (xj_in3 (List.mem_of_getElem? (i := 228) rfl) rfl)
  | 25, _ => exact (xj_in3 (List.mem_of_getElem? (i := 230) rfl) rfl)
  | 26, _ => exact (xj_in3 (List.mem_of_getElem? (i := 232) rfl) rfl)
  | k + 27, h => omega
end
section
theorem xj_ok0 : xj_ok (0, 0, 0) 116 := by unfold xj_ok; decide +kernel
theorem xj_ok1 : xj_ok (1, 0, 0) 116 := by unfold xj_ok; decide +kernel
theorem xj_ok2 : xj_ok (2, 0, 0) 116 := by unfold xj_ok; decide +kernel
theorem xj_ok3 : xj_ok (3, 0, 0) 116 := by unfold xj_ok; decide +kernel
theorem xj_ok4 : xj_ok (4, 0, 0) 116 := by unfold xj_ok; decide +kernel
theorem xj_ok5 : xj_ok (5, 0, 0) 116 := by unfold xj_ok; decide +kernel
theorem xj_ok6 : xj_ok (6, 0, 0) 116 := by unfold xj_ok; decide +kernel
theorem xj_ok7 : xj_ok (7, 0, 0) 116 := by unfold xj_ok; decide +kernel
theorem xj_ok8 : xj_ok (8, 0, 0) 116 := by unfold xj_ok; decide +kernel
theorem xj_ok9 : xj_ok (9, 0, 0) 116 := by unfold xj_ok; decide +kernel
theorem xj_ok10 : xj_ok (10, 0, 0) 116 := by unfold xj_ok; decide +kernel
theorem xj_ok11 {r : Nat} (hr : r < 4) : xj_ok (11, r, 0) 116 := by
  have q : ∀ r, r < 4 → (xj_PL[xj_ix (11, r, 0)]? = some (11, r, 0) ∧ xj_ix (11, r, 0) < 116) := by decide +kernel
  exact q r hr
theorem xj_ok12 {r : Nat} (hr : r < 4) : xj_ok (12, r, 0) 116 := by
  have q : ∀ r, r < 4 → (xj_PL[xj_ix (12, r, 0)]? = some (12, r, 0) ∧ xj_ix (12, r, 0) < 116) := by decide +kernel
  exact q r hr
theorem xj_ok13 {r : Nat} {i : Nat} (hr : r < 4) (hi : i < 4) : xj_ok (13, r, i) 116 := by
  have q : ∀ r, r < 4 → ∀ i, i < 4 → (xj_PL[xj_ix (13, r, i)]? = some (13, r, i) ∧ xj_ix (13, r, i) < 116) := by decide +kernel
  exact q r hr i hi
theorem xj_ok14 {r : Nat} {i : Nat} (hr : r < 4) (hi : i < 4) : xj_ok (14, r, i) 116 := by
  have q : ∀ r, r < 4 → ∀ i, i < 4 → (xj_PL[xj_ix (14, r, i)]? = some (14, r, i) ∧ xj_ix (14, r, i) < 116) := by decide +kernel
  exact q r hr i hi
theorem xj_ok15 {r : Nat} {i : Nat} (hr : r < 4) (hi : i < 4) : xj_ok (15, r, i) 116 := by
  have q : ∀ r, r < 4 → ∀ i, i < 4 → (xj_PL[xj_ix (15, r, i)]? = some (15, r, i) ∧ xj_ix (15, r, i) < 116) := by decide +kernel
  exact q r hr i hi
theorem xj_ok16 {r : Nat} {i : Nat} (hr : r < 4) (hi : i < 2) : xj_ok (16, r, i) 116 := by
  have q : ∀ r, r < 4 → ∀ i, i < 2 → (xj_PL[xj_ix (16, r, i)]? = some (16, r, i) ∧ xj_ix (16, r, i) < 116) := by decide +kernel
  exact q r hr i hi
theorem xj_ok17 {r : Nat} {i : Nat} (hr : r < 4) (hi : i < 2) : xj_ok (17, r, i) 116 := by
  have q : ∀ r, r < 4 → ∀ i, i < 2 → (xj_PL[xj_ix (17, r, i)]? = some (17, r, i) ∧ xj_ix (17, r, i) < 116) := by decide +kernel
  exact q r hr i hi
theorem xj_ok18 {r : Nat} (hr : r < 4) : xj_ok (18, r, 0) 116 := by
  have q : ∀ r, r < 4 → (xj_PL[xj_ix (18, r, 0)]? = some (18, r, 0) ∧ xj_ix (18, r, 0) < 116) := by decide +kernel
  exact q r hr
theorem xj_ok19 {r : Nat} (hr : r < 2) : xj_ok (19, r, 0) 116 := by
  have q : ∀ r, r < 2 → (xj_PL[xj_ix (19, r, 0)]? = some (19, r, 0) ∧ xj_ix (19, r, 0) < 116) := by decide +kernel
  exact q r hr
theorem xj_ok20 {r : Nat} (hr : r < 2) : xj_ok (20, r, 0) 116 := by
  have q : ∀ r, r < 2 → (xj_PL[xj_ix (20, r, 0)]? = some (20, r, 0) ∧ xj_ix (20, r, 0) < 116) := by decide +kernel
  exact q r hr
theorem xj_ok21 : xj_ok (21, 0, 0) 116 := by unfold xj_ok; decide +kernel
theorem xj_ok22 : xj_ok (22, 0, 0) 116 := by unfold xj_ok; decide +kernel
theorem xj_ok23 : xj_ok (23, 0, 0) 116 := by unfold xj_ok; decide +kernel
theorem xj_ok24 : xj_ok (24, 0, 0) 116 := by unfold xj_ok; decide +kernel
theorem xj_ok25 : xj_ok (25, 0, 0) 116 := by unfold xj_ok; decide +kernel
theorem xj_ok26 : xj_ok (26, 0, 0) 116 := by unfold xj_ok; decide +kernel
theorem xj_ok27 : xj_ok (27, 0, 0) 116 := by unfold xj_ok; decide +kernel
theorem xj_ok28 : xj_ok (28, 0, 0) 116 := by unfold xj_ok; decide +kernel
theorem xj_ok29 : xj_ok (29, 0, 0) 116 := by unfold xj_ok; decide +kernel
theorem xj_ok30 : xj_ok (30, 0, 0) 116 := by unfold xj_ok; decide +kernel
theorem xj_ok31 : xj_ok (31, 0, 0) 116 := by unfold xj_ok; decide +kernel
theorem xj_ok32 : xj_ok (32, 0, 0) 116 := by unfold xj_ok; decide +kernel
theorem xj_ok33 : xj_ok (33, 0, 0) 116 := by unfold xj_ok; decide +kernel
theorem xj_ok34 : xj_ok (34, 0, 0) 116 := by unfold xj_ok; decide +kernel
theorem xj_ok35 : xj_ok (35, 0, 0) 116 := by unfold xj_ok; decide +kernel
theorem xj_ok36 : xj_ok (36, 0, 0) 116 := by unfold xj_ok; decide +kernel
theorem xj_ok37 : xj_ok (37, 0, 0) 116 := by unfold xj_ok; decide +kernel
theorem xj_ok38 : xj_ok (38, 0, 0) 116 := by unfold xj_ok; decide +kernel
theorem xj_ok39 : xj_ok (39, 0, 0) 116 := by unfold xj_ok; decide +kernel
theorem xj_ok40 : xj_ok (40, 0, 0) 116 := by unfold xj_ok; decide +kernel
theorem xj_ok41 : xj_ok (41, 0, 0) 116 := by unfold xj_ok; decide +kernel
theorem xj_ok42 : xj_ok (42, 0, 0) 116 := by unfold xj_ok; decide +kernel
theorem xj_ok43 : xj_ok (43, 0, 0) 116 := by unfold xj_ok; decide +kernel
theorem xj_ok44 : xj_ok (44, 0, 0) 116 := by unfold xj_ok; decide +kernel
theorem xj_ok45 : xj_ok (45, 0, 0) 116 := by unfold xj_ok; decide +kernel
theorem xn_bool {y : Int32} (h : y = 0 ∨ y = 1) : narrow .boolean (.int y) = .int y := by
  rcases h with rfl | rfl <;> rfl
theorem xn_boolf {y : Int32} (h : y = 0 ∨ y = 1) : fits .boolean (.int y) = true := by
  rcases h with rfl | rfl <;> rfl
section XNF
variable {E : xj_E} {G : xj_G} {cc : ByteArray} {own : String} {nL d q c0 s0 : Nat} {ret : Option FieldType} {Q : State → Prop} {cs sl pc nx : Nat} {L : List (Option Value)} {st rest : List Value} {v : xn_V}
theorem xn_g_G_board (C : xj_C E G cc own nL d q c0 s0 ret) {ix : Nat} (a : xj_At cc pc (.getfield ix) 3 nx) (hl : xj_FL own ix "ThreePhaseGroup" "board" "LThreePhaseGroup$Board;") (kk : xn_X E G Q cs sl nx L (.ref (xj_ad G (1, 0, 0)) :: st) v) : xn_X E G Q cs sl pc L (.ref (xj_ad G (0, 0, 0)) :: st) v :=
  xj_get (x := 0) C a cf_G hl ⟨rfl, rfl, rfl⟩ (by decide) xj_ok0 rfl kk
theorem xn_g_G_replicas (C : xj_C E G cc own nL d q c0 s0 ret) {ix : Nat} (a : xj_At cc pc (.getfield ix) 3 nx) (hl : xj_FL own ix "ThreePhaseGroup" "replicas" "[LThreePhaseGroup$Replica;") (kk : xn_X E G Q cs sl nx L (.ref (xj_ad G (8, 0, 0)) :: st) v) : xn_X E G Q cs sl pc L (.ref (xj_ad G (0, 0, 0)) :: st) v :=
  xj_get (x := 1) C a cf_G hl ⟨rfl, rfl, rfl⟩ (by decide) xj_ok0 rfl kk
theorem xn_g_G_clients (C : xj_C E G cc own nL d q c0 s0 ret) {ix : Nat} (a : xj_At cc pc (.getfield ix) 3 nx) (hl : xj_FL own ix "ThreePhaseGroup" "clients" "[LThreePhaseGroup$Client;") (kk : xn_X E G Q cs sl nx L (.ref (xj_ad G (9, 0, 0)) :: st) v) : xn_X E G Q cs sl pc L (.ref (xj_ad G (0, 0, 0)) :: st) v :=
  xj_get (x := 2) C a cf_G hl ⟨rfl, rfl, rfl⟩ (by decide) xj_ok0 rfl kk
theorem xn_g_G_marks (C : xj_C E G cc own nL d q c0 s0 ret) {ix : Nat} (a : xj_At cc pc (.getfield ix) 3 nx) (hl : xj_FL own ix "ThreePhaseGroup" "marks" "[I") (kk : xn_X E G Q cs sl nx L (.ref (xj_ad G (10, 0, 0)) :: st) v) : xn_X E G Q cs sl pc L (.ref (xj_ad G (0, 0, 0)) :: st) v :=
  xj_get (x := 3) C a cf_G hl ⟨rfl, rfl, rfl⟩ (by decide) xj_ok0 rfl kk
theorem xn_g_G_faulty (C : xj_C E G cc own nL d q c0 s0 ret) {ix : Nat} (a : xj_At cc pc (.getfield ix) 3 nx) (hl : xj_FL own ix "ThreePhaseGroup" "faulty" "I") (kk : xn_X E G Q cs sl nx L (.int (v.1 0 0 0 4) :: st) v) : xn_X E G Q cs sl pc L (.ref (xj_ad G (0, 0, 0)) :: st) v :=
  xj_get (x := 4) C a cf_G hl ⟨rfl, rfl, rfl⟩ (by decide) xj_ok0 rfl kk
theorem xn_p_G_faulty (C : xj_C E G cc own nL d q c0 s0 ret) {ix : Nat} {y : Int32} (a : xj_At cc pc (.putfield ix) 3 nx) (hl : xj_FL own ix "ThreePhaseGroup" "faulty" "I") (kk : xn_X E G Q cs sl nx L st (xn_uI v 0 0 0 4 y)) : xn_X E G Q cs sl pc L (.int y :: .ref (xj_ad G (0, 0, 0)) :: st) v :=
  xj_put (x := 4) (w2 := xn_W (xn_uI v 0 0 0 4 y)) C a cf_G hl ⟨rfl, rfl, rfl⟩ (by decide) xj_ok0 (Or.inl rfl) rfl rfl (xj_setI (w := xn_W v) rfl (by decide) rfl) rfl (xj_uI_oth (w := xn_W v)) kk
theorem xn_g_B_kind (C : xj_C E G cc own nL d q c0 s0 ret) {ix : Nat} (a : xj_At cc pc (.getfield ix) 3 nx) (hl : xj_FL own ix "ThreePhaseGroup$Board" "kind" "[I") (kk : xn_X E G Q cs sl nx L (.ref (xj_ad G (2, 0, 0)) :: st) v) : xn_X E G Q cs sl pc L (.ref (xj_ad G (1, 0, 0)) :: st) v :=
  xj_get (x := 0) C a cf_B hl ⟨rfl, rfl, rfl⟩ (by decide) xj_ok1 rfl kk
theorem xn_g_B_sender (C : xj_C E G cc own nL d q c0 s0 ret) {ix : Nat} (a : xj_At cc pc (.getfield ix) 3 nx) (hl : xj_FL own ix "ThreePhaseGroup$Board" "sender" "[I") (kk : xn_X E G Q cs sl nx L (.ref (xj_ad G (3, 0, 0)) :: st) v) : xn_X E G Q cs sl pc L (.ref (xj_ad G (1, 0, 0)) :: st) v :=
  xj_get (x := 1) C a cf_B hl ⟨rfl, rfl, rfl⟩ (by decide) xj_ok1 rfl kk
theorem xn_g_B_a (C : xj_C E G cc own nL d q c0 s0 ret) {ix : Nat} (a : xj_At cc pc (.getfield ix) 3 nx) (hl : xj_FL own ix "ThreePhaseGroup$Board" "a" "[I") (kk : xn_X E G Q cs sl nx L (.ref (xj_ad G (4, 0, 0)) :: st) v) : xn_X E G Q cs sl pc L (.ref (xj_ad G (1, 0, 0)) :: st) v :=
  xj_get (x := 2) C a cf_B hl ⟨rfl, rfl, rfl⟩ (by decide) xj_ok1 rfl kk
theorem xn_g_B_b (C : xj_C E G cc own nL d q c0 s0 ret) {ix : Nat} (a : xj_At cc pc (.getfield ix) 3 nx) (hl : xj_FL own ix "ThreePhaseGroup$Board" "b" "[J") (kk : xn_X E G Q cs sl nx L (.ref (xj_ad G (5, 0, 0)) :: st) v) : xn_X E G Q cs sl pc L (.ref (xj_ad G (1, 0, 0)) :: st) v :=
  xj_get (x := 3) C a cf_B hl ⟨rfl, rfl, rfl⟩ (by decide) xj_ok1 rfl kk
theorem xn_g_B_c (C : xj_C E G cc own nL d q c0 s0 ret) {ix : Nat} (a : xj_At cc pc (.getfield ix) 3 nx) (hl : xj_FL own ix "ThreePhaseGroup$Board" "c" "[I") (kk : xn_X E G Q cs sl nx L (.ref (xj_ad G (6, 0, 0)) :: st) v) : xn_X E G Q cs sl pc L (.ref (xj_ad G (1, 0, 0)) :: st) v :=
  xj_get (x := 4) C a cf_B hl ⟨rfl, rfl, rfl⟩ (by decide) xj_ok1 rfl kk
theorem xn_g_B_valid (C : xj_C E G cc own nL d q c0 s0 ret) {ix : Nat} (a : xj_At cc pc (.getfield ix) 3 nx) (hl : xj_FL own ix "ThreePhaseGroup$Board" "valid" "[Z") (kk : xn_X E G Q cs sl nx L (.ref (xj_ad G (7, 0, 0)) :: st) v) : xn_X E G Q cs sl pc L (.ref (xj_ad G (1, 0, 0)) :: st) v :=
  xj_get (x := 5) C a cf_B hl ⟨rfl, rfl, rfl⟩ (by decide) xj_ok1 rfl kk
theorem xn_g_B_size (C : xj_C E G cc own nL d q c0 s0 ret) {ix : Nat} (a : xj_At cc pc (.getfield ix) 3 nx) (hl : xj_FL own ix "ThreePhaseGroup$Board" "size" "I") (kk : xn_X E G Q cs sl nx L (.int (v.1 1 0 0 6) :: st) v) : xn_X E G Q cs sl pc L (.ref (xj_ad G (1, 0, 0)) :: st) v :=
  xj_get (x := 6) C a cf_B hl ⟨rfl, rfl, rfl⟩ (by decide) xj_ok1 rfl kk
theorem xn_p_B_size (C : xj_C E G cc own nL d q c0 s0 ret) {ix : Nat} {y : Int32} (a : xj_At cc pc (.putfield ix) 3 nx) (hl : xj_FL own ix "ThreePhaseGroup$Board" "size" "I") (kk : xn_X E G Q cs sl nx L st (xn_uI v 1 0 0 6 y)) : xn_X E G Q cs sl pc L (.int y :: .ref (xj_ad G (1, 0, 0)) :: st) v :=
  xj_put (x := 6) (w2 := xn_W (xn_uI v 1 0 0 6 y)) C a cf_B hl ⟨rfl, rfl, rfl⟩ (by decide) xj_ok1 (Or.inl rfl) rfl rfl (xj_setI (w := xn_W v) rfl (by decide) rfl) rfl (xj_uI_oth (w := xn_W v)) kk
theorem xn_g_B_judged (C : xj_C E G cc own nL d q c0 s0 ret) {ix : Nat} (a : xj_At cc pc (.getfield ix) 3 nx) (hl : xj_FL own ix "ThreePhaseGroup$Board" "judged" "I") (kk : xn_X E G Q cs sl nx L (.int (v.1 1 0 0 7) :: st) v) : xn_X E G Q cs sl pc L (.ref (xj_ad G (1, 0, 0)) :: st) v :=
  xj_get (x := 7) C a cf_B hl ⟨rfl, rfl, rfl⟩ (by decide) xj_ok1 rfl kk
theorem xn_p_B_judged (C : xj_C E G cc own nL d q c0 s0 ret) {ix : Nat} {y : Int32} (a : xj_At cc pc (.putfield ix) 3 nx) (hl : xj_FL own ix "ThreePhaseGroup$Board" "judged" "I") (kk : xn_X E G Q cs sl nx L st (xn_uI v 1 0 0 7 y)) : xn_X E G Q cs sl pc L (.int y :: .ref (xj_ad G (1, 0, 0)) :: st) v :=
  xj_put (x := 7) (w2 := xn_W (xn_uI v 1 0 0 7 y)) C a cf_B hl ⟨rfl, rfl, rfl⟩ (by decide) xj_ok1 (Or.inl rfl) rfl rfl (xj_setI (w := xn_W v) rfl (by decide) rfl) rfl (xj_uI_oth (w := xn_W v)) kk
theorem xn_g_R_self (C : xj_C E G cc own nL d q c0 s0 ret) {ix : Nat} {r : Nat} (a : xj_At cc pc (.getfield ix) 3 nx) (hl : xj_FL own ix "ThreePhaseGroup$Replica" "self" "I") (hr : r < 4) (kk : xn_X E G Q cs sl nx L (.int (v.1 11 r 0 0) :: st) v) : xn_X E G Q cs sl pc L (.ref (xj_ad G (11, r, 0)) :: st) v :=
  xj_get (x := 0) C a cf_R hl ⟨rfl, rfl, rfl⟩ (by decide) (xj_ok11 hr) rfl kk
theorem xn_g_R_board (C : xj_C E G cc own nL d q c0 s0 ret) {ix : Nat} {r : Nat} (a : xj_At cc pc (.getfield ix) 3 nx) (hl : xj_FL own ix "ThreePhaseGroup$Replica" "board" "LThreePhaseGroup$Board;") (hr : r < 4) (kk : xn_X E G Q cs sl nx L (.ref (xj_ad G (1, 0, 0)) :: st) v) : xn_X E G Q cs sl pc L (.ref (xj_ad G (11, r, 0)) :: st) v :=
  xj_get (x := 1) C a cf_R hl ⟨rfl, rfl, rfl⟩ (by decide) (xj_ok11 hr) rfl kk
theorem xn_g_R_slots (C : xj_C E G cc own nL d q c0 s0 ret) {ix : Nat} {r : Nat} (a : xj_At cc pc (.getfield ix) 3 nx) (hl : xj_FL own ix "ThreePhaseGroup$Replica" "slots" "[LThreePhaseGroup$Slot;") (hr : r < 4) (kk : xn_X E G Q cs sl nx L (.ref (xj_ad G (12, r, 0)) :: st) v) : xn_X E G Q cs sl pc L (.ref (xj_ad G (11, r, 0)) :: st) v :=
  xj_get (x := 2) C a cf_R hl ⟨rfl, rfl, rfl⟩ (by decide) (xj_ok11 hr) rfl kk
theorem xn_g_R_known (C : xj_C E G cc own nL d q c0 s0 ret) {ix : Nat} {r : Nat} (a : xj_At cc pc (.getfield ix) 3 nx) (hl : xj_FL own ix "ThreePhaseGroup$Replica" "known" "LThreePhaseGroup$Numbers;") (hr : r < 4) (kk : xn_X E G Q cs sl nx L (.ref (xj_ad G (16, r, 0)) :: st) v) : xn_X E G Q cs sl pc L (.ref (xj_ad G (11, r, 0)) :: st) v :=
  xj_get (x := 3) C a cf_R hl ⟨rfl, rfl, rfl⟩ (by decide) (xj_ok11 hr) rfl kk
theorem xn_g_R_checkpoints (C : xj_C E G cc own nL d q c0 s0 ret) {ix : Nat} {r : Nat} (a : xj_At cc pc (.getfield ix) 3 nx) (hl : xj_FL own ix "ThreePhaseGroup$Replica" "checkpoints" "LThreePhaseGroup$Numbers;") (hr : r < 4) (kk : xn_X E G Q cs sl nx L (.ref (xj_ad G (16, r, 1)) :: st) v) : xn_X E G Q cs sl pc L (.ref (xj_ad G (11, r, 0)) :: st) v :=
  xj_get (x := 4) C a cf_R hl ⟨rfl, rfl, rfl⟩ (by decide) (xj_ok11 hr) rfl kk
theorem xn_g_R_viewChanges (C : xj_C E G cc own nL d q c0 s0 ret) {ix : Nat} {r : Nat} (a : xj_At cc pc (.getfield ix) 3 nx) (hl : xj_FL own ix "ThreePhaseGroup$Replica" "viewChanges" "[I") (hr : r < 4) (kk : xn_X E G Q cs sl nx L (.ref (xj_ad G (18, r, 0)) :: st) v) : xn_X E G Q cs sl pc L (.ref (xj_ad G (11, r, 0)) :: st) v :=
  xj_get (x := 5) C a cf_R hl ⟨rfl, rfl, rfl⟩ (by decide) (xj_ok11 hr) rfl kk
theorem xn_g_R_view (C : xj_C E G cc own nL d q c0 s0 ret) {ix : Nat} {r : Nat} (a : xj_At cc pc (.getfield ix) 3 nx) (hl : xj_FL own ix "ThreePhaseGroup$Replica" "view" "I") (hr : r < 4) (kk : xn_X E G Q cs sl nx L (.int (v.1 11 r 0 6) :: st) v) : xn_X E G Q cs sl pc L (.ref (xj_ad G (11, r, 0)) :: st) v :=
  xj_get (x := 6) C a cf_R hl ⟨rfl, rfl, rfl⟩ (by decide) (xj_ok11 hr) rfl kk
theorem xn_p_R_view (C : xj_C E G cc own nL d q c0 s0 ret) {ix : Nat} {r : Nat} {y : Int32} (a : xj_At cc pc (.putfield ix) 3 nx) (hl : xj_FL own ix "ThreePhaseGroup$Replica" "view" "I") (hr : r < 4) (kk : xn_X E G Q cs sl nx L st (xn_uI v 11 r 0 6 y)) : xn_X E G Q cs sl pc L (.int y :: .ref (xj_ad G (11, r, 0)) :: st) v :=
  xj_put (x := 6) (w2 := xn_W (xn_uI v 11 r 0 6 y)) C a cf_R hl ⟨rfl, rfl, rfl⟩ (by decide) (xj_ok11 hr) (Or.inl rfl) rfl rfl (xj_setI (w := xn_W v) rfl (by decide) rfl) rfl (xj_uI_oth (w := xn_W v)) kk
theorem xn_g_R_changing (C : xj_C E G cc own nL d q c0 s0 ret) {ix : Nat} {r : Nat} (a : xj_At cc pc (.getfield ix) 3 nx) (hl : xj_FL own ix "ThreePhaseGroup$Replica" "changing" "Z") (hr : r < 4) (kk : xn_X E G Q cs sl nx L (.int (v.1 11 r 0 7) :: st) v) : xn_X E G Q cs sl pc L (.ref (xj_ad G (11, r, 0)) :: st) v :=
  xj_get (x := 7) C a cf_R hl ⟨rfl, rfl, rfl⟩ (by decide) (xj_ok11 hr) rfl kk
theorem xn_p_R_changing (C : xj_C E G cc own nL d q c0 s0 ret) {ix : Nat} {r : Nat} {y : Int32} (a : xj_At cc pc (.putfield ix) 3 nx) (hl : xj_FL own ix "ThreePhaseGroup$Replica" "changing" "Z") (hr : r < 4) (hb : y = 0 ∨ y = 1) (kk : xn_X E G Q cs sl nx L st (xn_uI v 11 r 0 7 y)) : xn_X E G Q cs sl pc L (.int y :: .ref (xj_ad G (11, r, 0)) :: st) v :=
  xj_put (x := 7) (w2 := xn_W (xn_uI v 11 r 0 7 y)) C a cf_R hl ⟨rfl, rfl, rfl⟩ (by decide) (xj_ok11 hr) (Or.inl rfl) (xn_bool hb) (xn_boolf hb) (xj_setI (w := xn_W v) rfl (by decide) rfl) rfl (xj_uI_oth (w := xn_W v)) kk
theorem xn_g_R_stable (C : xj_C E G cc own nL d q c0 s0 ret) {ix : Nat} {r : Nat} (a : xj_At cc pc (.getfield ix) 3 nx) (hl : xj_FL own ix "ThreePhaseGroup$Replica" "stable" "I") (hr : r < 4) (kk : xn_X E G Q cs sl nx L (.int (v.1 11 r 0 8) :: st) v) : xn_X E G Q cs sl pc L (.ref (xj_ad G (11, r, 0)) :: st) v :=
  xj_get (x := 8) C a cf_R hl ⟨rfl, rfl, rfl⟩ (by decide) (xj_ok11 hr) rfl kk
theorem xn_p_R_stable (C : xj_C E G cc own nL d q c0 s0 ret) {ix : Nat} {r : Nat} {y : Int32} (a : xj_At cc pc (.putfield ix) 3 nx) (hl : xj_FL own ix "ThreePhaseGroup$Replica" "stable" "I") (hr : r < 4) (kk : xn_X E G Q cs sl nx L st (xn_uI v 11 r 0 8 y)) : xn_X E G Q cs sl pc L (.int y :: .ref (xj_ad G (11, r, 0)) :: st) v :=
  xj_put (x := 8) (w2 := xn_W (xn_uI v 11 r 0 8 y)) C a cf_R hl ⟨rfl, rfl, rfl⟩ (by decide) (xj_ok11 hr) (Or.inl rfl) rfl rfl (xj_setI (w := xn_W v) rfl (by decide) rfl) rfl (xj_uI_oth (w := xn_W v)) kk
theorem xn_g_R_executed (C : xj_C E G cc own nL d q c0 s0 ret) {ix : Nat} {r : Nat} (a : xj_At cc pc (.getfield ix) 3 nx) (hl : xj_FL own ix "ThreePhaseGroup$Replica" "executed" "I") (hr : r < 4) (kk : xn_X E G Q cs sl nx L (.int (v.1 11 r 0 9) :: st) v) : xn_X E G Q cs sl pc L (.ref (xj_ad G (11, r, 0)) :: st) v :=
  xj_get (x := 9) C a cf_R hl ⟨rfl, rfl, rfl⟩ (by decide) (xj_ok11 hr) rfl kk
theorem xn_p_R_executed (C : xj_C E G cc own nL d q c0 s0 ret) {ix : Nat} {r : Nat} {y : Int32} (a : xj_At cc pc (.putfield ix) 3 nx) (hl : xj_FL own ix "ThreePhaseGroup$Replica" "executed" "I") (hr : r < 4) (kk : xn_X E G Q cs sl nx L st (xn_uI v 11 r 0 9 y)) : xn_X E G Q cs sl pc L (.int y :: .ref (xj_ad G (11, r, 0)) :: st) v :=
  xj_put (x := 9) (w2 := xn_W (xn_uI v 11 r 0 9 y)) C a cf_R hl ⟨rfl, rfl, rfl⟩ (by decide) (xj_ok11 hr) (Or.inl rfl) rfl rfl (xj_setI (w := xn_W v) rfl (by decide) rfl) rfl (xj_uI_oth (w := xn_W v)) kk
theorem xn_g_R_state (C : xj_C E G cc own nL d q c0 s0 ret) {ix : Nat} {r : Nat} (a : xj_At cc pc (.getfield ix) 3 nx) (hl : xj_FL own ix "ThreePhaseGroup$Replica" "state" "J") (hr : r < 4) (kk : xn_X E G Q cs sl nx L (.long (v.2 11 r 0 10) :: st) v) : xn_X E G Q cs sl pc L (.ref (xj_ad G (11, r, 0)) :: st) v :=
  xj_get (x := 10) C a cf_R hl ⟨rfl, rfl, rfl⟩ (by decide) (xj_ok11 hr) rfl kk
theorem xn_p_R_state (C : xj_C E G cc own nL d q c0 s0 ret) {ix : Nat} {r : Nat} {y : Int64} (a : xj_At cc pc (.putfield ix) 3 nx) (hl : xj_FL own ix "ThreePhaseGroup$Replica" "state" "J") (hr : r < 4) (kk : xn_X E G Q cs sl nx L st (xn_uJ v 11 r 0 10 y)) : xn_X E G Q cs sl pc L (.long y :: .ref (xj_ad G (11, r, 0)) :: st) v :=
  xj_put (x := 10) (w2 := xn_W (xn_uJ v 11 r 0 10 y)) C a cf_R hl ⟨rfl, rfl, rfl⟩ (by decide) (xj_ok11 hr) (Or.inl rfl) rfl rfl (xj_setJ (w := xn_W v) rfl (by decide) rfl) rfl (xj_uJ_oth (w := xn_W v)) kk
theorem xn_g_R_timer (C : xj_C E G cc own nL d q c0 s0 ret) {ix : Nat} {r : Nat} (a : xj_At cc pc (.getfield ix) 3 nx) (hl : xj_FL own ix "ThreePhaseGroup$Replica" "timer" "I") (hr : r < 4) (kk : xn_X E G Q cs sl nx L (.int (v.1 11 r 0 11) :: st) v) : xn_X E G Q cs sl pc L (.ref (xj_ad G (11, r, 0)) :: st) v :=
  xj_get (x := 11) C a cf_R hl ⟨rfl, rfl, rfl⟩ (by decide) (xj_ok11 hr) rfl kk
theorem xn_p_R_timer (C : xj_C E G cc own nL d q c0 s0 ret) {ix : Nat} {r : Nat} {y : Int32} (a : xj_At cc pc (.putfield ix) 3 nx) (hl : xj_FL own ix "ThreePhaseGroup$Replica" "timer" "I") (hr : r < 4) (kk : xn_X E G Q cs sl nx L st (xn_uI v 11 r 0 11 y)) : xn_X E G Q cs sl pc L (.int y :: .ref (xj_ad G (11, r, 0)) :: st) v :=
  xj_put (x := 11) (w2 := xn_W (xn_uI v 11 r 0 11 y)) C a cf_R hl ⟨rfl, rfl, rfl⟩ (by decide) (xj_ok11 hr) (Or.inl rfl) rfl rfl (xj_setI (w := xn_W v) rfl (by decide) rfl) rfl (xj_uI_oth (w := xn_W v)) kk
theorem xn_g_R_span (C : xj_C E G cc own nL d q c0 s0 ret) {ix : Nat} {r : Nat} (a : xj_At cc pc (.getfield ix) 3 nx) (hl : xj_FL own ix "ThreePhaseGroup$Replica" "span" "I") (hr : r < 4) (kk : xn_X E G Q cs sl nx L (.int (v.1 11 r 0 12) :: st) v) : xn_X E G Q cs sl pc L (.ref (xj_ad G (11, r, 0)) :: st) v :=
  xj_get (x := 12) C a cf_R hl ⟨rfl, rfl, rfl⟩ (by decide) (xj_ok11 hr) rfl kk
theorem xn_p_R_span (C : xj_C E G cc own nL d q c0 s0 ret) {ix : Nat} {r : Nat} {y : Int32} (a : xj_At cc pc (.putfield ix) 3 nx) (hl : xj_FL own ix "ThreePhaseGroup$Replica" "span" "I") (hr : r < 4) (kk : xn_X E G Q cs sl nx L st (xn_uI v 11 r 0 12 y)) : xn_X E G Q cs sl pc L (.int y :: .ref (xj_ad G (11, r, 0)) :: st) v :=
  xj_put (x := 12) (w2 := xn_W (xn_uI v 11 r 0 12 y)) C a cf_R hl ⟨rfl, rfl, rfl⟩ (by decide) (xj_ok11 hr) (Or.inl rfl) rfl rfl (xj_setI (w := xn_W v) rfl (by decide) rfl) rfl (xj_uI_oth (w := xn_W v)) kk
theorem xn_g_R_renewing (C : xj_C E G cc own nL d q c0 s0 ret) {ix : Nat} {r : Nat} (a : xj_At cc pc (.getfield ix) 3 nx) (hl : xj_FL own ix "ThreePhaseGroup$Replica" "renewing" "Z") (hr : r < 4) (kk : xn_X E G Q cs sl nx L (.int (v.1 11 r 0 13) :: st) v) : xn_X E G Q cs sl pc L (.ref (xj_ad G (11, r, 0)) :: st) v :=
  xj_get (x := 13) C a cf_R hl ⟨rfl, rfl, rfl⟩ (by decide) (xj_ok11 hr) rfl kk
theorem xn_p_R_renewing (C : xj_C E G cc own nL d q c0 s0 ret) {ix : Nat} {r : Nat} {y : Int32} (a : xj_At cc pc (.putfield ix) 3 nx) (hl : xj_FL own ix "ThreePhaseGroup$Replica" "renewing" "Z") (hr : r < 4) (hb : y = 0 ∨ y = 1) (kk : xn_X E G Q cs sl nx L st (xn_uI v 11 r 0 13 y)) : xn_X E G Q cs sl pc L (.int y :: .ref (xj_ad G (11, r, 0)) :: st) v :=
  xj_put (x := 13) (w2 := xn_W (xn_uI v 11 r 0 13 y)) C a cf_R hl ⟨rfl, rfl, rfl⟩ (by decide) (xj_ok11 hr) (Or.inl rfl) (xn_bool hb) (xn_boolf hb) (xj_setI (w := xn_W v) rfl (by decide) rfl) rfl (xj_uI_oth (w := xn_W v)) kk
theorem xn_g_S_prepares (C : xj_C E G cc own nL d q c0 s0 ret) {ix : Nat} {r : Nat} {i : Nat} (a : xj_At cc pc (.getfield ix) 3 nx) (hl : xj_FL own ix "ThreePhaseGroup$Slot" "prepares" "[J") (hr : r < 4) (hi : i < 4) (kk : xn_X E G Q cs sl nx L (.ref (xj_ad G (14, r, i)) :: st) v) : xn_X E G Q cs sl pc L (.ref (xj_ad G (13, r, i)) :: st) v :=
  xj_get (x := 0) C a cf_S hl ⟨rfl, rfl, rfl⟩ (by decide) (xj_ok13 hr hi) rfl kk
theorem xn_g_S_commits (C : xj_C E G cc own nL d q c0 s0 ret) {ix : Nat} {r : Nat} {i : Nat} (a : xj_At cc pc (.getfield ix) 3 nx) (hl : xj_FL own ix "ThreePhaseGroup$Slot" "commits" "[J") (hr : r < 4) (hi : i < 4) (kk : xn_X E G Q cs sl nx L (.ref (xj_ad G (15, r, i)) :: st) v) : xn_X E G Q cs sl pc L (.ref (xj_ad G (13, r, i)) :: st) v :=
  xj_get (x := 1) C a cf_S hl ⟨rfl, rfl, rfl⟩ (by decide) (xj_ok13 hr hi) rfl kk
theorem xn_g_S_accepted (C : xj_C E G cc own nL d q c0 s0 ret) {ix : Nat} {r : Nat} {i : Nat} (a : xj_At cc pc (.getfield ix) 3 nx) (hl : xj_FL own ix "ThreePhaseGroup$Slot" "accepted" "I") (hr : r < 4) (hi : i < 4) (kk : xn_X E G Q cs sl nx L (.int (v.1 13 r i 2) :: st) v) : xn_X E G Q cs sl pc L (.ref (xj_ad G (13, r, i)) :: st) v :=
  xj_get (x := 2) C a cf_S hl ⟨rfl, rfl, rfl⟩ (by decide) (xj_ok13 hr hi) rfl kk
theorem xn_p_S_accepted (C : xj_C E G cc own nL d q c0 s0 ret) {ix : Nat} {r : Nat} {i : Nat} {y : Int32} (a : xj_At cc pc (.putfield ix) 3 nx) (hl : xj_FL own ix "ThreePhaseGroup$Slot" "accepted" "I") (hr : r < 4) (hi : i < 4) (kk : xn_X E G Q cs sl nx L st (xn_uI v 13 r i 2 y)) : xn_X E G Q cs sl pc L (.int y :: .ref (xj_ad G (13, r, i)) :: st) v :=
  xj_put (x := 2) (w2 := xn_W (xn_uI v 13 r i 2 y)) C a cf_S hl ⟨rfl, rfl, rfl⟩ (by decide) (xj_ok13 hr hi) (Or.inl rfl) rfl rfl (xj_setI (w := xn_W v) rfl (by decide) rfl) rfl (xj_uI_oth (w := xn_W v)) kk
theorem xn_g_S_decided (C : xj_C E G cc own nL d q c0 s0 ret) {ix : Nat} {r : Nat} {i : Nat} (a : xj_At cc pc (.getfield ix) 3 nx) (hl : xj_FL own ix "ThreePhaseGroup$Slot" "decided" "I") (hr : r < 4) (hi : i < 4) (kk : xn_X E G Q cs sl nx L (.int (v.1 13 r i 3) :: st) v) : xn_X E G Q cs sl pc L (.ref (xj_ad G (13, r, i)) :: st) v :=
  xj_get (x := 3) C a cf_S hl ⟨rfl, rfl, rfl⟩ (by decide) (xj_ok13 hr hi) rfl kk
theorem xn_p_S_decided (C : xj_C E G cc own nL d q c0 s0 ret) {ix : Nat} {r : Nat} {i : Nat} {y : Int32} (a : xj_At cc pc (.putfield ix) 3 nx) (hl : xj_FL own ix "ThreePhaseGroup$Slot" "decided" "I") (hr : r < 4) (hi : i < 4) (kk : xn_X E G Q cs sl nx L st (xn_uI v 13 r i 3 y)) : xn_X E G Q cs sl pc L (.int y :: .ref (xj_ad G (13, r, i)) :: st) v :=
  xj_put (x := 3) (w2 := xn_W (xn_uI v 13 r i 3 y)) C a cf_S hl ⟨rfl, rfl, rfl⟩ (by decide) (xj_ok13 hr hi) (Or.inl rfl) rfl rfl (xj_setI (w := xn_W v) rfl (by decide) rfl) rfl (xj_uI_oth (w := xn_W v)) kk
theorem xn_g_S_claim (C : xj_C E G cc own nL d q c0 s0 ret) {ix : Nat} {r : Nat} {i : Nat} (a : xj_At cc pc (.getfield ix) 3 nx) (hl : xj_FL own ix "ThreePhaseGroup$Slot" "claim" "I") (hr : r < 4) (hi : i < 4) (kk : xn_X E G Q cs sl nx L (.int (v.1 13 r i 4) :: st) v) : xn_X E G Q cs sl pc L (.ref (xj_ad G (13, r, i)) :: st) v :=
  xj_get (x := 4) C a cf_S hl ⟨rfl, rfl, rfl⟩ (by decide) (xj_ok13 hr hi) rfl kk
theorem xn_p_S_claim (C : xj_C E G cc own nL d q c0 s0 ret) {ix : Nat} {r : Nat} {i : Nat} {y : Int32} (a : xj_At cc pc (.putfield ix) 3 nx) (hl : xj_FL own ix "ThreePhaseGroup$Slot" "claim" "I") (hr : r < 4) (hi : i < 4) (kk : xn_X E G Q cs sl nx L st (xn_uI v 13 r i 4 y)) : xn_X E G Q cs sl pc L (.int y :: .ref (xj_ad G (13, r, i)) :: st) v :=
  xj_put (x := 4) (w2 := xn_W (xn_uI v 13 r i 4 y)) C a cf_S hl ⟨rfl, rfl, rfl⟩ (by decide) (xj_ok13 hr hi) (Or.inl rfl) rfl rfl (xj_setI (w := xn_W v) rfl (by decide) rfl) rfl (xj_uI_oth (w := xn_W v)) kk
theorem xn_g_N_at (C : xj_C E G cc own nL d q c0 s0 ret) {ix : Nat} {r : Nat} {i : Nat} (a : xj_At cc pc (.getfield ix) 3 nx) (hl : xj_FL own ix "ThreePhaseGroup$Numbers" "at" "[I") (hr : r < 4) (hi : i < 2) (kk : xn_X E G Q cs sl nx L (.ref (xj_ad G (17, r, i)) :: st) v) : xn_X E G Q cs sl pc L (.ref (xj_ad G (16, r, i)) :: st) v :=
  xj_get (x := 0) C a cf_N hl ⟨rfl, rfl, rfl⟩ (by decide) (xj_ok16 hr hi) rfl kk
theorem xn_g_N_size (C : xj_C E G cc own nL d q c0 s0 ret) {ix : Nat} {r : Nat} {i : Nat} (a : xj_At cc pc (.getfield ix) 3 nx) (hl : xj_FL own ix "ThreePhaseGroup$Numbers" "size" "I") (hr : r < 4) (hi : i < 2) (kk : xn_X E G Q cs sl nx L (.int (v.1 16 r i 1) :: st) v) : xn_X E G Q cs sl pc L (.ref (xj_ad G (16, r, i)) :: st) v :=
  xj_get (x := 1) C a cf_N hl ⟨rfl, rfl, rfl⟩ (by decide) (xj_ok16 hr hi) rfl kk
theorem xn_p_N_size (C : xj_C E G cc own nL d q c0 s0 ret) {ix : Nat} {r : Nat} {i : Nat} {y : Int32} (a : xj_At cc pc (.putfield ix) 3 nx) (hl : xj_FL own ix "ThreePhaseGroup$Numbers" "size" "I") (hr : r < 4) (hi : i < 2) (kk : xn_X E G Q cs sl nx L st (xn_uI v 16 r i 1 y)) : xn_X E G Q cs sl pc L (.int y :: .ref (xj_ad G (16, r, i)) :: st) v :=
  xj_put (x := 1) (w2 := xn_W (xn_uI v 16 r i 1 y)) C a cf_N hl ⟨rfl, rfl, rfl⟩ (by decide) (xj_ok16 hr hi) (Or.inl rfl) rfl rfl (xj_setI (w := xn_W v) rfl (by decide) rfl) rfl (xj_uI_oth (w := xn_W v)) kk
theorem xn_g_C_self (C : xj_C E G cc own nL d q c0 s0 ret) {ix : Nat} {r : Nat} (a : xj_At cc pc (.getfield ix) 3 nx) (hl : xj_FL own ix "ThreePhaseGroup$Client" "self" "I") (hr : r < 2) (kk : xn_X E G Q cs sl nx L (.int (v.1 19 r 0 0) :: st) v) : xn_X E G Q cs sl pc L (.ref (xj_ad G (19, r, 0)) :: st) v :=
  xj_get (x := 0) C a cf_C hl ⟨rfl, rfl, rfl⟩ (by decide) (xj_ok19 hr) rfl kk
theorem xn_g_C_board (C : xj_C E G cc own nL d q c0 s0 ret) {ix : Nat} {r : Nat} (a : xj_At cc pc (.getfield ix) 3 nx) (hl : xj_FL own ix "ThreePhaseGroup$Client" "board" "LThreePhaseGroup$Board;") (hr : r < 2) (kk : xn_X E G Q cs sl nx L (.ref (xj_ad G (1, 0, 0)) :: st) v) : xn_X E G Q cs sl pc L (.ref (xj_ad G (19, r, 0)) :: st) v :=
  xj_get (x := 1) C a cf_C hl ⟨rfl, rfl, rfl⟩ (by decide) (xj_ok19 hr) rfl kk
theorem xn_g_C_replies (C : xj_C E G cc own nL d q c0 s0 ret) {ix : Nat} {r : Nat} (a : xj_At cc pc (.getfield ix) 3 nx) (hl : xj_FL own ix "ThreePhaseGroup$Client" "replies" "[J") (hr : r < 2) (kk : xn_X E G Q cs sl nx L (.ref (xj_ad G (20, r, 0)) :: st) v) : xn_X E G Q cs sl pc L (.ref (xj_ad G (19, r, 0)) :: st) v :=
  xj_get (x := 2) C a cf_C hl ⟨rfl, rfl, rfl⟩ (by decide) (xj_ok19 hr) rfl kk
theorem xn_g_C_submitted (C : xj_C E G cc own nL d q c0 s0 ret) {ix : Nat} {r : Nat} (a : xj_At cc pc (.getfield ix) 3 nx) (hl : xj_FL own ix "ThreePhaseGroup$Client" "submitted" "I") (hr : r < 2) (kk : xn_X E G Q cs sl nx L (.int (v.1 19 r 0 3) :: st) v) : xn_X E G Q cs sl pc L (.ref (xj_ad G (19, r, 0)) :: st) v :=
  xj_get (x := 3) C a cf_C hl ⟨rfl, rfl, rfl⟩ (by decide) (xj_ok19 hr) rfl kk
theorem xn_p_C_submitted (C : xj_C E G cc own nL d q c0 s0 ret) {ix : Nat} {r : Nat} {y : Int32} (a : xj_At cc pc (.putfield ix) 3 nx) (hl : xj_FL own ix "ThreePhaseGroup$Client" "submitted" "I") (hr : r < 2) (kk : xn_X E G Q cs sl nx L st (xn_uI v 19 r 0 3 y)) : xn_X E G Q cs sl pc L (.int y :: .ref (xj_ad G (19, r, 0)) :: st) v :=
  xj_put (x := 3) (w2 := xn_W (xn_uI v 19 r 0 3 y)) C a cf_C hl ⟨rfl, rfl, rfl⟩ (by decide) (xj_ok19 hr) (Or.inl rfl) rfl rfl (xj_setI (w := xn_W v) rfl (by decide) rfl) rfl (xj_uI_oth (w := xn_W v)) kk
theorem xn_g_C_outstanding (C : xj_C E G cc own nL d q c0 s0 ret) {ix : Nat} {r : Nat} (a : xj_At cc pc (.getfield ix) 3 nx) (hl : xj_FL own ix "ThreePhaseGroup$Client" "outstanding" "I") (hr : r < 2) (kk : xn_X E G Q cs sl nx L (.int (v.1 19 r 0 4) :: st) v) : xn_X E G Q cs sl pc L (.ref (xj_ad G (19, r, 0)) :: st) v :=
  xj_get (x := 4) C a cf_C hl ⟨rfl, rfl, rfl⟩ (by decide) (xj_ok19 hr) rfl kk
theorem xn_p_C_outstanding (C : xj_C E G cc own nL d q c0 s0 ret) {ix : Nat} {r : Nat} {y : Int32} (a : xj_At cc pc (.putfield ix) 3 nx) (hl : xj_FL own ix "ThreePhaseGroup$Client" "outstanding" "I") (hr : r < 2) (kk : xn_X E G Q cs sl nx L st (xn_uI v 19 r 0 4 y)) : xn_X E G Q cs sl pc L (.int y :: .ref (xj_ad G (19, r, 0)) :: st) v :=
  xj_put (x := 4) (w2 := xn_W (xn_uI v 19 r 0 4 y)) C a cf_C hl ⟨rfl, rfl, rfl⟩ (by decide) (xj_ok19 hr) (Or.inl rfl) rfl rfl (xj_setI (w := xn_W v) rfl (by decide) rfl) rfl (xj_uI_oth (w := xn_W v)) kk
theorem xn_g_C_latestAnswer (C : xj_C E G cc own nL d q c0 s0 ret) {ix : Nat} {r : Nat} (a : xj_At cc pc (.getfield ix) 3 nx) (hl : xj_FL own ix "ThreePhaseGroup$Client" "latestAnswer" "I") (hr : r < 2) (kk : xn_X E G Q cs sl nx L (.int (v.1 19 r 0 5) :: st) v) : xn_X E G Q cs sl pc L (.ref (xj_ad G (19, r, 0)) :: st) v :=
  xj_get (x := 5) C a cf_C hl ⟨rfl, rfl, rfl⟩ (by decide) (xj_ok19 hr) rfl kk
theorem xn_p_C_latestAnswer (C : xj_C E G cc own nL d q c0 s0 ret) {ix : Nat} {r : Nat} {y : Int32} (a : xj_At cc pc (.putfield ix) 3 nx) (hl : xj_FL own ix "ThreePhaseGroup$Client" "latestAnswer" "I") (hr : r < 2) (kk : xn_X E G Q cs sl nx L st (xn_uI v 19 r 0 5 y)) : xn_X E G Q cs sl pc L (.int y :: .ref (xj_ad G (19, r, 0)) :: st) v :=
  xj_put (x := 5) (w2 := xn_W (xn_uI v 19 r 0 5 y)) C a cf_C hl ⟨rfl, rfl, rfl⟩ (by decide) (xj_ok19 hr) (Or.inl rfl) rfl rfl (xj_setI (w := xn_W v) rfl (by decide) rfl) rfl (xj_uI_oth (w := xn_W v)) kk
theorem xn_g_T_count (C : xj_C E G cc own nL d q c0 s0 ret) {ix : Nat} (a : xj_At cc pc (.getfield ix) 3 nx) (hl : xj_FL own ix "ThreePhaseGroupModel" "count" "I") (kk : xn_X E G Q cs sl nx L (.int (v.1 21 0 0 0) :: st) v) : xn_X E G Q cs sl pc L (.ref (xj_ad G (21, 0, 0)) :: st) v :=
  xj_get (x := 0) C a cf_T hl ⟨rfl, rfl, rfl⟩ (by decide) xj_ok21 rfl kk
theorem xn_p_T_count (C : xj_C E G cc own nL d q c0 s0 ret) {ix : Nat} {y : Int32} (a : xj_At cc pc (.putfield ix) 3 nx) (hl : xj_FL own ix "ThreePhaseGroupModel" "count" "I") (kk : xn_X E G Q cs sl nx L st (xn_uI v 21 0 0 0 y)) : xn_X E G Q cs sl pc L (.int y :: .ref (xj_ad G (21, 0, 0)) :: st) v :=
  xj_put (x := 0) (w2 := xn_W (xn_uI v 21 0 0 0 y)) C a cf_T hl ⟨rfl, rfl, rfl⟩ (by decide) xj_ok21 (Or.inl rfl) rfl rfl (xj_setI (w := xn_W v) rfl (by decide) rfl) rfl (xj_uI_oth (w := xn_W v)) kk
theorem xn_g_T_kind (C : xj_C E G cc own nL d q c0 s0 ret) {ix : Nat} (a : xj_At cc pc (.getfield ix) 3 nx) (hl : xj_FL own ix "ThreePhaseGroupModel" "kind" "[I") (kk : xn_X E G Q cs sl nx L (.ref (xj_ad G (22, 0, 0)) :: st) v) : xn_X E G Q cs sl pc L (.ref (xj_ad G (21, 0, 0)) :: st) v :=
  xj_get (x := 1) C a cf_T hl ⟨rfl, rfl, rfl⟩ (by decide) xj_ok21 rfl kk
theorem xn_g_T_from (C : xj_C E G cc own nL d q c0 s0 ret) {ix : Nat} (a : xj_At cc pc (.getfield ix) 3 nx) (hl : xj_FL own ix "ThreePhaseGroupModel" "from" "[I") (kk : xn_X E G Q cs sl nx L (.ref (xj_ad G (23, 0, 0)) :: st) v) : xn_X E G Q cs sl pc L (.ref (xj_ad G (21, 0, 0)) :: st) v :=
  xj_get (x := 2) C a cf_T hl ⟨rfl, rfl, rfl⟩ (by decide) xj_ok21 rfl kk
theorem xn_g_T_a (C : xj_C E G cc own nL d q c0 s0 ret) {ix : Nat} (a : xj_At cc pc (.getfield ix) 3 nx) (hl : xj_FL own ix "ThreePhaseGroupModel" "a" "[I") (kk : xn_X E G Q cs sl nx L (.ref (xj_ad G (24, 0, 0)) :: st) v) : xn_X E G Q cs sl pc L (.ref (xj_ad G (21, 0, 0)) :: st) v :=
  xj_get (x := 3) C a cf_T hl ⟨rfl, rfl, rfl⟩ (by decide) xj_ok21 rfl kk
theorem xn_g_T_b (C : xj_C E G cc own nL d q c0 s0 ret) {ix : Nat} (a : xj_At cc pc (.getfield ix) 3 nx) (hl : xj_FL own ix "ThreePhaseGroupModel" "b" "[J") (kk : xn_X E G Q cs sl nx L (.ref (xj_ad G (25, 0, 0)) :: st) v) : xn_X E G Q cs sl pc L (.ref (xj_ad G (21, 0, 0)) :: st) v :=
  xj_get (x := 4) C a cf_T hl ⟨rfl, rfl, rfl⟩ (by decide) xj_ok21 rfl kk
theorem xn_g_T_c (C : xj_C E G cc own nL d q c0 s0 ret) {ix : Nat} (a : xj_At cc pc (.getfield ix) 3 nx) (hl : xj_FL own ix "ThreePhaseGroupModel" "c" "[I") (kk : xn_X E G Q cs sl nx L (.ref (xj_ad G (26, 0, 0)) :: st) v) : xn_X E G Q cs sl pc L (.ref (xj_ad G (21, 0, 0)) :: st) v :=
  xj_get (x := 5) C a cf_T hl ⟨rfl, rfl, rfl⟩ (by decide) xj_ok21 rfl kk
theorem xn_g_T_forged (C : xj_C E G cc own nL d q c0 s0 ret) {ix : Nat} (a : xj_At cc pc (.getfield ix) 3 nx) (hl : xj_FL own ix "ThreePhaseGroupModel" "forged" "[Z") (kk : xn_X E G Q cs sl nx L (.ref (xj_ad G (27, 0, 0)) :: st) v) : xn_X E G Q cs sl pc L (.ref (xj_ad G (21, 0, 0)) :: st) v :=
  xj_get (x := 6) C a cf_T hl ⟨rfl, rfl, rfl⟩ (by decide) xj_ok21 rfl kk
theorem xn_g_T_noted (C : xj_C E G cc own nL d q c0 s0 ret) {ix : Nat} (a : xj_At cc pc (.getfield ix) 3 nx) (hl : xj_FL own ix "ThreePhaseGroupModel" "noted" "[Z") (kk : xn_X E G Q cs sl nx L (.ref (xj_ad G (28, 0, 0)) :: st) v) : xn_X E G Q cs sl pc L (.ref (xj_ad G (21, 0, 0)) :: st) v :=
  xj_get (x := 7) C a cf_T hl ⟨rfl, rfl, rfl⟩ (by decide) xj_ok21 rfl kk
theorem xn_g_T_known (C : xj_C E G cc own nL d q c0 s0 ret) {ix : Nat} (a : xj_At cc pc (.getfield ix) 3 nx) (hl : xj_FL own ix "ThreePhaseGroupModel" "known" "[Z") (kk : xn_X E G Q cs sl nx L (.ref (xj_ad G (29, 0, 0)) :: st) v) : xn_X E G Q cs sl pc L (.ref (xj_ad G (21, 0, 0)) :: st) v :=
  xj_get (x := 8) C a cf_T hl ⟨rfl, rfl, rfl⟩ (by decide) xj_ok21 rfl kk
theorem xn_g_T_view (C : xj_C E G cc own nL d q c0 s0 ret) {ix : Nat} (a : xj_At cc pc (.getfield ix) 3 nx) (hl : xj_FL own ix "ThreePhaseGroupModel" "view" "[I") (kk : xn_X E G Q cs sl nx L (.ref (xj_ad G (30, 0, 0)) :: st) v) : xn_X E G Q cs sl pc L (.ref (xj_ad G (21, 0, 0)) :: st) v :=
  xj_get (x := 9) C a cf_T hl ⟨rfl, rfl, rfl⟩ (by decide) xj_ok21 rfl kk
theorem xn_g_T_changing (C : xj_C E G cc own nL d q c0 s0 ret) {ix : Nat} (a : xj_At cc pc (.getfield ix) 3 nx) (hl : xj_FL own ix "ThreePhaseGroupModel" "changing" "[Z") (kk : xn_X E G Q cs sl nx L (.ref (xj_ad G (31, 0, 0)) :: st) v) : xn_X E G Q cs sl pc L (.ref (xj_ad G (21, 0, 0)) :: st) v :=
  xj_get (x := 10) C a cf_T hl ⟨rfl, rfl, rfl⟩ (by decide) xj_ok21 rfl kk
theorem xn_g_T_h (C : xj_C E G cc own nL d q c0 s0 ret) {ix : Nat} (a : xj_At cc pc (.getfield ix) 3 nx) (hl : xj_FL own ix "ThreePhaseGroupModel" "h" "[I") (kk : xn_X E G Q cs sl nx L (.ref (xj_ad G (32, 0, 0)) :: st) v) : xn_X E G Q cs sl pc L (.ref (xj_ad G (21, 0, 0)) :: st) v :=
  xj_get (x := 11) C a cf_T hl ⟨rfl, rfl, rfl⟩ (by decide) xj_ok21 rfl kk
theorem xn_g_T_e (C : xj_C E G cc own nL d q c0 s0 ret) {ix : Nat} (a : xj_At cc pc (.getfield ix) 3 nx) (hl : xj_FL own ix "ThreePhaseGroupModel" "e" "[I") (kk : xn_X E G Q cs sl nx L (.ref (xj_ad G (33, 0, 0)) :: st) v) : xn_X E G Q cs sl pc L (.ref (xj_ad G (21, 0, 0)) :: st) v :=
  xj_get (x := 12) C a cf_T hl ⟨rfl, rfl, rfl⟩ (by decide) xj_ok21 rfl kk
theorem xn_g_T_state (C : xj_C E G cc own nL d q c0 s0 ret) {ix : Nat} (a : xj_At cc pc (.getfield ix) 3 nx) (hl : xj_FL own ix "ThreePhaseGroupModel" "state" "[J") (kk : xn_X E G Q cs sl nx L (.ref (xj_ad G (34, 0, 0)) :: st) v) : xn_X E G Q cs sl pc L (.ref (xj_ad G (21, 0, 0)) :: st) v :=
  xj_get (x := 13) C a cf_T hl ⟨rfl, rfl, rfl⟩ (by decide) xj_ok21 rfl kk
theorem xn_g_T_span (C : xj_C E G cc own nL d q c0 s0 ret) {ix : Nat} (a : xj_At cc pc (.getfield ix) 3 nx) (hl : xj_FL own ix "ThreePhaseGroupModel" "span" "[I") (kk : xn_X E G Q cs sl nx L (.ref (xj_ad G (35, 0, 0)) :: st) v) : xn_X E G Q cs sl pc L (.ref (xj_ad G (21, 0, 0)) :: st) v :=
  xj_get (x := 14) C a cf_T hl ⟨rfl, rfl, rfl⟩ (by decide) xj_ok21 rfl kk
theorem xn_g_T_timer (C : xj_C E G cc own nL d q c0 s0 ret) {ix : Nat} (a : xj_At cc pc (.getfield ix) 3 nx) (hl : xj_FL own ix "ThreePhaseGroupModel" "timer" "[I") (kk : xn_X E G Q cs sl nx L (.ref (xj_ad G (36, 0, 0)) :: st) v) : xn_X E G Q cs sl pc L (.ref (xj_ad G (21, 0, 0)) :: st) v :=
  xj_get (x := 15) C a cf_T hl ⟨rfl, rfl, rfl⟩ (by decide) xj_ok21 rfl kk
theorem xn_g_T_accepted (C : xj_C E G cc own nL d q c0 s0 ret) {ix : Nat} (a : xj_At cc pc (.getfield ix) 3 nx) (hl : xj_FL own ix "ThreePhaseGroupModel" "accepted" "[I") (kk : xn_X E G Q cs sl nx L (.ref (xj_ad G (37, 0, 0)) :: st) v) : xn_X E G Q cs sl pc L (.ref (xj_ad G (21, 0, 0)) :: st) v :=
  xj_get (x := 16) C a cf_T hl ⟨rfl, rfl, rfl⟩ (by decide) xj_ok21 rfl kk
theorem xn_g_T_decided (C : xj_C E G cc own nL d q c0 s0 ret) {ix : Nat} (a : xj_At cc pc (.getfield ix) 3 nx) (hl : xj_FL own ix "ThreePhaseGroupModel" "decided" "[I") (kk : xn_X E G Q cs sl nx L (.ref (xj_ad G (38, 0, 0)) :: st) v) : xn_X E G Q cs sl pc L (.ref (xj_ad G (21, 0, 0)) :: st) v :=
  xj_get (x := 17) C a cf_T hl ⟨rfl, rfl, rfl⟩ (by decide) xj_ok21 rfl kk
theorem xn_g_T_certified (C : xj_C E G cc own nL d q c0 s0 ret) {ix : Nat} (a : xj_At cc pc (.getfield ix) 3 nx) (hl : xj_FL own ix "ThreePhaseGroupModel" "certified" "[I") (kk : xn_X E G Q cs sl nx L (.ref (xj_ad G (39, 0, 0)) :: st) v) : xn_X E G Q cs sl pc L (.ref (xj_ad G (21, 0, 0)) :: st) v :=
  xj_get (x := 18) C a cf_T hl ⟨rfl, rfl, rfl⟩ (by decide) xj_ok21 rfl kk
theorem xn_g_T_certView (C : xj_C E G cc own nL d q c0 s0 ret) {ix : Nat} (a : xj_At cc pc (.getfield ix) 3 nx) (hl : xj_FL own ix "ThreePhaseGroupModel" "certView" "[I") (kk : xn_X E G Q cs sl nx L (.ref (xj_ad G (40, 0, 0)) :: st) v) : xn_X E G Q cs sl pc L (.ref (xj_ad G (21, 0, 0)) :: st) v :=
  xj_get (x := 19) C a cf_T hl ⟨rfl, rfl, rfl⟩ (by decide) xj_ok21 rfl kk
theorem xn_g_T_faulty (C : xj_C E G cc own nL d q c0 s0 ret) {ix : Nat} (a : xj_At cc pc (.getfield ix) 3 nx) (hl : xj_FL own ix "ThreePhaseGroupModel" "faulty" "I") (kk : xn_X E G Q cs sl nx L (.int (v.1 21 0 0 20) :: st) v) : xn_X E G Q cs sl pc L (.ref (xj_ad G (21, 0, 0)) :: st) v :=
  xj_get (x := 20) C a cf_T hl ⟨rfl, rfl, rfl⟩ (by decide) xj_ok21 rfl kk
theorem xn_p_T_faulty (C : xj_C E G cc own nL d q c0 s0 ret) {ix : Nat} {y : Int32} (a : xj_At cc pc (.putfield ix) 3 nx) (hl : xj_FL own ix "ThreePhaseGroupModel" "faulty" "I") (kk : xn_X E G Q cs sl nx L st (xn_uI v 21 0 0 20 y)) : xn_X E G Q cs sl pc L (.int y :: .ref (xj_ad G (21, 0, 0)) :: st) v :=
  xj_put (x := 20) (w2 := xn_W (xn_uI v 21 0 0 20 y)) C a cf_T hl ⟨rfl, rfl, rfl⟩ (by decide) xj_ok21 (Or.inl rfl) rfl rfl (xj_setI (w := xn_W v) rfl (by decide) rfl) rfl (xj_uI_oth (w := xn_W v)) kk
theorem xn_g_T_afresh (C : xj_C E G cc own nL d q c0 s0 ret) {ix : Nat} (a : xj_At cc pc (.getfield ix) 3 nx) (hl : xj_FL own ix "ThreePhaseGroupModel" "afresh" "Z") (kk : xn_X E G Q cs sl nx L (.int (v.1 21 0 0 21) :: st) v) : xn_X E G Q cs sl pc L (.ref (xj_ad G (21, 0, 0)) :: st) v :=
  xj_get (x := 21) C a cf_T hl ⟨rfl, rfl, rfl⟩ (by decide) xj_ok21 rfl kk
theorem xn_p_T_afresh (C : xj_C E G cc own nL d q c0 s0 ret) {ix : Nat} {y : Int32} (a : xj_At cc pc (.putfield ix) 3 nx) (hl : xj_FL own ix "ThreePhaseGroupModel" "afresh" "Z") (hb : y = 0 ∨ y = 1) (kk : xn_X E G Q cs sl nx L st (xn_uI v 21 0 0 21 y)) : xn_X E G Q cs sl pc L (.int y :: .ref (xj_ad G (21, 0, 0)) :: st) v :=
  xj_put (x := 21) (w2 := xn_W (xn_uI v 21 0 0 21 y)) C a cf_T hl ⟨rfl, rfl, rfl⟩ (by decide) xj_ok21 (Or.inl rfl) (xn_bool hb) (xn_boolf hb) (xj_setI (w := xn_W v) rfl (by decide) rfl) rfl (xj_uI_oth (w := xn_W v)) kk
theorem xn_g_T_stamp (C : xj_C E G cc own nL d q c0 s0 ret) {ix : Nat} (a : xj_At cc pc (.getfield ix) 3 nx) (hl : xj_FL own ix "ThreePhaseGroupModel" "stamp" "[I") (kk : xn_X E G Q cs sl nx L (.ref (xj_ad G (41, 0, 0)) :: st) v) : xn_X E G Q cs sl pc L (.ref (xj_ad G (21, 0, 0)) :: st) v :=
  xj_get (x := 22) C a cf_T hl ⟨rfl, rfl, rfl⟩ (by decide) xj_ok21 rfl kk
theorem xn_g_T_open (C : xj_C E G cc own nL d q c0 s0 ret) {ix : Nat} (a : xj_At cc pc (.getfield ix) 3 nx) (hl : xj_FL own ix "ThreePhaseGroupModel" "open" "[I") (kk : xn_X E G Q cs sl nx L (.ref (xj_ad G (42, 0, 0)) :: st) v) : xn_X E G Q cs sl pc L (.ref (xj_ad G (21, 0, 0)) :: st) v :=
  xj_get (x := 23) C a cf_T hl ⟨rfl, rfl, rfl⟩ (by decide) xj_ok21 rfl kk
theorem xn_g_T_reply (C : xj_C E G cc own nL d q c0 s0 ret) {ix : Nat} (a : xj_At cc pc (.getfield ix) 3 nx) (hl : xj_FL own ix "ThreePhaseGroupModel" "reply" "[I") (kk : xn_X E G Q cs sl nx L (.ref (xj_ad G (43, 0, 0)) :: st) v) : xn_X E G Q cs sl pc L (.ref (xj_ad G (21, 0, 0)) :: st) v :=
  xj_get (x := 24) C a cf_T hl ⟨rfl, rfl, rfl⟩ (by decide) xj_ok21 rfl kk
theorem xn_g_T_taken (C : xj_C E G cc own nL d q c0 s0 ret) {ix : Nat} (a : xj_At cc pc (.getfield ix) 3 nx) (hl : xj_FL own ix "ThreePhaseGroupModel" "taken" "[Z") (kk : xn_X E G Q cs sl nx L (.ref (xj_ad G (44, 0, 0)) :: st) v) : xn_X E G Q cs sl pc L (.ref (xj_ad G (21, 0, 0)) :: st) v :=
  xj_get (x := 25) C a cf_T hl ⟨rfl, rfl, rfl⟩ (by decide) xj_ok21 rfl kk
theorem xn_g_T_mark (C : xj_C E G cc own nL d q c0 s0 ret) {ix : Nat} (a : xj_At cc pc (.getfield ix) 3 nx) (hl : xj_FL own ix "ThreePhaseGroupModel" "mark" "[I") (kk : xn_X E G Q cs sl nx L (.ref (xj_ad G (45, 0, 0)) :: st) v) : xn_X E G Q cs sl pc L (.ref (xj_ad G (21, 0, 0)) :: st) v :=
  xj_get (x := 26) C a cf_T hl ⟨rfl, rfl, rfl⟩ (by decide) xj_ok21 rfl kk
theorem xn_ld_2 (C : xj_C E G cc own nL d q c0 s0 ret) {j : Nat} (a : xj_At cc pc .iaload 1 nx) (hj : j < 256) (kk : xn_X E G Q cs sl nx L (.int (v.1 2 0 0 j) :: st) v) : xn_X E G Q cs sl pc L (.int (nI j) :: .ref (xj_ad G (2, 0, 0)) :: st) v := by
  refine xj_iald C a rfl xj_ok2 (vp_in_nI hj (by decide)) ?_
  rw [nI_clamp (by omega)]
  exact kk
theorem xn_st_2 (C : xj_C E G cc own nL d q c0 s0 ret) {j : Nat} {y : Int32} (a : xj_At cc pc .iastore 1 nx) (hj : j < 256) (kk : xn_X E G Q cs sl nx L st (xn_uI v 2 0 0 j y)) : xn_X E G Q cs sl pc L (.int y :: .int (nI j) :: .ref (xj_ad G (2, 0, 0)) :: st) v := by
  refine xj_iast C a rfl xj_ok2 (vp_in_nI hj (by decide)) ?_
  rw [nI_clamp (by omega)]
  exact kk
theorem xn_ld_3 (C : xj_C E G cc own nL d q c0 s0 ret) {j : Nat} (a : xj_At cc pc .iaload 1 nx) (hj : j < 256) (kk : xn_X E G Q cs sl nx L (.int (v.1 3 0 0 j) :: st) v) : xn_X E G Q cs sl pc L (.int (nI j) :: .ref (xj_ad G (3, 0, 0)) :: st) v := by
  refine xj_iald C a rfl xj_ok3 (vp_in_nI hj (by decide)) ?_
  rw [nI_clamp (by omega)]
  exact kk
theorem xn_st_3 (C : xj_C E G cc own nL d q c0 s0 ret) {j : Nat} {y : Int32} (a : xj_At cc pc .iastore 1 nx) (hj : j < 256) (kk : xn_X E G Q cs sl nx L st (xn_uI v 3 0 0 j y)) : xn_X E G Q cs sl pc L (.int y :: .int (nI j) :: .ref (xj_ad G (3, 0, 0)) :: st) v := by
  refine xj_iast C a rfl xj_ok3 (vp_in_nI hj (by decide)) ?_
  rw [nI_clamp (by omega)]
  exact kk
theorem xn_ld_4 (C : xj_C E G cc own nL d q c0 s0 ret) {j : Nat} (a : xj_At cc pc .iaload 1 nx) (hj : j < 256) (kk : xn_X E G Q cs sl nx L (.int (v.1 4 0 0 j) :: st) v) : xn_X E G Q cs sl pc L (.int (nI j) :: .ref (xj_ad G (4, 0, 0)) :: st) v := by
  refine xj_iald C a rfl xj_ok4 (vp_in_nI hj (by decide)) ?_
  rw [nI_clamp (by omega)]
  exact kk
theorem xn_st_4 (C : xj_C E G cc own nL d q c0 s0 ret) {j : Nat} {y : Int32} (a : xj_At cc pc .iastore 1 nx) (hj : j < 256) (kk : xn_X E G Q cs sl nx L st (xn_uI v 4 0 0 j y)) : xn_X E G Q cs sl pc L (.int y :: .int (nI j) :: .ref (xj_ad G (4, 0, 0)) :: st) v := by
  refine xj_iast C a rfl xj_ok4 (vp_in_nI hj (by decide)) ?_
  rw [nI_clamp (by omega)]
  exact kk
theorem xn_ld_5 (C : xj_C E G cc own nL d q c0 s0 ret) {j : Nat} (a : xj_At cc pc .laload 1 nx) (hj : j < 256) (kk : xn_X E G Q cs sl nx L (.long (v.2 5 0 0 j) :: st) v) : xn_X E G Q cs sl pc L (.int (nI j) :: .ref (xj_ad G (5, 0, 0)) :: st) v := by
  refine xj_lald C a rfl xj_ok5 (vp_in_nI hj (by decide)) ?_
  rw [nI_clamp (by omega)]
  exact kk
theorem xn_st_5 (C : xj_C E G cc own nL d q c0 s0 ret) {j : Nat} {y : Int64} (a : xj_At cc pc .lastore 1 nx) (hj : j < 256) (kk : xn_X E G Q cs sl nx L st (xn_uJ v 5 0 0 j y)) : xn_X E G Q cs sl pc L (.long y :: .int (nI j) :: .ref (xj_ad G (5, 0, 0)) :: st) v := by
  refine xj_last C a rfl xj_ok5 (vp_in_nI hj (by decide)) ?_
  rw [nI_clamp (by omega)]
  exact kk
theorem xn_ld_6 (C : xj_C E G cc own nL d q c0 s0 ret) {j : Nat} (a : xj_At cc pc .iaload 1 nx) (hj : j < 256) (kk : xn_X E G Q cs sl nx L (.int (v.1 6 0 0 j) :: st) v) : xn_X E G Q cs sl pc L (.int (nI j) :: .ref (xj_ad G (6, 0, 0)) :: st) v := by
  refine xj_iald C a rfl xj_ok6 (vp_in_nI hj (by decide)) ?_
  rw [nI_clamp (by omega)]
  exact kk
theorem xn_st_6 (C : xj_C E G cc own nL d q c0 s0 ret) {j : Nat} {y : Int32} (a : xj_At cc pc .iastore 1 nx) (hj : j < 256) (kk : xn_X E G Q cs sl nx L st (xn_uI v 6 0 0 j y)) : xn_X E G Q cs sl pc L (.int y :: .int (nI j) :: .ref (xj_ad G (6, 0, 0)) :: st) v := by
  refine xj_iast C a rfl xj_ok6 (vp_in_nI hj (by decide)) ?_
  rw [nI_clamp (by omega)]
  exact kk
theorem xn_ld_7 (C : xj_C E G cc own nL d q c0 s0 ret) {j : Nat} (a : xj_At cc pc .baload 1 nx) (hj : j < 256) (kk : xn_X E G Q cs sl nx L (.int (v.1 7 0 0 j) :: st) v) : xn_X E G Q cs sl pc L (.int (nI j) :: .ref (xj_ad G (7, 0, 0)) :: st) v := by
  refine xj_zald C a rfl xj_ok7 (vp_in_nI hj (by decide)) ?_
  rw [nI_clamp (by omega)]
  exact kk
theorem xn_st_7 (C : xj_C E G cc own nL d q c0 s0 ret) {j : Nat} {y : Int32} (a : xj_At cc pc .bastore 1 nx) (hj : j < 256) (hb : y = 0 ∨ y = 1) (kk : xn_X E G Q cs sl nx L st (xn_uI v 7 0 0 j y)) : xn_X E G Q cs sl pc L (.int y :: .int (nI j) :: .ref (xj_ad G (7, 0, 0)) :: st) v := by
  refine xj_zast C a rfl xj_ok7 (vp_in_nI hj (by decide)) (xn_bool hb) ?_
  rw [nI_clamp (by omega)]
  exact kk
theorem xn_ld_8 (C : xj_C E G cc own nL d q c0 s0 ret) {j : Nat} (a : xj_At cc pc .aaload 1 nx) (hj : j < 4) (kk : xn_X E G Q cs sl nx L (.ref (xj_ad G (11, j, 0)) :: st) v) : xn_X E G Q cs sl pc L (.int (nI j) :: .ref (xj_ad G (8, 0, 0)) :: st) v := by
  refine xj_aald (t0 := 4) (p2 := (11, j, 0)) C a ⟨rfl, rfl⟩ xj_ok8 (vp_in_nI hj (by decide)) ?_ kk
  rw [nI_clamp (by omega)]
  show (if j < 4 then some (11, j, 0) else none) = some (11, j, 0)
  rw [if_pos hj]
theorem xn_ld_9 (C : xj_C E G cc own nL d q c0 s0 ret) {j : Nat} (a : xj_At cc pc .aaload 1 nx) (hj : j < 2) (kk : xn_X E G Q cs sl nx L (.ref (xj_ad G (19, j, 0)) :: st) v) : xn_X E G Q cs sl pc L (.int (nI j) :: .ref (xj_ad G (9, 0, 0)) :: st) v := by
  refine xj_aald (t0 := 5) (p2 := (19, j, 0)) C a ⟨rfl, rfl⟩ xj_ok9 (vp_in_nI hj (by decide)) ?_ kk
  rw [nI_clamp (by omega)]
  show (if j < 2 then some (19, j, 0) else none) = some (19, j, 0)
  rw [if_pos hj]
theorem xn_ld_10 (C : xj_C E G cc own nL d q c0 s0 ret) {j : Nat} (a : xj_At cc pc .iaload 1 nx) (hj : j < 6) (kk : xn_X E G Q cs sl nx L (.int (v.1 10 0 0 j) :: st) v) : xn_X E G Q cs sl pc L (.int (nI j) :: .ref (xj_ad G (10, 0, 0)) :: st) v := by
  refine xj_iald C a rfl xj_ok10 (vp_in_nI hj (by decide)) ?_
  rw [nI_clamp (by omega)]
  exact kk
theorem xn_st_10 (C : xj_C E G cc own nL d q c0 s0 ret) {j : Nat} {y : Int32} (a : xj_At cc pc .iastore 1 nx) (hj : j < 6) (kk : xn_X E G Q cs sl nx L st (xn_uI v 10 0 0 j y)) : xn_X E G Q cs sl pc L (.int y :: .int (nI j) :: .ref (xj_ad G (10, 0, 0)) :: st) v := by
  refine xj_iast C a rfl xj_ok10 (vp_in_nI hj (by decide)) ?_
  rw [nI_clamp (by omega)]
  exact kk
theorem xn_ld_12 (C : xj_C E G cc own nL d q c0 s0 ret) {r : Nat} {j : Nat} (a : xj_At cc pc .aaload 1 nx) (hr : r < 4) (hj : j < 4) (kk : xn_X E G Q cs sl nx L (.ref (xj_ad G (13, r, j)) :: st) v) : xn_X E G Q cs sl pc L (.int (nI j) :: .ref (xj_ad G (12, r, 0)) :: st) v := by
  refine xj_aald (t0 := 3) (p2 := (13, r, j)) C a ⟨rfl, rfl⟩ (xj_ok12 hr) (vp_in_nI hj (by decide)) ?_ kk
  rw [nI_clamp (by omega)]
  show (if j < 4 then some (13, r, j) else none) = some (13, r, j)
  rw [if_pos hj]
theorem xn_ld_14 (C : xj_C E G cc own nL d q c0 s0 ret) {r : Nat} {i : Nat} {j : Nat} (a : xj_At cc pc .laload 1 nx) (hr : r < 4) (hi : i < 4) (hj : j < 4) (kk : xn_X E G Q cs sl nx L (.long (v.2 14 r i j) :: st) v) : xn_X E G Q cs sl pc L (.int (nI j) :: .ref (xj_ad G (14, r, i)) :: st) v := by
  refine xj_lald C a rfl (xj_ok14 hr hi) (vp_in_nI hj (by decide)) ?_
  rw [nI_clamp (by omega)]
  exact kk
theorem xn_st_14 (C : xj_C E G cc own nL d q c0 s0 ret) {r : Nat} {i : Nat} {j : Nat} {y : Int64} (a : xj_At cc pc .lastore 1 nx) (hr : r < 4) (hi : i < 4) (hj : j < 4) (kk : xn_X E G Q cs sl nx L st (xn_uJ v 14 r i j y)) : xn_X E G Q cs sl pc L (.long y :: .int (nI j) :: .ref (xj_ad G (14, r, i)) :: st) v := by
  refine xj_last C a rfl (xj_ok14 hr hi) (vp_in_nI hj (by decide)) ?_
  rw [nI_clamp (by omega)]
  exact kk
theorem xn_ld_15 (C : xj_C E G cc own nL d q c0 s0 ret) {r : Nat} {i : Nat} {j : Nat} (a : xj_At cc pc .laload 1 nx) (hr : r < 4) (hi : i < 4) (hj : j < 4) (kk : xn_X E G Q cs sl nx L (.long (v.2 15 r i j) :: st) v) : xn_X E G Q cs sl pc L (.int (nI j) :: .ref (xj_ad G (15, r, i)) :: st) v := by
  refine xj_lald C a rfl (xj_ok15 hr hi) (vp_in_nI hj (by decide)) ?_
  rw [nI_clamp (by omega)]
  exact kk
theorem xn_st_15 (C : xj_C E G cc own nL d q c0 s0 ret) {r : Nat} {i : Nat} {j : Nat} {y : Int64} (a : xj_At cc pc .lastore 1 nx) (hr : r < 4) (hi : i < 4) (hj : j < 4) (kk : xn_X E G Q cs sl nx L st (xn_uJ v 15 r i j y)) : xn_X E G Q cs sl pc L (.long y :: .int (nI j) :: .ref (xj_ad G (15, r, i)) :: st) v := by
  refine xj_last C a rfl (xj_ok15 hr hi) (vp_in_nI hj (by decide)) ?_
  rw [nI_clamp (by omega)]
  exact kk
theorem xn_ld_17 (C : xj_C E G cc own nL d q c0 s0 ret) {r : Nat} {i : Nat} {j : Nat} (a : xj_At cc pc .iaload 1 nx) (hr : r < 4) (hi : i < 2) (hj : j < 256) (kk : xn_X E G Q cs sl nx L (.int (v.1 17 r i j) :: st) v) : xn_X E G Q cs sl pc L (.int (nI j) :: .ref (xj_ad G (17, r, i)) :: st) v := by
  refine xj_iald C a rfl (xj_ok17 hr hi) (vp_in_nI hj (by decide)) ?_
  rw [nI_clamp (by omega)]
  exact kk
theorem xn_st_17 (C : xj_C E G cc own nL d q c0 s0 ret) {r : Nat} {i : Nat} {j : Nat} {y : Int32} (a : xj_At cc pc .iastore 1 nx) (hr : r < 4) (hi : i < 2) (hj : j < 256) (kk : xn_X E G Q cs sl nx L st (xn_uI v 17 r i j y)) : xn_X E G Q cs sl pc L (.int y :: .int (nI j) :: .ref (xj_ad G (17, r, i)) :: st) v := by
  refine xj_iast C a rfl (xj_ok17 hr hi) (vp_in_nI hj (by decide)) ?_
  rw [nI_clamp (by omega)]
  exact kk
theorem xn_ld_18 (C : xj_C E G cc own nL d q c0 s0 ret) {r : Nat} {j : Nat} (a : xj_At cc pc .iaload 1 nx) (hr : r < 4) (hj : j < 4) (kk : xn_X E G Q cs sl nx L (.int (v.1 18 r 0 j) :: st) v) : xn_X E G Q cs sl pc L (.int (nI j) :: .ref (xj_ad G (18, r, 0)) :: st) v := by
  refine xj_iald C a rfl (xj_ok18 hr) (vp_in_nI hj (by decide)) ?_
  rw [nI_clamp (by omega)]
  exact kk
theorem xn_st_18 (C : xj_C E G cc own nL d q c0 s0 ret) {r : Nat} {j : Nat} {y : Int32} (a : xj_At cc pc .iastore 1 nx) (hr : r < 4) (hj : j < 4) (kk : xn_X E G Q cs sl nx L st (xn_uI v 18 r 0 j y)) : xn_X E G Q cs sl pc L (.int y :: .int (nI j) :: .ref (xj_ad G (18, r, 0)) :: st) v := by
  refine xj_iast C a rfl (xj_ok18 hr) (vp_in_nI hj (by decide)) ?_
  rw [nI_clamp (by omega)]
  exact kk
theorem xn_ld_20 (C : xj_C E G cc own nL d q c0 s0 ret) {r : Nat} {j : Nat} (a : xj_At cc pc .laload 1 nx) (hr : r < 2) (hj : j < 4) (kk : xn_X E G Q cs sl nx L (.long (v.2 20 r 0 j) :: st) v) : xn_X E G Q cs sl pc L (.int (nI j) :: .ref (xj_ad G (20, r, 0)) :: st) v := by
  refine xj_lald C a rfl (xj_ok20 hr) (vp_in_nI hj (by decide)) ?_
  rw [nI_clamp (by omega)]
  exact kk
theorem xn_st_20 (C : xj_C E G cc own nL d q c0 s0 ret) {r : Nat} {j : Nat} {y : Int64} (a : xj_At cc pc .lastore 1 nx) (hr : r < 2) (hj : j < 4) (kk : xn_X E G Q cs sl nx L st (xn_uJ v 20 r 0 j y)) : xn_X E G Q cs sl pc L (.long y :: .int (nI j) :: .ref (xj_ad G (20, r, 0)) :: st) v := by
  refine xj_last C a rfl (xj_ok20 hr) (vp_in_nI hj (by decide)) ?_
  rw [nI_clamp (by omega)]
  exact kk
theorem xn_ld_22 (C : xj_C E G cc own nL d q c0 s0 ret) {j : Nat} (a : xj_At cc pc .iaload 1 nx) (hj : j < 200) (kk : xn_X E G Q cs sl nx L (.int (v.1 22 0 0 j) :: st) v) : xn_X E G Q cs sl pc L (.int (nI j) :: .ref (xj_ad G (22, 0, 0)) :: st) v := by
  refine xj_iald C a rfl xj_ok22 (vp_in_nI hj (by decide)) ?_
  rw [nI_clamp (by omega)]
  exact kk
theorem xn_st_22 (C : xj_C E G cc own nL d q c0 s0 ret) {j : Nat} {y : Int32} (a : xj_At cc pc .iastore 1 nx) (hj : j < 200) (kk : xn_X E G Q cs sl nx L st (xn_uI v 22 0 0 j y)) : xn_X E G Q cs sl pc L (.int y :: .int (nI j) :: .ref (xj_ad G (22, 0, 0)) :: st) v := by
  refine xj_iast C a rfl xj_ok22 (vp_in_nI hj (by decide)) ?_
  rw [nI_clamp (by omega)]
  exact kk
theorem xn_ld_23 (C : xj_C E G cc own nL d q c0 s0 ret) {j : Nat} (a : xj_At cc pc .iaload 1 nx) (hj : j < 200) (kk : xn_X E G Q cs sl nx L (.int (v.1 23 0 0 j) :: st) v) : xn_X E G Q cs sl pc L (.int (nI j) :: .ref (xj_ad G (23, 0, 0)) :: st) v := by
  refine xj_iald C a rfl xj_ok23 (vp_in_nI hj (by decide)) ?_
  rw [nI_clamp (by omega)]
  exact kk
theorem xn_st_23 (C : xj_C E G cc own nL d q c0 s0 ret) {j : Nat} {y : Int32} (a : xj_At cc pc .iastore 1 nx) (hj : j < 200) (kk : xn_X E G Q cs sl nx L st (xn_uI v 23 0 0 j y)) : xn_X E G Q cs sl pc L (.int y :: .int (nI j) :: .ref (xj_ad G (23, 0, 0)) :: st) v := by
  refine xj_iast C a rfl xj_ok23 (vp_in_nI hj (by decide)) ?_
  rw [nI_clamp (by omega)]
  exact kk
theorem xn_ld_24 (C : xj_C E G cc own nL d q c0 s0 ret) {j : Nat} (a : xj_At cc pc .iaload 1 nx) (hj : j < 200) (kk : xn_X E G Q cs sl nx L (.int (v.1 24 0 0 j) :: st) v) : xn_X E G Q cs sl pc L (.int (nI j) :: .ref (xj_ad G (24, 0, 0)) :: st) v := by
  refine xj_iald C a rfl xj_ok24 (vp_in_nI hj (by decide)) ?_
  rw [nI_clamp (by omega)]
  exact kk
theorem xn_st_24 (C : xj_C E G cc own nL d q c0 s0 ret) {j : Nat} {y : Int32} (a : xj_At cc pc .iastore 1 nx) (hj : j < 200) (kk : xn_X E G Q cs sl nx L st (xn_uI v 24 0 0 j y)) : xn_X E G Q cs sl pc L (.int y :: .int (nI j) :: .ref (xj_ad G (24, 0, 0)) :: st) v := by
  refine xj_iast C a rfl xj_ok24 (vp_in_nI hj (by decide)) ?_
  rw [nI_clamp (by omega)]
  exact kk
theorem xn_ld_25 (C : xj_C E G cc own nL d q c0 s0 ret) {j : Nat} (a : xj_At cc pc .laload 1 nx) (hj : j < 200) (kk : xn_X E G Q cs sl nx L (.long (v.2 25 0 0 j) :: st) v) : xn_X E G Q cs sl pc L (.int (nI j) :: .ref (xj_ad G (25, 0, 0)) :: st) v := by
  refine xj_lald C a rfl xj_ok25 (vp_in_nI hj (by decide)) ?_
  rw [nI_clamp (by omega)]
  exact kk
theorem xn_st_25 (C : xj_C E G cc own nL d q c0 s0 ret) {j : Nat} {y : Int64} (a : xj_At cc pc .lastore 1 nx) (hj : j < 200) (kk : xn_X E G Q cs sl nx L st (xn_uJ v 25 0 0 j y)) : xn_X E G Q cs sl pc L (.long y :: .int (nI j) :: .ref (xj_ad G (25, 0, 0)) :: st) v := by
  refine xj_last C a rfl xj_ok25 (vp_in_nI hj (by decide)) ?_
  rw [nI_clamp (by omega)]
  exact kk
theorem xn_ld_26 (C : xj_C E G cc own nL d q c0 s0 ret) {j : Nat} (a : xj_At cc pc .iaload 1 nx) (hj : j < 200) (kk : xn_X E G Q cs sl nx L (.int (v.1 26 0 0 j) :: st) v) : xn_X E G Q cs sl pc L (.int (nI j) :: .ref (xj_ad G (26, 0, 0)) :: st) v := by
  refine xj_iald C a rfl xj_ok26 (vp_in_nI hj (by decide)) ?_
  rw [nI_clamp (by omega)]
  exact kk
theorem xn_st_26 (C : xj_C E G cc own nL d q c0 s0 ret) {j : Nat} {y : Int32} (a : xj_At cc pc .iastore 1 nx) (hj : j < 200) (kk : xn_X E G Q cs sl nx L st (xn_uI v 26 0 0 j y)) : xn_X E G Q cs sl pc L (.int y :: .int (nI j) :: .ref (xj_ad G (26, 0, 0)) :: st) v := by
  refine xj_iast C a rfl xj_ok26 (vp_in_nI hj (by decide)) ?_
  rw [nI_clamp (by omega)]
  exact kk
theorem xn_ld_27 (C : xj_C E G cc own nL d q c0 s0 ret) {j : Nat} (a : xj_At cc pc .baload 1 nx) (hj : j < 200) (kk : xn_X E G Q cs sl nx L (.int (v.1 27 0 0 j) :: st) v) : xn_X E G Q cs sl pc L (.int (nI j) :: .ref (xj_ad G (27, 0, 0)) :: st) v := by
  refine xj_zald C a rfl xj_ok27 (vp_in_nI hj (by decide)) ?_
  rw [nI_clamp (by omega)]
  exact kk
theorem xn_st_27 (C : xj_C E G cc own nL d q c0 s0 ret) {j : Nat} {y : Int32} (a : xj_At cc pc .bastore 1 nx) (hj : j < 200) (hb : y = 0 ∨ y = 1) (kk : xn_X E G Q cs sl nx L st (xn_uI v 27 0 0 j y)) : xn_X E G Q cs sl pc L (.int y :: .int (nI j) :: .ref (xj_ad G (27, 0, 0)) :: st) v := by
  refine xj_zast C a rfl xj_ok27 (vp_in_nI hj (by decide)) (xn_bool hb) ?_
  rw [nI_clamp (by omega)]
  exact kk
theorem xn_ld_28 (C : xj_C E G cc own nL d q c0 s0 ret) {j : Nat} (a : xj_At cc pc .baload 1 nx) (hj : j < 800) (kk : xn_X E G Q cs sl nx L (.int (v.1 28 0 0 j) :: st) v) : xn_X E G Q cs sl pc L (.int (nI j) :: .ref (xj_ad G (28, 0, 0)) :: st) v := by
  refine xj_zald C a rfl xj_ok28 (vp_in_nI hj (by decide)) ?_
  rw [nI_clamp (by omega)]
  exact kk
theorem xn_st_28 (C : xj_C E G cc own nL d q c0 s0 ret) {j : Nat} {y : Int32} (a : xj_At cc pc .bastore 1 nx) (hj : j < 800) (hb : y = 0 ∨ y = 1) (kk : xn_X E G Q cs sl nx L st (xn_uI v 28 0 0 j y)) : xn_X E G Q cs sl pc L (.int y :: .int (nI j) :: .ref (xj_ad G (28, 0, 0)) :: st) v := by
  refine xj_zast C a rfl xj_ok28 (vp_in_nI hj (by decide)) (xn_bool hb) ?_
  rw [nI_clamp (by omega)]
  exact kk
theorem xn_ld_29 (C : xj_C E G cc own nL d q c0 s0 ret) {j : Nat} (a : xj_At cc pc .baload 1 nx) (hj : j < 800) (kk : xn_X E G Q cs sl nx L (.int (v.1 29 0 0 j) :: st) v) : xn_X E G Q cs sl pc L (.int (nI j) :: .ref (xj_ad G (29, 0, 0)) :: st) v := by
  refine xj_zald C a rfl xj_ok29 (vp_in_nI hj (by decide)) ?_
  rw [nI_clamp (by omega)]
  exact kk
theorem xn_st_29 (C : xj_C E G cc own nL d q c0 s0 ret) {j : Nat} {y : Int32} (a : xj_At cc pc .bastore 1 nx) (hj : j < 800) (hb : y = 0 ∨ y = 1) (kk : xn_X E G Q cs sl nx L st (xn_uI v 29 0 0 j y)) : xn_X E G Q cs sl pc L (.int y :: .int (nI j) :: .ref (xj_ad G (29, 0, 0)) :: st) v := by
  refine xj_zast C a rfl xj_ok29 (vp_in_nI hj (by decide)) (xn_bool hb) ?_
  rw [nI_clamp (by omega)]
  exact kk
theorem xn_ld_30 (C : xj_C E G cc own nL d q c0 s0 ret) {j : Nat} (a : xj_At cc pc .iaload 1 nx) (hj : j < 4) (kk : xn_X E G Q cs sl nx L (.int (v.1 30 0 0 j) :: st) v) : xn_X E G Q cs sl pc L (.int (nI j) :: .ref (xj_ad G (30, 0, 0)) :: st) v := by
  refine xj_iald C a rfl xj_ok30 (vp_in_nI hj (by decide)) ?_
  rw [nI_clamp (by omega)]
  exact kk
theorem xn_st_30 (C : xj_C E G cc own nL d q c0 s0 ret) {j : Nat} {y : Int32} (a : xj_At cc pc .iastore 1 nx) (hj : j < 4) (kk : xn_X E G Q cs sl nx L st (xn_uI v 30 0 0 j y)) : xn_X E G Q cs sl pc L (.int y :: .int (nI j) :: .ref (xj_ad G (30, 0, 0)) :: st) v := by
  refine xj_iast C a rfl xj_ok30 (vp_in_nI hj (by decide)) ?_
  rw [nI_clamp (by omega)]
  exact kk
theorem xn_ld_31 (C : xj_C E G cc own nL d q c0 s0 ret) {j : Nat} (a : xj_At cc pc .baload 1 nx) (hj : j < 4) (kk : xn_X E G Q cs sl nx L (.int (v.1 31 0 0 j) :: st) v) : xn_X E G Q cs sl pc L (.int (nI j) :: .ref (xj_ad G (31, 0, 0)) :: st) v := by
  refine xj_zald C a rfl xj_ok31 (vp_in_nI hj (by decide)) ?_
  rw [nI_clamp (by omega)]
  exact kk
theorem xn_st_31 (C : xj_C E G cc own nL d q c0 s0 ret) {j : Nat} {y : Int32} (a : xj_At cc pc .bastore 1 nx) (hj : j < 4) (hb : y = 0 ∨ y = 1) (kk : xn_X E G Q cs sl nx L st (xn_uI v 31 0 0 j y)) : xn_X E G Q cs sl pc L (.int y :: .int (nI j) :: .ref (xj_ad G (31, 0, 0)) :: st) v := by
  refine xj_zast C a rfl xj_ok31 (vp_in_nI hj (by decide)) (xn_bool hb) ?_
  rw [nI_clamp (by omega)]
  exact kk
theorem xn_ld_32 (C : xj_C E G cc own nL d q c0 s0 ret) {j : Nat} (a : xj_At cc pc .iaload 1 nx) (hj : j < 4) (kk : xn_X E G Q cs sl nx L (.int (v.1 32 0 0 j) :: st) v) : xn_X E G Q cs sl pc L (.int (nI j) :: .ref (xj_ad G (32, 0, 0)) :: st) v := by
  refine xj_iald C a rfl xj_ok32 (vp_in_nI hj (by decide)) ?_
  rw [nI_clamp (by omega)]
  exact kk
theorem xn_st_32 (C : xj_C E G cc own nL d q c0 s0 ret) {j : Nat} {y : Int32} (a : xj_At cc pc .iastore 1 nx) (hj : j < 4) (kk : xn_X E G Q cs sl nx L st (xn_uI v 32 0 0 j y)) : xn_X E G Q cs sl pc L (.int y :: .int (nI j) :: .ref (xj_ad G (32, 0, 0)) :: st) v := by
  refine xj_iast C a rfl xj_ok32 (vp_in_nI hj (by decide)) ?_
  rw [nI_clamp (by omega)]
  exact kk
theorem xn_ld_33 (C : xj_C E G cc own nL d q c0 s0 ret) {j : Nat} (a : xj_At cc pc .iaload 1 nx) (hj : j < 4) (kk : xn_X E G Q cs sl nx L (.int (v.1 33 0 0 j) :: st) v) : xn_X E G Q cs sl pc L (.int (nI j) :: .ref (xj_ad G (33, 0, 0)) :: st) v := by
  refine xj_iald C a rfl xj_ok33 (vp_in_nI hj (by decide)) ?_
  rw [nI_clamp (by omega)]
  exact kk
theorem xn_st_33 (C : xj_C E G cc own nL d q c0 s0 ret) {j : Nat} {y : Int32} (a : xj_At cc pc .iastore 1 nx) (hj : j < 4) (kk : xn_X E G Q cs sl nx L st (xn_uI v 33 0 0 j y)) : xn_X E G Q cs sl pc L (.int y :: .int (nI j) :: .ref (xj_ad G (33, 0, 0)) :: st) v := by
  refine xj_iast C a rfl xj_ok33 (vp_in_nI hj (by decide)) ?_
  rw [nI_clamp (by omega)]
  exact kk
theorem xn_ld_34 (C : xj_C E G cc own nL d q c0 s0 ret) {j : Nat} (a : xj_At cc pc .laload 1 nx) (hj : j < 4) (kk : xn_X E G Q cs sl nx L (.long (v.2 34 0 0 j) :: st) v) : xn_X E G Q cs sl pc L (.int (nI j) :: .ref (xj_ad G (34, 0, 0)) :: st) v := by
  refine xj_lald C a rfl xj_ok34 (vp_in_nI hj (by decide)) ?_
  rw [nI_clamp (by omega)]
  exact kk
theorem xn_st_34 (C : xj_C E G cc own nL d q c0 s0 ret) {j : Nat} {y : Int64} (a : xj_At cc pc .lastore 1 nx) (hj : j < 4) (kk : xn_X E G Q cs sl nx L st (xn_uJ v 34 0 0 j y)) : xn_X E G Q cs sl pc L (.long y :: .int (nI j) :: .ref (xj_ad G (34, 0, 0)) :: st) v := by
  refine xj_last C a rfl xj_ok34 (vp_in_nI hj (by decide)) ?_
  rw [nI_clamp (by omega)]
  exact kk
theorem xn_ld_35 (C : xj_C E G cc own nL d q c0 s0 ret) {j : Nat} (a : xj_At cc pc .iaload 1 nx) (hj : j < 4) (kk : xn_X E G Q cs sl nx L (.int (v.1 35 0 0 j) :: st) v) : xn_X E G Q cs sl pc L (.int (nI j) :: .ref (xj_ad G (35, 0, 0)) :: st) v := by
  refine xj_iald C a rfl xj_ok35 (vp_in_nI hj (by decide)) ?_
  rw [nI_clamp (by omega)]
  exact kk
theorem xn_st_35 (C : xj_C E G cc own nL d q c0 s0 ret) {j : Nat} {y : Int32} (a : xj_At cc pc .iastore 1 nx) (hj : j < 4) (kk : xn_X E G Q cs sl nx L st (xn_uI v 35 0 0 j y)) : xn_X E G Q cs sl pc L (.int y :: .int (nI j) :: .ref (xj_ad G (35, 0, 0)) :: st) v := by
  refine xj_iast C a rfl xj_ok35 (vp_in_nI hj (by decide)) ?_
  rw [nI_clamp (by omega)]
  exact kk
theorem xn_ld_36 (C : xj_C E G cc own nL d q c0 s0 ret) {j : Nat} (a : xj_At cc pc .iaload 1 nx) (hj : j < 4) (kk : xn_X E G Q cs sl nx L (.int (v.1 36 0 0 j) :: st) v) : xn_X E G Q cs sl pc L (.int (nI j) :: .ref (xj_ad G (36, 0, 0)) :: st) v := by
  refine xj_iald C a rfl xj_ok36 (vp_in_nI hj (by decide)) ?_
  rw [nI_clamp (by omega)]
  exact kk
theorem xn_st_36 (C : xj_C E G cc own nL d q c0 s0 ret) {j : Nat} {y : Int32} (a : xj_At cc pc .iastore 1 nx) (hj : j < 4) (kk : xn_X E G Q cs sl nx L st (xn_uI v 36 0 0 j y)) : xn_X E G Q cs sl pc L (.int y :: .int (nI j) :: .ref (xj_ad G (36, 0, 0)) :: st) v := by
  refine xj_iast C a rfl xj_ok36 (vp_in_nI hj (by decide)) ?_
  rw [nI_clamp (by omega)]
  exact kk
theorem xn_ld_37 (C : xj_C E G cc own nL d q c0 s0 ret) {j : Nat} (a : xj_At cc pc .iaload 1 nx) (hj : j < 800) (kk : xn_X E G Q cs sl nx L (.int (v.1 37 0 0 j) :: st) v) : xn_X E G Q cs sl pc L (.int (nI j) :: .ref (xj_ad G (37, 0, 0)) :: st) v := by
  refine xj_iald C a rfl xj_ok37 (vp_in_nI hj (by decide)) ?_
  rw [nI_clamp (by omega)]
  exact kk
theorem xn_st_37 (C : xj_C E G cc own nL d q c0 s0 ret) {j : Nat} {y : Int32} (a : xj_At cc pc .iastore 1 nx) (hj : j < 800) (kk : xn_X E G Q cs sl nx L st (xn_uI v 37 0 0 j y)) : xn_X E G Q cs sl pc L (.int y :: .int (nI j) :: .ref (xj_ad G (37, 0, 0)) :: st) v := by
  refine xj_iast C a rfl xj_ok37 (vp_in_nI hj (by decide)) ?_
  rw [nI_clamp (by omega)]
  exact kk
theorem xn_ld_38 (C : xj_C E G cc own nL d q c0 s0 ret) {j : Nat} (a : xj_At cc pc .iaload 1 nx) (hj : j < 800) (kk : xn_X E G Q cs sl nx L (.int (v.1 38 0 0 j) :: st) v) : xn_X E G Q cs sl pc L (.int (nI j) :: .ref (xj_ad G (38, 0, 0)) :: st) v := by
  refine xj_iald C a rfl xj_ok38 (vp_in_nI hj (by decide)) ?_
  rw [nI_clamp (by omega)]
  exact kk
theorem xn_st_38 (C : xj_C E G cc own nL d q c0 s0 ret) {j : Nat} {y : Int32} (a : xj_At cc pc .iastore 1 nx) (hj : j < 800) (kk : xn_X E G Q cs sl nx L st (xn_uI v 38 0 0 j y)) : xn_X E G Q cs sl pc L (.int y :: .int (nI j) :: .ref (xj_ad G (38, 0, 0)) :: st) v := by
  refine xj_iast C a rfl xj_ok38 (vp_in_nI hj (by decide)) ?_
  rw [nI_clamp (by omega)]
  exact kk
theorem xn_ld_39 (C : xj_C E G cc own nL d q c0 s0 ret) {j : Nat} (a : xj_At cc pc .iaload 1 nx) (hj : j < 800) (kk : xn_X E G Q cs sl nx L (.int (v.1 39 0 0 j) :: st) v) : xn_X E G Q cs sl pc L (.int (nI j) :: .ref (xj_ad G (39, 0, 0)) :: st) v := by
  refine xj_iald C a rfl xj_ok39 (vp_in_nI hj (by decide)) ?_
  rw [nI_clamp (by omega)]
  exact kk
theorem xn_st_39 (C : xj_C E G cc own nL d q c0 s0 ret) {j : Nat} {y : Int32} (a : xj_At cc pc .iastore 1 nx) (hj : j < 800) (kk : xn_X E G Q cs sl nx L st (xn_uI v 39 0 0 j y)) : xn_X E G Q cs sl pc L (.int y :: .int (nI j) :: .ref (xj_ad G (39, 0, 0)) :: st) v := by
  refine xj_iast C a rfl xj_ok39 (vp_in_nI hj (by decide)) ?_
  rw [nI_clamp (by omega)]
  exact kk
theorem xn_ld_40 (C : xj_C E G cc own nL d q c0 s0 ret) {j : Nat} (a : xj_At cc pc .iaload 1 nx) (hj : j < 800) (kk : xn_X E G Q cs sl nx L (.int (v.1 40 0 0 j) :: st) v) : xn_X E G Q cs sl pc L (.int (nI j) :: .ref (xj_ad G (40, 0, 0)) :: st) v := by
  refine xj_iald C a rfl xj_ok40 (vp_in_nI hj (by decide)) ?_
  rw [nI_clamp (by omega)]
  exact kk
theorem xn_st_40 (C : xj_C E G cc own nL d q c0 s0 ret) {j : Nat} {y : Int32} (a : xj_At cc pc .iastore 1 nx) (hj : j < 800) (kk : xn_X E G Q cs sl nx L st (xn_uI v 40 0 0 j y)) : xn_X E G Q cs sl pc L (.int y :: .int (nI j) :: .ref (xj_ad G (40, 0, 0)) :: st) v := by
  refine xj_iast C a rfl xj_ok40 (vp_in_nI hj (by decide)) ?_
  rw [nI_clamp (by omega)]
  exact kk
theorem xn_ld_41 (C : xj_C E G cc own nL d q c0 s0 ret) {j : Nat} (a : xj_At cc pc .iaload 1 nx) (hj : j < 2) (kk : xn_X E G Q cs sl nx L (.int (v.1 41 0 0 j) :: st) v) : xn_X E G Q cs sl pc L (.int (nI j) :: .ref (xj_ad G (41, 0, 0)) :: st) v := by
  refine xj_iald C a rfl xj_ok41 (vp_in_nI hj (by decide)) ?_
  rw [nI_clamp (by omega)]
  exact kk
theorem xn_st_41 (C : xj_C E G cc own nL d q c0 s0 ret) {j : Nat} {y : Int32} (a : xj_At cc pc .iastore 1 nx) (hj : j < 2) (kk : xn_X E G Q cs sl nx L st (xn_uI v 41 0 0 j y)) : xn_X E G Q cs sl pc L (.int y :: .int (nI j) :: .ref (xj_ad G (41, 0, 0)) :: st) v := by
  refine xj_iast C a rfl xj_ok41 (vp_in_nI hj (by decide)) ?_
  rw [nI_clamp (by omega)]
  exact kk
theorem xn_ld_42 (C : xj_C E G cc own nL d q c0 s0 ret) {j : Nat} (a : xj_At cc pc .iaload 1 nx) (hj : j < 2) (kk : xn_X E G Q cs sl nx L (.int (v.1 42 0 0 j) :: st) v) : xn_X E G Q cs sl pc L (.int (nI j) :: .ref (xj_ad G (42, 0, 0)) :: st) v := by
  refine xj_iald C a rfl xj_ok42 (vp_in_nI hj (by decide)) ?_
  rw [nI_clamp (by omega)]
  exact kk
theorem xn_st_42 (C : xj_C E G cc own nL d q c0 s0 ret) {j : Nat} {y : Int32} (a : xj_At cc pc .iastore 1 nx) (hj : j < 2) (kk : xn_X E G Q cs sl nx L st (xn_uI v 42 0 0 j y)) : xn_X E G Q cs sl pc L (.int y :: .int (nI j) :: .ref (xj_ad G (42, 0, 0)) :: st) v := by
  refine xj_iast C a rfl xj_ok42 (vp_in_nI hj (by decide)) ?_
  rw [nI_clamp (by omega)]
  exact kk
theorem xn_ld_43 (C : xj_C E G cc own nL d q c0 s0 ret) {j : Nat} (a : xj_At cc pc .iaload 1 nx) (hj : j < 2) (kk : xn_X E G Q cs sl nx L (.int (v.1 43 0 0 j) :: st) v) : xn_X E G Q cs sl pc L (.int (nI j) :: .ref (xj_ad G (43, 0, 0)) :: st) v := by
  refine xj_iald C a rfl xj_ok43 (vp_in_nI hj (by decide)) ?_
  rw [nI_clamp (by omega)]
  exact kk
theorem xn_st_43 (C : xj_C E G cc own nL d q c0 s0 ret) {j : Nat} {y : Int32} (a : xj_At cc pc .iastore 1 nx) (hj : j < 2) (kk : xn_X E G Q cs sl nx L st (xn_uI v 43 0 0 j y)) : xn_X E G Q cs sl pc L (.int y :: .int (nI j) :: .ref (xj_ad G (43, 0, 0)) :: st) v := by
  refine xj_iast C a rfl xj_ok43 (vp_in_nI hj (by decide)) ?_
  rw [nI_clamp (by omega)]
  exact kk
theorem xn_ld_44 (C : xj_C E G cc own nL d q c0 s0 ret) {j : Nat} (a : xj_At cc pc .baload 1 nx) (hj : j < 400) (kk : xn_X E G Q cs sl nx L (.int (v.1 44 0 0 j) :: st) v) : xn_X E G Q cs sl pc L (.int (nI j) :: .ref (xj_ad G (44, 0, 0)) :: st) v := by
  refine xj_zald C a rfl xj_ok44 (vp_in_nI hj (by decide)) ?_
  rw [nI_clamp (by omega)]
  exact kk
theorem xn_st_44 (C : xj_C E G cc own nL d q c0 s0 ret) {j : Nat} {y : Int32} (a : xj_At cc pc .bastore 1 nx) (hj : j < 400) (hb : y = 0 ∨ y = 1) (kk : xn_X E G Q cs sl nx L st (xn_uI v 44 0 0 j y)) : xn_X E G Q cs sl pc L (.int y :: .int (nI j) :: .ref (xj_ad G (44, 0, 0)) :: st) v := by
  refine xj_zast C a rfl xj_ok44 (vp_in_nI hj (by decide)) (xn_bool hb) ?_
  rw [nI_clamp (by omega)]
  exact kk
theorem xn_ld_45 (C : xj_C E G cc own nL d q c0 s0 ret) {j : Nat} (a : xj_At cc pc .iaload 1 nx) (hj : j < 6) (kk : xn_X E G Q cs sl nx L (.int (v.1 45 0 0 j) :: st) v) : xn_X E G Q cs sl pc L (.int (nI j) :: .ref (xj_ad G (45, 0, 0)) :: st) v := by
  refine xj_iald C a rfl xj_ok45 (vp_in_nI hj (by decide)) ?_
  rw [nI_clamp (by omega)]
  exact kk
theorem xn_st_45 (C : xj_C E G cc own nL d q c0 s0 ret) {j : Nat} {y : Int32} (a : xj_At cc pc .iastore 1 nx) (hj : j < 6) (kk : xn_X E G Q cs sl nx L st (xn_uI v 45 0 0 j y)) : xn_X E G Q cs sl pc L (.int y :: .int (nI j) :: .ref (xj_ad G (45, 0, 0)) :: st) v := by
  refine xj_iast C a rfl xj_ok45 (vp_in_nI hj (by decide)) ?_
  rw [nI_clamp (by omega)]
  exact kk
end XNF
end
