section
-- ===== PART A: goes FIRST, ahead of the names: the tables' words, and 'selects' of the private methods out of them =====
/-- a private method of a class that the tables say can be made, by its rows of tables_1 -/
def lw_okq (q : MethodName × Nat) : Prop := (q.1.cls ≠ "java/lang/invoke/MethodHandle" ∧ q.1.cls ≠ "java/lang/invoke/VarHandle") ∧ Cond.instantiable q.1.cls q.2 ∈ tables_1 ∧ Cond.privateMethod q.1 ∈ tables_1 ∧ Cond.instanceMethod q.1 ∈ tables_1
theorem lw_p0 : lw_okq (⟨"ThreePhaseGroup", "give", "(II)Z"⟩, 5) := ⟨⟨by decide +kernel, by decide +kernel⟩, List.mem_of_getElem? (i := 13) (by decide +kernel), List.mem_of_getElem? (i := 263) (by decide +kernel), List.mem_of_getElem? (i := 264) (by decide +kernel)⟩
theorem lw_p1 : lw_okq (⟨"ThreePhaseGroup$Client", "countReplies", "(I)I"⟩, 6) := ⟨⟨by decide +kernel, by decide +kernel⟩, List.mem_of_getElem? (i := 183) (by decide +kernel), List.mem_of_getElem? (i := 271) (by decide +kernel), List.mem_of_getElem? (i := 272) (by decide +kernel)⟩
theorem lw_p2 : lw_okq (⟨"ThreePhaseGroup$Replica", "takesRequest", "(I)Z"⟩, 14) := ⟨⟨by decide +kernel, by decide +kernel⟩, List.mem_of_getElem? (i := 76) (by decide +kernel), List.mem_of_getElem? (i := 279) (by decide +kernel), List.mem_of_getElem? (i := 280) (by decide +kernel)⟩
theorem lw_p3 : lw_okq (⟨"ThreePhaseGroup$Replica", "wouldWait", "(I)Z"⟩, 14) := ⟨⟨by decide +kernel, by decide +kernel⟩, List.mem_of_getElem? (i := 76) (by decide +kernel), List.mem_of_getElem? (i := 287) (by decide +kernel), List.mem_of_getElem? (i := 288) (by decide +kernel)⟩
theorem lw_p4 : lw_okq (⟨"ThreePhaseGroup$Replica", "learn", "(I)V"⟩, 14) := ⟨⟨by decide +kernel, by decide +kernel⟩, List.mem_of_getElem? (i := 76) (by decide +kernel), List.mem_of_getElem? (i := 294) (by decide +kernel), List.mem_of_getElem? (i := 295) (by decide +kernel)⟩
theorem lw_p5 : lw_okq (⟨"ThreePhaseGroup$Replica", "takesPrePrepare", "(I)Z"⟩, 14) := ⟨⟨by decide +kernel, by decide +kernel⟩, List.mem_of_getElem? (i := 76) (by decide +kernel), List.mem_of_getElem? (i := 303) (by decide +kernel), List.mem_of_getElem? (i := 304) (by decide +kernel)⟩
theorem lw_p6 : lw_okq (⟨"ThreePhaseGroup$Replica", "isOfThisView", "(I)Z"⟩, 14) := ⟨⟨by decide +kernel, by decide +kernel⟩, List.mem_of_getElem? (i := 76) (by decide +kernel), List.mem_of_getElem? (i := 307) (by decide +kernel), List.mem_of_getElem? (i := 308) (by decide +kernel)⟩
theorem lw_p7 : lw_okq (⟨"ThreePhaseGroup$Replica", "takesPhase", "(I)Z"⟩, 14) := ⟨⟨by decide +kernel, by decide +kernel⟩, List.mem_of_getElem? (i := 76) (by decide +kernel), List.mem_of_getElem? (i := 326) (by decide +kernel), List.mem_of_getElem? (i := 327) (by decide +kernel)⟩
theorem lw_p8 : lw_okq (⟨"ThreePhaseGroup$Replica", "takesCheckpoint", "(I)Z"⟩, 14) := ⟨⟨by decide +kernel, by decide +kernel⟩, List.mem_of_getElem? (i := 76) (by decide +kernel), List.mem_of_getElem? (i := 331) (by decide +kernel), List.mem_of_getElem? (i := 332) (by decide +kernel)⟩
theorem lw_p9 : lw_okq (⟨"ThreePhaseGroup$Replica", "takesViewChange", "(I)Z"⟩, 14) := ⟨⟨by decide +kernel, by decide +kernel⟩, List.mem_of_getElem? (i := 76) (by decide +kernel), List.mem_of_getElem? (i := 335) (by decide +kernel), List.mem_of_getElem? (i := 336) (by decide +kernel)⟩
theorem lw_p10 : lw_okq (⟨"ThreePhaseGroup$Replica", "isAhead", "(I)Z"⟩, 14) := ⟨⟨by decide +kernel, by decide +kernel⟩, List.mem_of_getElem? (i := 76) (by decide +kernel), List.mem_of_getElem? (i := 339) (by decide +kernel), List.mem_of_getElem? (i := 340) (by decide +kernel)⟩
theorem lw_p11 : lw_okq (⟨"ThreePhaseGroup$Replica", "takesNewView", "(I)Z"⟩, 14) := ⟨⟨by decide +kernel, by decide +kernel⟩, List.mem_of_getElem? (i := 76) (by decide +kernel), List.mem_of_getElem? (i := 343) (by decide +kernel), List.mem_of_getElem? (i := 344) (by decide +kernel)⟩
theorem lw_p12 : lw_okq (⟨"ThreePhaseGroup$Replica", "enter", "(I)V"⟩, 14) := ⟨⟨by decide +kernel, by decide +kernel⟩, List.mem_of_getElem? (i := 76) (by decide +kernel), List.mem_of_getElem? (i := 347) (by decide +kernel), List.mem_of_getElem? (i := 348) (by decide +kernel)⟩
theorem lw_p13 : lw_okq (⟨"ThreePhaseGroup$Replica", "moveTo", "(I)V"⟩, 14) := ⟨⟨by decide +kernel, by decide +kernel⟩, List.mem_of_getElem? (i := 76) (by decide +kernel), List.mem_of_getElem? (i := 351) (by decide +kernel), List.mem_of_getElem? (i := 352) (by decide +kernel)⟩
theorem lw_p14 : lw_okq (⟨"ThreePhaseGroup$Board", "countCheckpoints", "(II)I"⟩, 8) := ⟨⟨by decide +kernel, by decide +kernel⟩, List.mem_of_getElem? (i := 21) (by decide +kernel), List.mem_of_getElem? (i := 370) (by decide +kernel), List.mem_of_getElem? (i := 371) (by decide +kernel)⟩
theorem lw_p15 : lw_okq (⟨"ThreePhaseGroup$Replica", "settle", "(IJ)V"⟩, 14) := ⟨⟨by decide +kernel, by decide +kernel⟩, List.mem_of_getElem? (i := 76) (by decide +kernel), List.mem_of_getElem? (i := 380) (by decide +kernel), List.mem_of_getElem? (i := 381) (by decide +kernel)⟩
def lw_privs_1 : List (MethodName × Nat) := [(⟨"ThreePhaseGroup", "give", "(II)Z"⟩, 5), (⟨"ThreePhaseGroup$Client", "countReplies", "(I)I"⟩, 6), (⟨"ThreePhaseGroup$Replica", "takesRequest", "(I)Z"⟩, 14), (⟨"ThreePhaseGroup$Replica", "wouldWait", "(I)Z"⟩, 14), (⟨"ThreePhaseGroup$Replica", "learn", "(I)V"⟩, 14), (⟨"ThreePhaseGroup$Replica", "takesPrePrepare", "(I)Z"⟩, 14), (⟨"ThreePhaseGroup$Replica", "isOfThisView", "(I)Z"⟩, 14), (⟨"ThreePhaseGroup$Replica", "takesPhase", "(I)Z"⟩, 14), (⟨"ThreePhaseGroup$Replica", "takesCheckpoint", "(I)Z"⟩, 14), (⟨"ThreePhaseGroup$Replica", "takesViewChange", "(I)Z"⟩, 14), (⟨"ThreePhaseGroup$Replica", "isAhead", "(I)Z"⟩, 14), (⟨"ThreePhaseGroup$Replica", "takesNewView", "(I)Z"⟩, 14), (⟨"ThreePhaseGroup$Replica", "enter", "(I)V"⟩, 14), (⟨"ThreePhaseGroup$Replica", "moveTo", "(I)V"⟩, 14), (⟨"ThreePhaseGroup$Board", "countCheckpoints", "(II)I"⟩, 8), (⟨"ThreePhaseGroup$Replica", "settle", "(IJ)V"⟩, 14)]
theorem lw_r1 : ∀ q ∈ lw_privs_1, lw_okq q := List.forall_mem_cons.mpr ⟨lw_p0, List.forall_mem_cons.mpr ⟨lw_p1, List.forall_mem_cons.mpr ⟨lw_p2, List.forall_mem_cons.mpr ⟨lw_p3, List.forall_mem_cons.mpr ⟨lw_p4, List.forall_mem_cons.mpr ⟨lw_p5, List.forall_mem_cons.mpr ⟨lw_p6, List.forall_mem_cons.mpr ⟨lw_p7, List.forall_mem_cons.mpr ⟨lw_p8, List.forall_mem_cons.mpr ⟨lw_p9, List.forall_mem_cons.mpr ⟨lw_p10, List.forall_mem_cons.mpr ⟨lw_p11, List.forall_mem_cons.mpr ⟨lw_p12, List.forall_mem_cons.mpr ⟨lw_p13, List.forall_mem_cons.mpr ⟨lw_p14, List.forall_mem_cons.mpr ⟨lw_p15, fun _ h => absurd h List.not_mem_nil⟩⟩⟩⟩⟩⟩⟩⟩⟩⟩⟩⟩⟩⟩⟩⟩
theorem lw_p16 : lw_okq (⟨"ThreePhaseGroup$Replica", "prepareNext", "()Z"⟩, 14) := ⟨⟨by decide +kernel, by decide +kernel⟩, List.mem_of_getElem? (i := 76) (by decide +kernel), List.mem_of_getElem? (i := 393) (by decide +kernel), List.mem_of_getElem? (i := 394) (by decide +kernel)⟩
theorem lw_p17 : lw_okq (⟨"ThreePhaseGroup$Replica", "isPrimary", "()Z"⟩, 14) := ⟨⟨by decide +kernel, by decide +kernel⟩, List.mem_of_getElem? (i := 76) (by decide +kernel), List.mem_of_getElem? (i := 397) (by decide +kernel), List.mem_of_getElem? (i := 398) (by decide +kernel)⟩
theorem lw_p18 : lw_okq (⟨"ThreePhaseGroup$Replica", "commitNext", "()Z"⟩, 14) := ⟨⟨by decide +kernel, by decide +kernel⟩, List.mem_of_getElem? (i := 76) (by decide +kernel), List.mem_of_getElem? (i := 402) (by decide +kernel), List.mem_of_getElem? (i := 403) (by decide +kernel)⟩
theorem lw_p19 : lw_okq (⟨"ThreePhaseGroup$Slot", "countAccepted", "([J)I"⟩, 5) := ⟨⟨by decide +kernel, by decide +kernel⟩, List.mem_of_getElem? (i := 98) (by decide +kernel), List.mem_of_getElem? (i := 410) (by decide +kernel), List.mem_of_getElem? (i := 411) (by decide +kernel)⟩
theorem lw_p20 : lw_okq (⟨"ThreePhaseGroup$Replica", "decideNext", "()Z"⟩, 14) := ⟨⟨by decide +kernel, by decide +kernel⟩, List.mem_of_getElem? (i := 76) (by decide +kernel), List.mem_of_getElem? (i := 414) (by decide +kernel), List.mem_of_getElem? (i := 415) (by decide +kernel)⟩
theorem lw_p21 : lw_okq (⟨"ThreePhaseGroup$Replica", "executeNext", "()Z"⟩, 14) := ⟨⟨by decide +kernel, by decide +kernel⟩, List.mem_of_getElem? (i := 76) (by decide +kernel), List.mem_of_getElem? (i := 422) (by decide +kernel), List.mem_of_getElem? (i := 423) (by decide +kernel)⟩
theorem lw_p22 : lw_okq (⟨"ThreePhaseGroup$Replica", "execute", "(I)V"⟩, 14) := ⟨⟨by decide +kernel, by decide +kernel⟩, List.mem_of_getElem? (i := 76) (by decide +kernel), List.mem_of_getElem? (i := 426) (by decide +kernel), List.mem_of_getElem? (i := 427) (by decide +kernel)⟩
theorem lw_p23 : lw_okq (⟨"ThreePhaseGroup$Replica", "settleNext", "()Z"⟩, 14) := ⟨⟨by decide +kernel, by decide +kernel⟩, List.mem_of_getElem? (i := 76) (by decide +kernel), List.mem_of_getElem? (i := 448) (by decide +kernel), List.mem_of_getElem? (i := 449) (by decide +kernel)⟩
theorem lw_p24 : lw_okq (⟨"ThreePhaseGroup$Replica", "countNotedLike", "(I)I"⟩, 14) := ⟨⟨by decide +kernel, by decide +kernel⟩, List.mem_of_getElem? (i := 76) (by decide +kernel), List.mem_of_getElem? (i := 452) (by decide +kernel), List.mem_of_getElem? (i := 453) (by decide +kernel)⟩
theorem lw_p25 : lw_okq (⟨"ThreePhaseGroup$Replica", "joinChange", "()Z"⟩, 14) := ⟨⟨by decide +kernel, by decide +kernel⟩, List.mem_of_getElem? (i := 76) (by decide +kernel), List.mem_of_getElem? (i := 457) (by decide +kernel), List.mem_of_getElem? (i := 458) (by decide +kernel)⟩
theorem lw_p26 : lw_okq (⟨"ThreePhaseGroup$Replica", "begin", "(I)V"⟩, 14) := ⟨⟨by decide +kernel, by decide +kernel⟩, List.mem_of_getElem? (i := 76) (by decide +kernel), List.mem_of_getElem? (i := 464) (by decide +kernel), List.mem_of_getElem? (i := 465) (by decide +kernel)⟩
theorem lw_p27 : lw_okq (⟨"ThreePhaseGroup$Replica", "openView", "()Z"⟩, 14) := ⟨⟨by decide +kernel, by decide +kernel⟩, List.mem_of_getElem? (i := 76) (by decide +kernel), List.mem_of_getElem? (i := 468) (by decide +kernel), List.mem_of_getElem? (i := 469) (by decide +kernel)⟩
theorem lw_p28 : lw_okq (⟨"ThreePhaseGroup$Replica", "votesForView", "(I)Z"⟩, 14) := ⟨⟨by decide +kernel, by decide +kernel⟩, List.mem_of_getElem? (i := 76) (by decide +kernel), List.mem_of_getElem? (i := 472) (by decide +kernel), List.mem_of_getElem? (i := 473) (by decide +kernel)⟩
theorem lw_p29 : lw_okq (⟨"ThreePhaseGroup$Board", "greatestClaimant", "(II)I"⟩, 8) := ⟨⟨by decide +kernel, by decide +kernel⟩, List.mem_of_getElem? (i := 21) (by decide +kernel), List.mem_of_getElem? (i := 481) (by decide +kernel), List.mem_of_getElem? (i := 482) (by decide +kernel)⟩
theorem lw_p30 : lw_okq (⟨"ThreePhaseGroup$Board", "claimFor", "(II)I"⟩, 8) := ⟨⟨by decide +kernel, by decide +kernel⟩, List.mem_of_getElem? (i := 21) (by decide +kernel), List.mem_of_getElem? (i := 485) (by decide +kernel), List.mem_of_getElem? (i := 486) (by decide +kernel)⟩
theorem lw_p31 : lw_okq (⟨"ThreePhaseGroup$Board", "backing", "(III)I"⟩, 8) := ⟨⟨by decide +kernel, by decide +kernel⟩, List.mem_of_getElem? (i := 21) (by decide +kernel), List.mem_of_getElem? (i := 489) (by decide +kernel), List.mem_of_getElem? (i := 490) (by decide +kernel)⟩
def lw_privs_2 : List (MethodName × Nat) := [(⟨"ThreePhaseGroup$Replica", "prepareNext", "()Z"⟩, 14), (⟨"ThreePhaseGroup$Replica", "isPrimary", "()Z"⟩, 14), (⟨"ThreePhaseGroup$Replica", "commitNext", "()Z"⟩, 14), (⟨"ThreePhaseGroup$Slot", "countAccepted", "([J)I"⟩, 5), (⟨"ThreePhaseGroup$Replica", "decideNext", "()Z"⟩, 14), (⟨"ThreePhaseGroup$Replica", "executeNext", "()Z"⟩, 14), (⟨"ThreePhaseGroup$Replica", "execute", "(I)V"⟩, 14), (⟨"ThreePhaseGroup$Replica", "settleNext", "()Z"⟩, 14), (⟨"ThreePhaseGroup$Replica", "countNotedLike", "(I)I"⟩, 14), (⟨"ThreePhaseGroup$Replica", "joinChange", "()Z"⟩, 14), (⟨"ThreePhaseGroup$Replica", "begin", "(I)V"⟩, 14), (⟨"ThreePhaseGroup$Replica", "openView", "()Z"⟩, 14), (⟨"ThreePhaseGroup$Replica", "votesForView", "(I)Z"⟩, 14), (⟨"ThreePhaseGroup$Board", "greatestClaimant", "(II)I"⟩, 8), (⟨"ThreePhaseGroup$Board", "claimFor", "(II)I"⟩, 8), (⟨"ThreePhaseGroup$Board", "backing", "(III)I"⟩, 8)]
theorem lw_r2 : ∀ q ∈ lw_privs_2, lw_okq q := List.forall_mem_cons.mpr ⟨lw_p16, List.forall_mem_cons.mpr ⟨lw_p17, List.forall_mem_cons.mpr ⟨lw_p18, List.forall_mem_cons.mpr ⟨lw_p19, List.forall_mem_cons.mpr ⟨lw_p20, List.forall_mem_cons.mpr ⟨lw_p21, List.forall_mem_cons.mpr ⟨lw_p22, List.forall_mem_cons.mpr ⟨lw_p23, List.forall_mem_cons.mpr ⟨lw_p24, List.forall_mem_cons.mpr ⟨lw_p25, List.forall_mem_cons.mpr ⟨lw_p26, List.forall_mem_cons.mpr ⟨lw_p27, List.forall_mem_cons.mpr ⟨lw_p28, List.forall_mem_cons.mpr ⟨lw_p29, List.forall_mem_cons.mpr ⟨lw_p30, List.forall_mem_cons.mpr ⟨lw_p31, fun _ h => absurd h List.not_mem_nil⟩⟩⟩⟩⟩⟩⟩⟩⟩⟩⟩⟩⟩⟩⟩⟩
theorem lw_p32 : lw_okq (⟨"ThreePhaseGroup$Board", "isPrepare", "(III)Z"⟩, 8) := ⟨⟨by decide +kernel, by decide +kernel⟩, List.mem_of_getElem? (i := 21) (by decide +kernel), List.mem_of_getElem? (i := 494) (by decide +kernel), List.mem_of_getElem? (i := 495) (by decide +kernel)⟩
theorem lw_p33 : lw_okq (⟨"ThreePhaseGroup$Replica", "orderNext", "()Z"⟩, 14) := ⟨⟨by decide +kernel, by decide +kernel⟩, List.mem_of_getElem? (i := 76) (by decide +kernel), List.mem_of_getElem? (i := 498) (by decide +kernel), List.mem_of_getElem? (i := 499) (by decide +kernel)⟩
theorem lw_p34 : lw_okq (⟨"ThreePhaseGroup$Replica", "leastUnordered", "()I"⟩, 14) := ⟨⟨by decide +kernel, by decide +kernel⟩, List.mem_of_getElem? (i := 76) (by decide +kernel), List.mem_of_getElem? (i := 502) (by decide +kernel), List.mem_of_getElem? (i := 503) (by decide +kernel)⟩
theorem lw_p35 : lw_okq (⟨"ThreePhaseGroup$Replica", "isAccepted", "(I)Z"⟩, 14) := ⟨⟨by decide +kernel, by decide +kernel⟩, List.mem_of_getElem? (i := 76) (by decide +kernel), List.mem_of_getElem? (i := 506) (by decide +kernel), List.mem_of_getElem? (i := 507) (by decide +kernel)⟩
theorem lw_p36 : lw_okq (⟨"ThreePhaseGroup$Replica", "setTimer", "()V"⟩, 14) := ⟨⟨by decide +kernel, by decide +kernel⟩, List.mem_of_getElem? (i := 76) (by decide +kernel), List.mem_of_getElem? (i := 510) (by decide +kernel), List.mem_of_getElem? (i := 511) (by decide +kernel)⟩
theorem lw_p37 : lw_okq (⟨"ThreePhaseGroup$Board", "isValidViewChange", "(I)Z"⟩, 8) := ⟨⟨by decide +kernel, by decide +kernel⟩, List.mem_of_getElem? (i := 21) (by decide +kernel), List.mem_of_getElem? (i := 522) (by decide +kernel), List.mem_of_getElem? (i := 523) (by decide +kernel)⟩
theorem lw_p38 : lw_okq (⟨"ThreePhaseGroup$Board", "isValidNewView", "(I)Z"⟩, 8) := ⟨⟨by decide +kernel, by decide +kernel⟩, List.mem_of_getElem? (i := 21) (by decide +kernel), List.mem_of_getElem? (i := 530) (by decide +kernel), List.mem_of_getElem? (i := 531) (by decide +kernel)⟩
theorem lw_p39 : lw_okq (⟨"ThreePhaseGroup", "postForged", "(IIJI)I"⟩, 5) := ⟨⟨by decide +kernel, by decide +kernel⟩, List.mem_of_getElem? (i := 13) (by decide +kernel), List.mem_of_getElem? (i := 558) (by decide +kernel), List.mem_of_getElem? (i := 559) (by decide +kernel)⟩
theorem lw_p40 : lw_okq (⟨"ThreePhaseGroupModel", "waits", "(II)Z"⟩, 27) := ⟨⟨by decide +kernel, by decide +kernel⟩, List.mem_of_getElem? (i := 628) (by decide +kernel), List.mem_of_getElem? (i := 723) (by decide +kernel), List.mem_of_getElem? (i := 724) (by decide +kernel)⟩
theorem lw_p41 : lw_okq (⟨"ThreePhaseGroupModel", "send", "(IIIJI)I"⟩, 27) := ⟨⟨by decide +kernel, by decide +kernel⟩, List.mem_of_getElem? (i := 628) (by decide +kernel), List.mem_of_getElem? (i := 732) (by decide +kernel), List.mem_of_getElem? (i := 733) (by decide +kernel)⟩
theorem lw_p42 : lw_okq (⟨"ThreePhaseGroupModel", "give", "(II)Z"⟩, 27) := ⟨⟨by decide +kernel, by decide +kernel⟩, List.mem_of_getElem? (i := 628) (by decide +kernel), List.mem_of_getElem? (i := 740) (by decide +kernel), List.mem_of_getElem? (i := 741) (by decide +kernel)⟩
theorem lw_p43 : lw_okq (⟨"ThreePhaseGroupModel", "answered", "(II)Z"⟩, 27) := ⟨⟨by decide +kernel, by decide +kernel⟩, List.mem_of_getElem? (i := 628) (by decide +kernel), List.mem_of_getElem? (i := 744) (by decide +kernel), List.mem_of_getElem? (i := 745) (by decide +kernel)⟩
theorem lw_p44 : lw_okq (⟨"ThreePhaseGroupModel", "takes", "(II)Z"⟩, 27) := ⟨⟨by decide +kernel, by decide +kernel⟩, List.mem_of_getElem? (i := 628) (by decide +kernel), List.mem_of_getElem? (i := 748) (by decide +kernel), List.mem_of_getElem? (i := 749) (by decide +kernel)⟩
theorem lw_p45 : lw_okq (⟨"ThreePhaseGroupModel", "window", "(IJ)Z"⟩, 27) := ⟨⟨by decide +kernel, by decide +kernel⟩, List.mem_of_getElem? (i := 628) (by decide +kernel), List.mem_of_getElem? (i := 752) (by decide +kernel), List.mem_of_getElem? (i := 753) (by decide +kernel)⟩
theorem lw_p46 : lw_okq (⟨"ThreePhaseGroupModel", "takesRequest", "(II)Z"⟩, 27) := ⟨⟨by decide +kernel, by decide +kernel⟩, List.mem_of_getElem? (i := 628) (by decide +kernel), List.mem_of_getElem? (i := 756) (by decide +kernel), List.mem_of_getElem? (i := 757) (by decide +kernel)⟩
theorem lw_p47 : lw_okq (⟨"ThreePhaseGroupModel", "takesOrder", "(II)Z"⟩, 27) := ⟨⟨by decide +kernel, by decide +kernel⟩, List.mem_of_getElem? (i := 628) (by decide +kernel), List.mem_of_getElem? (i := 760) (by decide +kernel), List.mem_of_getElem? (i := 761) (by decide +kernel)⟩
def lw_privs_3 : List (MethodName × Nat) := [(⟨"ThreePhaseGroup$Board", "isPrepare", "(III)Z"⟩, 8), (⟨"ThreePhaseGroup$Replica", "orderNext", "()Z"⟩, 14), (⟨"ThreePhaseGroup$Replica", "leastUnordered", "()I"⟩, 14), (⟨"ThreePhaseGroup$Replica", "isAccepted", "(I)Z"⟩, 14), (⟨"ThreePhaseGroup$Replica", "setTimer", "()V"⟩, 14), (⟨"ThreePhaseGroup$Board", "isValidViewChange", "(I)Z"⟩, 8), (⟨"ThreePhaseGroup$Board", "isValidNewView", "(I)Z"⟩, 8), (⟨"ThreePhaseGroup", "postForged", "(IIJI)I"⟩, 5), (⟨"ThreePhaseGroupModel", "waits", "(II)Z"⟩, 27), (⟨"ThreePhaseGroupModel", "send", "(IIIJI)I"⟩, 27), (⟨"ThreePhaseGroupModel", "give", "(II)Z"⟩, 27), (⟨"ThreePhaseGroupModel", "answered", "(II)Z"⟩, 27), (⟨"ThreePhaseGroupModel", "takes", "(II)Z"⟩, 27), (⟨"ThreePhaseGroupModel", "window", "(IJ)Z"⟩, 27), (⟨"ThreePhaseGroupModel", "takesRequest", "(II)Z"⟩, 27), (⟨"ThreePhaseGroupModel", "takesOrder", "(II)Z"⟩, 27)]
theorem lw_r3 : ∀ q ∈ lw_privs_3, lw_okq q := List.forall_mem_cons.mpr ⟨lw_p32, List.forall_mem_cons.mpr ⟨lw_p33, List.forall_mem_cons.mpr ⟨lw_p34, List.forall_mem_cons.mpr ⟨lw_p35, List.forall_mem_cons.mpr ⟨lw_p36, List.forall_mem_cons.mpr ⟨lw_p37, List.forall_mem_cons.mpr ⟨lw_p38, List.forall_mem_cons.mpr ⟨lw_p39, List.forall_mem_cons.mpr ⟨lw_p40, List.forall_mem_cons.mpr ⟨lw_p41, List.forall_mem_cons.mpr ⟨lw_p42, List.forall_mem_cons.mpr ⟨lw_p43, List.forall_mem_cons.mpr ⟨lw_p44, List.forall_mem_cons.mpr ⟨lw_p45, List.forall_mem_cons.mpr ⟨lw_p46, List.forall_mem_cons.mpr ⟨lw_p47, fun _ h => absurd h List.not_mem_nil⟩⟩⟩⟩⟩⟩⟩⟩⟩⟩⟩⟩⟩⟩⟩⟩
theorem lw_p48 : lw_okq (⟨"ThreePhaseGroupModel", "notes", "(IIIIJ)Z"⟩, 27) := ⟨⟨by decide +kernel, by decide +kernel⟩, List.mem_of_getElem? (i := 628) (by decide +kernel), List.mem_of_getElem? (i := 764) (by decide +kernel), List.mem_of_getElem? (i := 765) (by decide +kernel)⟩
theorem lw_p49 : lw_okq (⟨"ThreePhaseGroupModel", "goodChange", "(I)Z"⟩, 27) := ⟨⟨by decide +kernel, by decide +kernel⟩, List.mem_of_getElem? (i := 628) (by decide +kernel), List.mem_of_getElem? (i := 768) (by decide +kernel), List.mem_of_getElem? (i := 769) (by decide +kernel)⟩
theorem lw_p50 : lw_okq (⟨"ThreePhaseGroupModel", "proof", "(JI)I"⟩, 27) := ⟨⟨by decide +kernel, by decide +kernel⟩, List.mem_of_getElem? (i := 628) (by decide +kernel), List.mem_of_getElem? (i := 772) (by decide +kernel), List.mem_of_getElem? (i := 773) (by decide +kernel)⟩
theorem lw_p51 : lw_okq (⟨"ThreePhaseGroupModel", "senders", "(IIIJII)I"⟩, 27) := ⟨⟨by decide +kernel, by decide +kernel⟩, List.mem_of_getElem? (i := 628) (by decide +kernel), List.mem_of_getElem? (i := 776) (by decide +kernel), List.mem_of_getElem? (i := 777) (by decide +kernel)⟩
theorem lw_p52 : lw_okq (⟨"ThreePhaseGroupModel", "backing", "(IJI)I"⟩, 27) := ⟨⟨by decide +kernel, by decide +kernel⟩, List.mem_of_getElem? (i := 628) (by decide +kernel), List.mem_of_getElem? (i := 780) (by decide +kernel), List.mem_of_getElem? (i := 781) (by decide +kernel)⟩
theorem lw_p53 : lw_okq (⟨"ThreePhaseGroupModel", "takesChange", "(II)Z"⟩, 27) := ⟨⟨by decide +kernel, by decide +kernel⟩, List.mem_of_getElem? (i := 628) (by decide +kernel), List.mem_of_getElem? (i := 784) (by decide +kernel), List.mem_of_getElem? (i := 785) (by decide +kernel)⟩
theorem lw_p54 : lw_okq (⟨"ThreePhaseGroupModel", "goodNew", "(I)Z"⟩, 27) := ⟨⟨by decide +kernel, by decide +kernel⟩, List.mem_of_getElem? (i := 628) (by decide +kernel), List.mem_of_getElem? (i := 788) (by decide +kernel), List.mem_of_getElem? (i := 789) (by decide +kernel)⟩
theorem lw_p55 : lw_okq (⟨"ThreePhaseGroupModel", "vote", "(II)I"⟩, 27) := ⟨⟨by decide +kernel, by decide +kernel⟩, List.mem_of_getElem? (i := 628) (by decide +kernel), List.mem_of_getElem? (i := 793) (by decide +kernel), List.mem_of_getElem? (i := 794) (by decide +kernel)⟩
theorem lw_p56 : lw_okq (⟨"ThreePhaseGroupModel", "orders", "(I)I"⟩, 27) := ⟨⟨by decide +kernel, by decide +kernel⟩, List.mem_of_getElem? (i := 628) (by decide +kernel), List.mem_of_getElem? (i := 797) (by decide +kernel), List.mem_of_getElem? (i := 798) (by decide +kernel)⟩
theorem lw_p57 : lw_okq (⟨"ThreePhaseGroupModel", "start", "(I)I"⟩, 27) := ⟨⟨by decide +kernel, by decide +kernel⟩, List.mem_of_getElem? (i := 628) (by decide +kernel), List.mem_of_getElem? (i := 801) (by decide +kernel), List.mem_of_getElem? (i := 802) (by decide +kernel)⟩
theorem lw_p58 : lw_okq (⟨"ThreePhaseGroupModel", "claim", "(II)I"⟩, 27) := ⟨⟨by decide +kernel, by decide +kernel⟩, List.mem_of_getElem? (i := 628) (by decide +kernel), List.mem_of_getElem? (i := 805) (by decide +kernel), List.mem_of_getElem? (i := 806) (by decide +kernel)⟩
theorem lw_p59 : lw_okq (⟨"ThreePhaseGroupModel", "enters", "(II)Z"⟩, 27) := ⟨⟨by decide +kernel, by decide +kernel⟩, List.mem_of_getElem? (i := 628) (by decide +kernel), List.mem_of_getElem? (i := 810) (by decide +kernel), List.mem_of_getElem? (i := 811) (by decide +kernel)⟩
theorem lw_p60 : lw_okq (⟨"ThreePhaseGroupModel", "dropAccepted", "(I)V"⟩, 27) := ⟨⟨by decide +kernel, by decide +kernel⟩, List.mem_of_getElem? (i := 628) (by decide +kernel), List.mem_of_getElem? (i := 814) (by decide +kernel), List.mem_of_getElem? (i := 815) (by decide +kernel)⟩
theorem lw_p61 : lw_okq (⟨"ThreePhaseGroupModel", "settles", "(IIJ)V"⟩, 27) := ⟨⟨by decide +kernel, by decide +kernel⟩, List.mem_of_getElem? (i := 628) (by decide +kernel), List.mem_of_getElem? (i := 818) (by decide +kernel), List.mem_of_getElem? (i := 819) (by decide +kernel)⟩
theorem lw_p62 : lw_okq (⟨"ThreePhaseGroupModel", "rules", "(I)V"⟩, 27) := ⟨⟨by decide +kernel, by decide +kernel⟩, List.mem_of_getElem? (i := 628) (by decide +kernel), List.mem_of_getElem? (i := 822) (by decide +kernel), List.mem_of_getElem? (i := 823) (by decide +kernel)⟩
theorem lw_p63 : lw_okq (⟨"ThreePhaseGroupModel", "phases", "(I)Z"⟩, 27) := ⟨⟨by decide +kernel, by decide +kernel⟩, List.mem_of_getElem? (i := 628) (by decide +kernel), List.mem_of_getElem? (i := 826) (by decide +kernel), List.mem_of_getElem? (i := 827) (by decide +kernel)⟩
def lw_privs_4 : List (MethodName × Nat) := [(⟨"ThreePhaseGroupModel", "notes", "(IIIIJ)Z"⟩, 27), (⟨"ThreePhaseGroupModel", "goodChange", "(I)Z"⟩, 27), (⟨"ThreePhaseGroupModel", "proof", "(JI)I"⟩, 27), (⟨"ThreePhaseGroupModel", "senders", "(IIIJII)I"⟩, 27), (⟨"ThreePhaseGroupModel", "backing", "(IJI)I"⟩, 27), (⟨"ThreePhaseGroupModel", "takesChange", "(II)Z"⟩, 27), (⟨"ThreePhaseGroupModel", "goodNew", "(I)Z"⟩, 27), (⟨"ThreePhaseGroupModel", "vote", "(II)I"⟩, 27), (⟨"ThreePhaseGroupModel", "orders", "(I)I"⟩, 27), (⟨"ThreePhaseGroupModel", "start", "(I)I"⟩, 27), (⟨"ThreePhaseGroupModel", "claim", "(II)I"⟩, 27), (⟨"ThreePhaseGroupModel", "enters", "(II)Z"⟩, 27), (⟨"ThreePhaseGroupModel", "dropAccepted", "(I)V"⟩, 27), (⟨"ThreePhaseGroupModel", "settles", "(IIJ)V"⟩, 27), (⟨"ThreePhaseGroupModel", "rules", "(I)V"⟩, 27), (⟨"ThreePhaseGroupModel", "phases", "(I)Z"⟩, 27)]
theorem lw_r4 : ∀ q ∈ lw_privs_4, lw_okq q := List.forall_mem_cons.mpr ⟨lw_p48, List.forall_mem_cons.mpr ⟨lw_p49, List.forall_mem_cons.mpr ⟨lw_p50, List.forall_mem_cons.mpr ⟨lw_p51, List.forall_mem_cons.mpr ⟨lw_p52, List.forall_mem_cons.mpr ⟨lw_p53, List.forall_mem_cons.mpr ⟨lw_p54, List.forall_mem_cons.mpr ⟨lw_p55, List.forall_mem_cons.mpr ⟨lw_p56, List.forall_mem_cons.mpr ⟨lw_p57, List.forall_mem_cons.mpr ⟨lw_p58, List.forall_mem_cons.mpr ⟨lw_p59, List.forall_mem_cons.mpr ⟨lw_p60, List.forall_mem_cons.mpr ⟨lw_p61, List.forall_mem_cons.mpr ⟨lw_p62, List.forall_mem_cons.mpr ⟨lw_p63, fun _ h => absurd h List.not_mem_nil⟩⟩⟩⟩⟩⟩⟩⟩⟩⟩⟩⟩⟩⟩⟩⟩
theorem lw_p64 : lw_okq (⟨"ThreePhaseGroupModel", "phase", "(IIII)Z"⟩, 27) := ⟨⟨by decide +kernel, by decide +kernel⟩, List.mem_of_getElem? (i := 628) (by decide +kernel), List.mem_of_getElem? (i := 830) (by decide +kernel), List.mem_of_getElem? (i := 831) (by decide +kernel)⟩
theorem lw_p65 : lw_okq (⟨"ThreePhaseGroupModel", "sent", "(III)Z"⟩, 27) := ⟨⟨by decide +kernel, by decide +kernel⟩, List.mem_of_getElem? (i := 628) (by decide +kernel), List.mem_of_getElem? (i := 834) (by decide +kernel), List.mem_of_getElem? (i := 835) (by decide +kernel)⟩
theorem lw_p66 : lw_okq (⟨"ThreePhaseGroupModel", "heard", "(IIIJI)I"⟩, 27) := ⟨⟨by decide +kernel, by decide +kernel⟩, List.mem_of_getElem? (i := 628) (by decide +kernel), List.mem_of_getElem? (i := 838) (by decide +kernel), List.mem_of_getElem? (i := 839) (by decide +kernel)⟩
theorem lw_p67 : lw_okq (⟨"ThreePhaseGroupModel", "executes", "(I)Z"⟩, 27) := ⟨⟨by decide +kernel, by decide +kernel⟩, List.mem_of_getElem? (i := 628) (by decide +kernel), List.mem_of_getElem? (i := 842) (by decide +kernel), List.mem_of_getElem? (i := 843) (by decide +kernel)⟩
theorem lw_p68 : lw_okq (⟨"ThreePhaseGroupModel", "serves", "(II)V"⟩, 27) := ⟨⟨by decide +kernel, by decide +kernel⟩, List.mem_of_getElem? (i := 628) (by decide +kernel), List.mem_of_getElem? (i := 846) (by decide +kernel), List.mem_of_getElem? (i := 847) (by decide +kernel)⟩
theorem lw_p69 : lw_okq (⟨"ThreePhaseGroupModel", "truncates", "(I)Z"⟩, 27) := ⟨⟨by decide +kernel, by decide +kernel⟩, List.mem_of_getElem? (i := 628) (by decide +kernel), List.mem_of_getElem? (i := 854) (by decide +kernel), List.mem_of_getElem? (i := 855) (by decide +kernel)⟩
theorem lw_p70 : lw_okq (⟨"ThreePhaseGroupModel", "joins", "(I)Z"⟩, 27) := ⟨⟨by decide +kernel, by decide +kernel⟩, List.mem_of_getElem? (i := 628) (by decide +kernel), List.mem_of_getElem? (i := 858) (by decide +kernel), List.mem_of_getElem? (i := 859) (by decide +kernel)⟩
theorem lw_p71 : lw_okq (⟨"ThreePhaseGroupModel", "begins", "(II)V"⟩, 27) := ⟨⟨by decide +kernel, by decide +kernel⟩, List.mem_of_getElem? (i := 628) (by decide +kernel), List.mem_of_getElem? (i := 862) (by decide +kernel), List.mem_of_getElem? (i := 863) (by decide +kernel)⟩
theorem lw_p72 : lw_okq (⟨"ThreePhaseGroupModel", "opens", "(I)Z"⟩, 27) := ⟨⟨by decide +kernel, by decide +kernel⟩, List.mem_of_getElem? (i := 628) (by decide +kernel), List.mem_of_getElem? (i := 866) (by decide +kernel), List.mem_of_getElem? (i := 867) (by decide +kernel)⟩
theorem lw_p73 : lw_okq (⟨"ThreePhaseGroupModel", "proposes", "(I)Z"⟩, 27) := ⟨⟨by decide +kernel, by decide +kernel⟩, List.mem_of_getElem? (i := 628) (by decide +kernel), List.mem_of_getElem? (i := 870) (by decide +kernel), List.mem_of_getElem? (i := 871) (by decide +kernel)⟩
theorem lw_p74 : lw_okq (⟨"ThreePhaseGroupModel", "forgeOne", "(IIJI)I"⟩, 27) := ⟨⟨by decide +kernel, by decide +kernel⟩, List.mem_of_getElem? (i := 628) (by decide +kernel), List.mem_of_getElem? (i := 891) (by decide +kernel), List.mem_of_getElem? (i := 892) (by decide +kernel)⟩
def lw_privs_5 : List (MethodName × Nat) := [(⟨"ThreePhaseGroupModel", "phase", "(IIII)Z"⟩, 27), (⟨"ThreePhaseGroupModel", "sent", "(III)Z"⟩, 27), (⟨"ThreePhaseGroupModel", "heard", "(IIIJI)I"⟩, 27), (⟨"ThreePhaseGroupModel", "executes", "(I)Z"⟩, 27), (⟨"ThreePhaseGroupModel", "serves", "(II)V"⟩, 27), (⟨"ThreePhaseGroupModel", "truncates", "(I)Z"⟩, 27), (⟨"ThreePhaseGroupModel", "joins", "(I)Z"⟩, 27), (⟨"ThreePhaseGroupModel", "begins", "(II)V"⟩, 27), (⟨"ThreePhaseGroupModel", "opens", "(I)Z"⟩, 27), (⟨"ThreePhaseGroupModel", "proposes", "(I)Z"⟩, 27), (⟨"ThreePhaseGroupModel", "forgeOne", "(IIJI)I"⟩, 27)]
theorem lw_r5 : ∀ q ∈ lw_privs_5, lw_okq q := List.forall_mem_cons.mpr ⟨lw_p64, List.forall_mem_cons.mpr ⟨lw_p65, List.forall_mem_cons.mpr ⟨lw_p66, List.forall_mem_cons.mpr ⟨lw_p67, List.forall_mem_cons.mpr ⟨lw_p68, List.forall_mem_cons.mpr ⟨lw_p69, List.forall_mem_cons.mpr ⟨lw_p70, List.forall_mem_cons.mpr ⟨lw_p71, List.forall_mem_cons.mpr ⟨lw_p72, List.forall_mem_cons.mpr ⟨lw_p73, List.forall_mem_cons.mpr ⟨lw_p74, fun _ h => absurd h List.not_mem_nil⟩⟩⟩⟩⟩⟩⟩⟩⟩⟩⟩
def lw_privs : List (MethodName × Nat) := lw_privs_1 ++ (lw_privs_2 ++ (lw_privs_3 ++ (lw_privs_4 ++ (lw_privs_5))))
def lw_tbl : List Cond := k2_sels lw_privs ++ tables_1
theorem lw_privs_ok : ∀ q ∈ lw_privs, lw_okq q := by
  show ∀ q ∈ lw_privs_1 ++ (lw_privs_2 ++ (lw_privs_3 ++ (lw_privs_4 ++ (lw_privs_5)))), lw_okq q
  exact List.forall_mem_append.mpr ⟨lw_r1, List.forall_mem_append.mpr ⟨lw_r2, List.forall_mem_append.mpr ⟨lw_r3, List.forall_mem_append.mpr ⟨lw_r4, lw_r5⟩⟩⟩⟩
end
section
/-! the kinds of places: 0 the group, 1 its board, 2 to 7 the board's rows, 8 9 10 replicas, clients, marks, 11 a replica, 12 its slots, 13 a slot, 14 15 its notes, 16 17 numbers (0 known, 1 checkpoints), 18 view changes, 19 20 a client; 21 the reference, 22 to 45 its rows -/
def xj_knd (k : Nat) : Nat := [4, 4, 0, 0, 0, 2, 0, 1, 3, 3, 0, 4, 3, 4, 2, 2, 4, 0, 0, 4, 2, 4, 0, 0, 0, 2, 0, 1, 1, 1, 0, 1, 0, 0, 2, 0, 0, 0, 0, 0, 0, 0, 0, 0, 1, 0].getD k 9
def xj_len (k : Nat) : Nat := [5, 8, 256, 256, 256, 256, 256, 256, 4, 2, 6, 14, 4, 5, 4, 4, 2, 256, 4, 6, 4, 27, 200, 200, 200, 200, 200, 200, 800, 800, 4, 4, 4, 4, 4, 4, 4, 800, 800, 800, 800, 2, 2, 2, 400, 6].getD k 0
def xj_cls (k : Nat) : Nat := [0, 1, 0, 0, 0, 0, 0, 0, 4, 5, 0, 2, 3, 3, 0, 0, 4, 0, 0, 5, 0, 6, 0, 0, 0, 0, 0, 0, 0, 0, 0, 0, 0, 0, 0, 0, 0, 0, 0, 0, 0, 0, 0, 0, 0, 0].getD k 9
def xj_typ (k x : Nat) : Nat := (([[2, 2, 2, 2, 0], [2, 2, 2, 2, 2, 2, 0, 0], [], [], [], [], [], [], [], [], [], [0, 2, 2, 2, 2, 2, 0, 0, 0, 0, 1, 0, 0, 0], [], [2, 2, 0, 0, 0], [], [], [2, 0], [], [], [0, 2, 2, 0, 0, 0], [], [0, 2, 2, 2, 2, 2, 2, 2, 2, 2, 2, 2, 2, 2, 2, 2, 2, 2, 2, 2, 0, 0, 2, 2, 2, 2, 2], [], [], [], [], [], [], [], [], [], [], [], [], [], [], [], [], [], [], [], [], [], [], [], []] : List (List Nat)).getD k []).getD x 9
def xj_PL : List (Nat × Nat × Nat) := [(0, 0, 0), (1, 0, 0), (2, 0, 0), (3, 0, 0), (4, 0, 0), (5, 0, 0), (6, 0, 0), (7, 0, 0), (8, 0, 0), (9, 0, 0), (10, 0, 0), (11, 0, 0), (12, 0, 0), (16, 0, 0), (17, 0, 0), (16, 0, 1), (17, 0, 1), (18, 0, 0), (13, 0, 0), (14, 0, 0), (15, 0, 0), (13, 0, 1), (14, 0, 1), (15, 0, 1), (13, 0, 2), (14, 0, 2), (15, 0, 2), (13, 0, 3), (14, 0, 3), (15, 0, 3), (11, 1, 0), (12, 1, 0), (16, 1, 0), (17, 1, 0), (16, 1, 1), (17, 1, 1), (18, 1, 0), (13, 1, 0), (14, 1, 0), (15, 1, 0), (13, 1, 1), (14, 1, 1), (15, 1, 1), (13, 1, 2), (14, 1, 2), (15, 1, 2), (13, 1, 3), (14, 1, 3), (15, 1, 3), (11, 2, 0), (12, 2, 0), (16, 2, 0), (17, 2, 0), (16, 2, 1), (17, 2, 1), (18, 2, 0), (13, 2, 0), (14, 2, 0), (15, 2, 0), (13, 2, 1), (14, 2, 1), (15, 2, 1), (13, 2, 2), (14, 2, 2), (15, 2, 2), (13, 2, 3), (14, 2, 3), (15, 2, 3), (11, 3, 0), (12, 3, 0), (16, 3, 0), (17, 3, 0), (16, 3, 1), (17, 3, 1), (18, 3, 0), (13, 3, 0), (14, 3, 0), (15, 3, 0), (13, 3, 1), (14, 3, 1), (15, 3, 1), (13, 3, 2), (14, 3, 2), (15, 3, 2), (13, 3, 3), (14, 3, 3), (15, 3, 3), (19, 0, 0), (20, 0, 0), (19, 1, 0), (20, 1, 0), (21, 0, 0), (22, 0, 0), (23, 0, 0), (24, 0, 0), (25, 0, 0), (26, 0, 0), (27, 0, 0), (28, 0, 0), (29, 0, 0), (30, 0, 0), (31, 0, 0), (32, 0, 0), (33, 0, 0), (34, 0, 0), (35, 0, 0), (36, 0, 0), (37, 0, 0), (38, 0, 0), (39, 0, 0), (40, 0, 0), (41, 0, 0), (42, 0, 0), (43, 0, 0), (44, 0, 0), (45, 0, 0)]
def xj_ix (p : Nat × Nat × Nat) : Nat := match p.1 with
  | 11 => 11 + 19 * p.2.1
  | 12 => 12 + 19 * p.2.1
  | 13 => 18 + 19 * p.2.1 + 3 * p.2.2
  | 14 => 19 + 19 * p.2.1 + 3 * p.2.2
  | 15 => 20 + 19 * p.2.1 + 3 * p.2.2
  | 16 => 13 + 19 * p.2.1 + 2 * p.2.2
  | 17 => 14 + 19 * p.2.1 + 2 * p.2.2
  | 18 => 17 + 19 * p.2.1
  | 19 => 87 + 2 * p.2.1
  | 20 => 88 + 2 * p.2.1
  | k => if k < 11 then k else 70 + k
theorem xj_PL_all : (List.range 116).all (fun q => match xj_PL[q]? with | some p => xj_ix p == q | none => false) = true := by decide +kernel
theorem xj_PL_len : xj_PL.length = 116 := by decide +kernel
theorem xj_PL_ix (q : Nat) (p : Nat × Nat × Nat) (h : xj_PL[q]? = some p) : xj_ix p = q := by
  have hq : q < 116 := by
    have := (List.getElem?_eq_some_iff.mp h).1
    rw [xj_PL_len] at this
    exact this
  have h1 := List.all_eq_true.mp xj_PL_all q (List.mem_range.mpr hq)
  rw [h] at h1
  simpa using h1
/-- the references of the settled world -/
def xj_K0 (k r i x : Nat) : Option (Nat × Nat × Nat) := match k with
  | 0 => if x < 4 then ([some (1, 0, 0), some (8, 0, 0), some (9, 0, 0), some (10, 0, 0)].getD x none) else none
  | 1 => if x < 6 then some (2 + x, 0, 0) else none
  | 8 => if x < 4 then some (11, x, 0) else none
  | 9 => if x < 2 then some (19, x, 0) else none
  | 11 => ([none, some (1, 0, 0), some (12, r, 0), some (16, r, 0), some (16, r, 1), some (18, r, 0)].getD x none)
  | 12 => if x < 4 then some (13, r, x) else none
  | 13 => ([some (14, r, i), some (15, r, i)].getD x none)
  | 16 => ([some (17, r, i)].getD x none)
  | 19 => ([none, some (1, 0, 0), some (20, r, 0)].getD x none)
  | 21 => ([none, some (22, 0, 0), some (23, 0, 0), some (24, 0, 0), some (25, 0, 0), some (26, 0, 0), some (27, 0, 0), some (28, 0, 0), some (29, 0, 0), some (30, 0, 0), some (31, 0, 0), some (32, 0, 0), some (33, 0, 0), some (34, 0, 0), some (35, 0, 0), some (36, 0, 0), some (37, 0, 0), some (38, 0, 0), some (39, 0, 0), some (40, 0, 0), none, none, some (41, 0, 0), some (42, 0, 0), some (43, 0, 0), some (44, 0, 0), some (45, 0, 0)].getD x none)
  | _ => none
def xj_T0 : u_T := fun k => match k with
  | 0 => ("ThreePhaseGroup", "board", "LThreePhaseGroup$Board;", true)
  | 1 => ("ThreePhaseGroup", "replicas", "[LThreePhaseGroup$Replica;", true)
  | 2 => ("ThreePhaseGroup", "clients", "[LThreePhaseGroup$Client;", true)
  | 3 => ("ThreePhaseGroup", "marks", "[I", true)
  | _ => ("ThreePhaseGroup", "faulty", "I", false)
def xj_t0 : Nat → FieldType := fun k => match k with
  | 0 => .object "ThreePhaseGroup$Board"
  | 1 => .array (.object "ThreePhaseGroup$Replica")
  | 2 => .array (.object "ThreePhaseGroup$Client")
  | 3 => .array (.int)
  | _ => .int
def xj_T1 : u_T := fun k => match k with
  | 0 => ("ThreePhaseGroup$Board", "kind", "[I", true)
  | 1 => ("ThreePhaseGroup$Board", "sender", "[I", true)
  | 2 => ("ThreePhaseGroup$Board", "a", "[I", true)
  | 3 => ("ThreePhaseGroup$Board", "b", "[J", true)
  | 4 => ("ThreePhaseGroup$Board", "c", "[I", true)
  | 5 => ("ThreePhaseGroup$Board", "valid", "[Z", true)
  | 6 => ("ThreePhaseGroup$Board", "size", "I", false)
  | _ => ("ThreePhaseGroup$Board", "judged", "I", false)
def xj_t1 : Nat → FieldType := fun k => match k with
  | 0 => .array (.int)
  | 1 => .array (.int)
  | 2 => .array (.int)
  | 3 => .array (.long)
  | 4 => .array (.int)
  | 5 => .array (.boolean)
  | 6 => .int
  | _ => .int
def xj_T2 : u_T := fun k => match k with
  | 0 => ("ThreePhaseGroup$Replica", "self", "I", true)
  | 1 => ("ThreePhaseGroup$Replica", "board", "LThreePhaseGroup$Board;", true)
  | 2 => ("ThreePhaseGroup$Replica", "slots", "[LThreePhaseGroup$Slot;", true)
  | 3 => ("ThreePhaseGroup$Replica", "known", "LThreePhaseGroup$Numbers;", true)
  | 4 => ("ThreePhaseGroup$Replica", "checkpoints", "LThreePhaseGroup$Numbers;", true)
  | 5 => ("ThreePhaseGroup$Replica", "viewChanges", "[I", true)
  | 6 => ("ThreePhaseGroup$Replica", "view", "I", false)
  | 7 => ("ThreePhaseGroup$Replica", "changing", "Z", false)
  | 8 => ("ThreePhaseGroup$Replica", "stable", "I", false)
  | 9 => ("ThreePhaseGroup$Replica", "executed", "I", false)
  | 10 => ("ThreePhaseGroup$Replica", "state", "J", false)
  | 11 => ("ThreePhaseGroup$Replica", "timer", "I", false)
  | 12 => ("ThreePhaseGroup$Replica", "span", "I", false)
  | _ => ("ThreePhaseGroup$Replica", "renewing", "Z", false)
def xj_t2 : Nat → FieldType := fun k => match k with
  | 0 => .int
  | 1 => .object "ThreePhaseGroup$Board"
  | 2 => .array (.object "ThreePhaseGroup$Slot")
  | 3 => .object "ThreePhaseGroup$Numbers"
  | 4 => .object "ThreePhaseGroup$Numbers"
  | 5 => .array (.int)
  | 6 => .int
  | 7 => .boolean
  | 8 => .int
  | 9 => .int
  | 10 => .long
  | 11 => .int
  | 12 => .int
  | _ => .boolean
def xj_T3 : u_T := fun k => match k with
  | 0 => ("ThreePhaseGroup$Slot", "prepares", "[J", true)
  | 1 => ("ThreePhaseGroup$Slot", "commits", "[J", true)
  | 2 => ("ThreePhaseGroup$Slot", "accepted", "I", false)
  | 3 => ("ThreePhaseGroup$Slot", "decided", "I", false)
  | _ => ("ThreePhaseGroup$Slot", "claim", "I", false)
def xj_t3 : Nat → FieldType := fun k => match k with
  | 0 => .array (.long)
  | 1 => .array (.long)
  | 2 => .int
  | 3 => .int
  | _ => .int
def xj_T4 : u_T := fun k => match k with
  | 0 => ("ThreePhaseGroup$Numbers", "at", "[I", true)
  | _ => ("ThreePhaseGroup$Numbers", "size", "I", false)
def xj_t4 : Nat → FieldType := fun k => match k with
  | 0 => .array (.int)
  | _ => .int
def xj_T5 : u_T := fun k => match k with
  | 0 => ("ThreePhaseGroup$Client", "self", "I", true)
  | 1 => ("ThreePhaseGroup$Client", "board", "LThreePhaseGroup$Board;", true)
  | 2 => ("ThreePhaseGroup$Client", "replies", "[J", true)
  | 3 => ("ThreePhaseGroup$Client", "submitted", "I", false)
  | 4 => ("ThreePhaseGroup$Client", "outstanding", "I", false)
  | _ => ("ThreePhaseGroup$Client", "latestAnswer", "I", false)
def xj_t5 : Nat → FieldType := fun k => match k with
  | 0 => .int
  | 1 => .object "ThreePhaseGroup$Board"
  | 2 => .array (.long)
  | 3 => .int
  | 4 => .int
  | _ => .int
def xj_T6 : u_T := fun k => match k with
  | 0 => ("ThreePhaseGroupModel", "count", "I", false)
  | 1 => ("ThreePhaseGroupModel", "kind", "[I", true)
  | 2 => ("ThreePhaseGroupModel", "from", "[I", true)
  | 3 => ("ThreePhaseGroupModel", "a", "[I", true)
  | 4 => ("ThreePhaseGroupModel", "b", "[J", true)
  | 5 => ("ThreePhaseGroupModel", "c", "[I", true)
  | 6 => ("ThreePhaseGroupModel", "forged", "[Z", true)
  | 7 => ("ThreePhaseGroupModel", "noted", "[Z", true)
  | 8 => ("ThreePhaseGroupModel", "known", "[Z", true)
  | 9 => ("ThreePhaseGroupModel", "view", "[I", true)
  | 10 => ("ThreePhaseGroupModel", "changing", "[Z", true)
  | 11 => ("ThreePhaseGroupModel", "h", "[I", true)
  | 12 => ("ThreePhaseGroupModel", "e", "[I", true)
  | 13 => ("ThreePhaseGroupModel", "state", "[J", true)
  | 14 => ("ThreePhaseGroupModel", "span", "[I", true)
  | 15 => ("ThreePhaseGroupModel", "timer", "[I", true)
  | 16 => ("ThreePhaseGroupModel", "accepted", "[I", true)
  | 17 => ("ThreePhaseGroupModel", "decided", "[I", true)
  | 18 => ("ThreePhaseGroupModel", "certified", "[I", true)
  | 19 => ("ThreePhaseGroupModel", "certView", "[I", true)
  | 20 => ("ThreePhaseGroupModel", "faulty", "I", false)
  | 21 => ("ThreePhaseGroupModel", "afresh", "Z", false)
  | 22 => ("ThreePhaseGroupModel", "stamp", "[I", true)
  | 23 => ("ThreePhaseGroupModel", "open", "[I", true)
  | 24 => ("ThreePhaseGroupModel", "reply", "[I", true)
  | 25 => ("ThreePhaseGroupModel", "taken", "[Z", true)
  | _ => ("ThreePhaseGroupModel", "mark", "[I", true)
def xj_t6 : Nat → FieldType := fun k => match k with
  | 0 => .int
  | 1 => .array (.int)
  | 2 => .array (.int)
  | 3 => .array (.int)
  | 4 => .array (.long)
  | 5 => .array (.int)
  | 6 => .array (.boolean)
  | 7 => .array (.boolean)
  | 8 => .array (.boolean)
  | 9 => .array (.int)
  | 10 => .array (.boolean)
  | 11 => .array (.int)
  | 12 => .array (.int)
  | 13 => .array (.long)
  | 14 => .array (.int)
  | 15 => .array (.int)
  | 16 => .array (.int)
  | 17 => .array (.int)
  | 18 => .array (.int)
  | 19 => .array (.int)
  | 20 => .int
  | 21 => .boolean
  | 22 => .array (.int)
  | 23 => .array (.int)
  | 24 => .array (.int)
  | 25 => .array (.boolean)
  | _ => .array (.int)
abbrev xj_cl : List vw_C := [("ThreePhaseGroup", xj_T0, 5), ("ThreePhaseGroup$Board", xj_T1, 8), ("ThreePhaseGroup$Replica", xj_T2, 14), ("ThreePhaseGroup$Slot", xj_T3, 5), ("ThreePhaseGroup$Numbers", xj_T4, 2), ("ThreePhaseGroup$Client", xj_T5, 6), ("ThreePhaseGroupModel", xj_T6, 27)]
abbrev xj_ty (G : va_G × (Nat → ClassId) × Nat) : List (ClassId × FieldType) := [(G.2.1 0, .int), (G.2.1 1, .boolean), (G.2.1 2, .long), (G.2.1 3, .object "ThreePhaseGroup$Slot"), (G.2.1 4, .object "ThreePhaseGroup$Replica"), (G.2.1 5, .object "ThreePhaseGroup$Client")]
/-- the tables' words that every method may use: those that stay, and those of nest mates and of arrays of objects -/
def xj_GW : List Cond := lw_tbl.filter goodWord
def xj_nest (c : Cond) : Bool := match c with
  | .fieldLinkNest .. => true
  | .methodLinkNest .. => true
  | .arrayOver (.object _) => true
  | _ => false
def xj_NW : List Cond := lw_tbl.filter xj_nest
theorem xj_GW_good : ∀ w ∈ xj_GW, (w.onTables && w.keeps) = true ∨ ∃ ty, w = .arrayClass ty := fun w h => good_of_word (List.mem_filter.mp h).2
theorem xj_NW_m (c : Cond) (hc : c ∈ xj_NW) {s U : State} (hW : s.WarmedH U.vm) (h : va_Nw c s) : va_Nw c U := by
  have h2 := (List.mem_filter.mp hc).2
  unfold xj_nest at h2
  split at h2
  · exact va_Nw.warmF hW h
  · exact va_Nw.warmM hW h
  · exact va_AO.moved hW.alike h
  · cases h2
theorem xj_NW_s (c : Cond) (hc : c ∈ xj_NW) {u U : State} (he : u.vm = U.vm) (h : va_Nw c u) : va_Nw c U := by
  have h2 := (List.mem_filter.mp hc).2
  unfold xj_nest at h2
  split at h2
  · exact va_Nw.same rfl he h
  · exact va_Nw.same rfl he h
  · exact va_AO.moved (by rw [he]; exact Vm.Alike.refl _) h
  · cases h2
end
section
/-! The judgement: a method's walk over a world of places. A place is (kind, r, i); its kind says what cell it is; the world holds the ints, the longs and the references of all places, and how many of them are made. -/
abbrev xj_Pl : Type := Nat × Nat × Nat
abbrev xj_I : Type := Nat → Nat → Nat → Nat → Int32
abbrev xj_J : Type := Nat → Nat → Nat → Nat → Int64
abbrev xj_K : Type := Nat → Nat → Nat → Nat → Option xj_Pl
abbrev xj_W : Type := (xj_I × xj_J) × (xj_K × Nat)
/-- what a launch gives: the classes' numbers and slots, the array classes' numbers, the first address of the world -/
abbrev xj_G : Type := va_G × (Nat → ClassId) × Nat
def xj_ad (G : xj_G) (p : xj_Pl) : Nat := G.2.2 + xj_ix p
def xj_fv (G : xj_G) (w : xj_W) (k r i x : Nat) : Value := match xj_typ k x with
  | 0 => .int (w.1.1 k r i x)
  | 1 => .long (w.1.2 k r i x)
  | _ => va_rf ((w.2.1 k r i x).map (xj_ad G))
def xj_cell (G : xj_G) (w : xj_W) (p : xj_Pl) : va_E := match xj_knd p.1 with
  | 0 => .inl (G.2.1 0, xj_len p.1, .inl (w.1.1 p.1 p.2.1 p.2.2))
  | 1 => .inl (G.2.1 1, xj_len p.1, .inl (w.1.1 p.1 p.2.1 p.2.2))
  | 2 => .inl (G.2.1 2, xj_len p.1, .inr (.inl (w.1.2 p.1 p.2.1 p.2.2)))
  | 3 => .inl (G.2.1 (xj_cls p.1), xj_len p.1, .inr (.inr (.inr (.inr (fun x => (w.2.1 p.1 p.2.1 p.2.2 x).map (xj_ad G))))))
  | _ => .inr (xj_cls p.1, (List.range (xj_len p.1)).map (fun x => xj_fv G w p.1 p.2.1 p.2.2 x))
def xj_mk (G : xj_G) (w : xj_W) : va_W := (xj_PL.take w.2.2).map (fun p => (xj_ad G p, xj_cell G w p))
/-- a place that is made -/
def xj_ok (p : xj_Pl) (n : Nat) : Prop := xj_PL[xj_ix p]? = some p ∧ xj_ix p < n
theorem xj_at {G : xj_G} {w : xj_W} {p : xj_Pl} (h : xj_ok p w.2.2) : (xj_mk G w)[xj_ix p]? = some (xj_ad G p, xj_cell G w p) := by
  unfold xj_mk
  rw [List.getElem?_map, List.getElem?_take, if_pos h.2, h.1]
  rfl
theorem xj_cell_congr {G : xj_G} {w w' : xj_W} {p : xj_Pl} (hI : ∀ x, w'.1.1 p.1 p.2.1 p.2.2 x = w.1.1 p.1 p.2.1 p.2.2 x) (hJ : ∀ x, w'.1.2 p.1 p.2.1 p.2.2 x = w.1.2 p.1 p.2.1 p.2.2 x) (hK : ∀ x, w'.2.1 p.1 p.2.1 p.2.2 x = w.2.1 p.1 p.2.1 p.2.2 x) : xj_cell G w' p = xj_cell G w p := by
  have e1 : w'.1.1 p.1 p.2.1 p.2.2 = w.1.1 p.1 p.2.1 p.2.2 := funext hI
  have e2 : w'.1.2 p.1 p.2.1 p.2.2 = w.1.2 p.1 p.2.1 p.2.2 := funext hJ
  have e3 : w'.2.1 p.1 p.2.1 p.2.2 = w.2.1 p.1 p.2.1 p.2.2 := funext hK
  unfold xj_cell xj_fv
  simp only [e1, e2, e3]
theorem xj_mk_set {G : xj_G} {w w' : xj_W} {p : xj_Pl} (h : xj_ok p w.2.2) (hn : w'.2.2 = w.2.2) (ho : ∀ p', p' ≠ p → xj_cell G w' p' = xj_cell G w p') : (xj_mk G w).set (xj_ix p) (xj_ad G p, xj_cell G w' p) = xj_mk G w' := by
  have h' : xj_ok p w'.2.2 := by rw [hn]; exact h
  apply List.ext_getElem?
  intro q
  by_cases hq : xj_ix p = q
  · subst hq
    have hl : xj_ix p < (xj_mk G w).length := (List.getElem?_eq_some_iff.mp (xj_at (G := G) h)).1
    rw [List.getElem?_set_self hl, xj_at (G := G) h']
  · rw [List.getElem?_set_ne hq]
    unfold xj_mk
    rw [List.getElem?_map, List.getElem?_map, hn]
    cases hx : (xj_PL.take w.2.2)[q]? with
    | none => rfl
    | some p' =>
      have hne : p' ≠ p := by
        intro e
        subst e
        have h2 : xj_PL[q]? = some p' := by
          rw [List.getElem?_take] at hx
          split at hx
          · exact hx
          · cases hx
        exact hq (xj_PL_ix q p' h2)
      show some (xj_ad G p', xj_cell G w p') = some (xj_ad G p', xj_cell G w' p')
      rw [ho p' hne]
def xj_uI (w : xj_W) (k r i x : Nat) (v : Int32) : xj_W := ((fun k' r' i' x' => if k' = k ∧ r' = r ∧ i' = i ∧ x' = x then v else w.1.1 k' r' i' x', w.1.2), w.2)
def xj_uJ (w : xj_W) (k r i x : Nat) (v : Int64) : xj_W := ((w.1.1, fun k' r' i' x' => if k' = k ∧ r' = r ∧ i' = i ∧ x' = x then v else w.1.2 k' r' i' x'), w.2)
def xj_uK (w : xj_W) (k r i x : Nat) (v : Option xj_Pl) : xj_W := (w.1, (fun k' r' i' x' => if k' = k ∧ r' = r ∧ i' = i ∧ x' = x then v else w.2.1 k' r' i' x', w.2.2))
theorem xj_uI_oth {G : xj_G} {w : xj_W} {k r i x : Nat} {v : Int32} (p' : xj_Pl) (h : p' ≠ (k, r, i)) : xj_cell G (xj_uI w k r i x v) p' = xj_cell G w p' := by
  refine xj_cell_congr (fun y => ?_) (fun _ => rfl) (fun _ => rfl)
  obtain ⟨a, b, c⟩ := p'
  show (if a = k ∧ b = r ∧ c = i ∧ y = x then v else w.1.1 a b c y) = _
  rw [if_neg]
  rintro ⟨rfl, rfl, rfl, -⟩
  exact h rfl
theorem xj_uJ_oth {G : xj_G} {w : xj_W} {k r i x : Nat} {v : Int64} (p' : xj_Pl) (h : p' ≠ (k, r, i)) : xj_cell G (xj_uJ w k r i x v) p' = xj_cell G w p' := by
  refine xj_cell_congr (fun _ => rfl) (fun y => ?_) (fun _ => rfl)
  obtain ⟨a, b, c⟩ := p'
  show (if a = k ∧ b = r ∧ c = i ∧ y = x then v else w.1.2 a b c y) = _
  rw [if_neg]
  rintro ⟨rfl, rfl, rfl, -⟩
  exact h rfl
theorem xj_uK_oth {G : xj_G} {w : xj_W} {k r i x : Nat} {v : Option xj_Pl} (p' : xj_Pl) (h : p' ≠ (k, r, i)) : xj_cell G (xj_uK w k r i x v) p' = xj_cell G w p' := by
  refine xj_cell_congr (fun _ => rfl) (fun _ => rfl) (fun y => ?_)
  obtain ⟨a, b, c⟩ := p'
  show (if a = k ∧ b = r ∧ c = i ∧ y = x then v else w.2.1 a b c y) = _
  rw [if_neg]
  rintro ⟨rfl, rfl, rfl, -⟩
  exact h rfl
theorem xj_rangeset {n x : Nat} {f g : Nat → Value} {v : Value} (hx : x < n) (hv : g x = v) (ho : ∀ y, y ≠ x → g y = f y) : ((List.range n).map f).set x v = (List.range n).map g := by
  apply List.ext_getElem?
  intro q
  by_cases hq : x = q
  · subst hq
    rw [List.getElem?_set_self (by simpa using hx)]
    simp [hx, hv]
  · rw [List.getElem?_set_ne hq]
    simp only [List.getElem?_map]
    by_cases h2 : q < n
    · simp [h2, ho q (fun e => hq e.symm)]
    · simp [h2]
theorem xj_setI {G : xj_G} {w : xj_W} {k r i x : Nat} {v : Int32} (hk : xj_knd k = 4) (hx : x < xj_len k) (ht : xj_typ k x = 0) : xj_cell G (xj_uI w k r i x v) (k, r, i) = .inr (xj_cls k, ((List.range (xj_len k)).map (fun x => xj_fv G w k r i x)).set x (.int v)) := by
  rw [xj_rangeset (g := fun y => xj_fv G (xj_uI w k r i x v) k r i y) hx]
  · unfold xj_cell
    simp only [hk]
  · show xj_fv _ _ k r i x = _
    unfold xj_fv
    simp only [ht]
    simp [xj_uI]
  · intro y hy
    show xj_fv _ _ k r i y = xj_fv _ _ k r i y
    unfold xj_fv
    simp [xj_uI, hy]
theorem xj_setJ {G : xj_G} {w : xj_W} {k r i x : Nat} {v : Int64} (hk : xj_knd k = 4) (hx : x < xj_len k) (ht : xj_typ k x = 1) : xj_cell G (xj_uJ w k r i x v) (k, r, i) = .inr (xj_cls k, ((List.range (xj_len k)).map (fun x => xj_fv G w k r i x)).set x (.long v)) := by
  rw [xj_rangeset (g := fun y => xj_fv G (xj_uJ w k r i x v) k r i y) hx]
  · unfold xj_cell
    simp only [hk]
  · show xj_fv _ _ k r i x = _
    unfold xj_fv
    simp only [ht]
    simp [xj_uJ]
  · intro y hy
    show xj_fv _ _ k r i y = xj_fv _ _ k r i y
    unfold xj_fv
    simp [xj_uJ, hy]
theorem xj_setK {G : xj_G} {w : xj_W} {k r i x : Nat} {v : Option xj_Pl} (hk : xj_knd k = 4) (hx : x < xj_len k) (ht : xj_typ k x = 2) : xj_cell G (xj_uK w k r i x v) (k, r, i) = .inr (xj_cls k, ((List.range (xj_len k)).map (fun x => xj_fv G w k r i x)).set x (va_rf (v.map (xj_ad G)))) := by
  rw [xj_rangeset (g := fun y => xj_fv G (xj_uK w k r i x v) k r i y) hx]
  · unfold xj_cell
    simp only [hk]
  · show xj_fv _ _ k r i x = _
    unfold xj_fv
    simp only [ht]
    simp [xj_uK]
  · intro y hy
    show xj_fv _ _ k r i y = xj_fv _ _ k r i y
    unfold xj_fv
    simp [xj_uK, hy]
/-! the locals, a value or nothing known a place -/
def xj_LH (ls : Array Slot) (L : List (Option Value)) : Prop := ls.size = L.length ∧ lv_wf ls ∧ ∀ (i : Nat) (v : Value), L[i]? = some (some v) → ls[i]? = some (.val v)
def xj_sl (vs : List Value) : List (Option Value) := vs.flatMap fun v => if v.category = 2 then [some v, none] else [some v]
def xj_L0 (vs : List Value) (n : Nat) : List (Option Value) := xj_sl vs ++ List.replicate (n - (xj_sl vs).length) none
theorem xj_sl_len (vs : List Value) : (xj_sl vs).length = (lg_sl vs).length := by
  induction vs with
  | nil => rfl
  | cons a vs ih =>
    unfold xj_sl lg_sl at ih ⊢
    rw [List.flatMap_cons, List.flatMap_cons, List.length_append, List.length_append, ih]
    by_cases h : a.category = 2
    · simp [h]
    · simp [h]
theorem xj_sl_at (vs : List Value) : ∀ (i : Nat) (v : Value), (xj_sl vs)[i]? = some (some v) → (lg_sl vs)[i]? = some (.val v) := by
  induction vs with
  | nil => intro i v h; simp [xj_sl] at h
  | cons a vs ih =>
    intro i v h
    have e1 : xj_sl (a :: vs) = (if a.category = 2 then [some a, none] else [some a]) ++ xj_sl vs := by unfold xj_sl; rw [List.flatMap_cons]
    have e2 : lg_sl (a :: vs) = (if a.category = 2 then [.val a, .second] else [.val a]) ++ lg_sl vs := by unfold lg_sl; rw [List.flatMap_cons]
    rw [e1] at h
    rw [e2]
    by_cases hc : a.category = 2
    · rw [if_pos hc] at h ⊢
      match i, h with
      | 0, h => simp at h; subst h; rfl
      | 1, h => simp at h
      | i + 2, h => exact ih i v (by simpa using h)
    · rw [if_neg hc] at h ⊢
      match i, h with
      | 0, h => simp at h; subst h; rfl
      | i + 1, h => exact ih i v (by simpa using h)
theorem xj_entry (vs : List Value) {n : Nat} (h : (lg_sl vs).length ≤ n) : xj_LH ((lg_sl vs ++ List.replicate (n - (lg_sl vs).length) Slot.unset).toArray) (xj_L0 vs n) := by
  obtain ⟨h1, h2, -⟩ := lv_entry vs h
  refine ⟨?_, h2, fun i v hi => ?_⟩
  · unfold xj_L0
    simp [xj_sl_len]
  · unfold xj_L0 at hi
    rw [List.getElem?_append] at hi
    split at hi
    · rename_i hl
      have := xj_sl_at vs i v hi
      rw [List.getElem?_toArray, List.getElem?_append_left (by rw [← xj_sl_len]; exact hl)]
      exact this
    · rw [List.getElem?_replicate] at hi
      split at hi
      · cases hi
      · cases hi
def xj_nl (v : Option Value) : Bool := match v with
  | some (.long _) => false
  | some (.double _) => false
  | _ => true
theorem xj_nl_cat {v : Value} (h : xj_nl (some v) = true) : ¬ v.category = 2 := by
  cases v <;> simp [xj_nl, Value.category] at h ⊢
/-- what stands just ahead is no long -/
def xj_pv (L : List (Option Value)) (i : Nat) : Bool := match i with
  | 0 => true
  | j + 1 => match L[j]? with
    | some v => xj_nl v
    | none => true
theorem xj_store1 {ls : Array Slot} {L : List (Option Value)} {i : Nat} {v : Value} (h : xj_LH ls L) (hi : i < L.length) (hc : v.category = 1) (hp : xj_pv L i = true) : ∃ ls', storeLocals ls i v = some ls' ∧ xj_LH ls' (L.set i (some v)) := by
  have h0 : lv_has ls L.length ((List.range L.length).filterMap (fun j => match L[j]? with | some (some x) => some (j, x) | _ => none)) := by
    refine ⟨h.1, h.2.1, fun q hq => ?_⟩
    obtain ⟨j, -, hj⟩ := List.mem_filterMap.mp hq
    revert hj
    cases hx : L[j]? with
    | none => simp
    | some y =>
      cases y with
      | none => simp
      | some z => simp; rintro rfl; exact h.2.2 j z hx
  obtain ⟨ls', e1, e2⟩ := lv_store1 h0 hi hc
  refine ⟨ls', e1, by rw [List.length_set]; exact e2.1, e2.2.1, fun j x hj => ?_⟩
  by_cases hji : i = j
  · subst hji
    rw [List.getElem?_set_self hi] at hj
    simp at hj
    subst hj
    exact e2.2.2 (i, v) (List.mem_cons_self)
  · rw [List.getElem?_set_ne hji] at hj
    refine e2.2.2 (j, x) (List.mem_cons_of_mem _ (List.mem_filter.mpr ⟨List.mem_filterMap.mpr ⟨j, List.mem_range.mpr (List.getElem?_eq_some_iff.mp hj).1, by simp [hj]⟩, ?_⟩))
    have a1 : ¬ j = i := fun e => hji e.symm
    have a2 : ¬ (j + 1 = i ∧ x.category = 2) := by
      rintro ⟨rfl, hc2⟩
      simp only [xj_pv, hj] at hp
      exact xj_nl_cat hp hc2
    simp [a1]
    exact Decidable.not_and_iff_not_or_not.mp a2
theorem xj_store2 {ls : Array Slot} {L : List (Option Value)} {i : Nat} {v : Value} (h : xj_LH ls L) (hi : i + 1 < L.length) (hc : v.category = 2) (hp : xj_pv L i = true) : ∃ ls', storeLocals ls i v = some ls' ∧ xj_LH ls' ((L.set i (some v)).set (i + 1) none) := by
  have h0 : lv_has ls L.length ((List.range L.length).filterMap (fun j => match L[j]? with | some (some x) => some (j, x) | _ => none)) := by
    refine ⟨h.1, h.2.1, fun q hq => ?_⟩
    obtain ⟨j, -, hj⟩ := List.mem_filterMap.mp hq
    revert hj
    cases hx : L[j]? with
    | none => simp
    | some y =>
      cases y with
      | none => simp
      | some z => simp; rintro rfl; exact h.2.2 j z hx
  obtain ⟨ls', e1, e2⟩ := lv_store2 h0 hi hc
  refine ⟨ls', e1, by rw [List.length_set, List.length_set]; exact e2.1, e2.2.1, fun j x hj => ?_⟩
  by_cases hj1 : i + 1 = j
  · subst hj1
    rw [List.getElem?_set_self (by rw [List.length_set]; exact hi)] at hj
    simp at hj
  · rw [List.getElem?_set_ne hj1] at hj
    by_cases hji : i = j
    · subst hji
      rw [List.getElem?_set_self (by omega)] at hj
      simp at hj
      subst hj
      exact e2.2.2 (i, v) (List.mem_cons_self)
    · rw [List.getElem?_set_ne hji] at hj
      refine e2.2.2 (j, x) (List.mem_cons_of_mem _ (List.mem_filter.mpr ⟨List.mem_filterMap.mpr ⟨j, List.mem_range.mpr (List.getElem?_eq_some_iff.mp hj).1, by simp [hj]⟩, ?_⟩))
      have a1 : ¬ j = i := fun e => hji e.symm
      have a3 : ¬ j = i + 1 := fun e => hj1 e.symm
      have a2 : ¬ (j + 1 = i ∧ x.category = 2) := by
        rintro ⟨rfl, hc2⟩
        simp only [xj_pv, hj] at hp
        exact xj_nl_cat hp hc2
      simp [a1, a3]
      exact Decidable.not_and_iff_not_or_not.mp a2
end
section
/-! the judgement -/
abbrev xj_E : Type := Program × Launch × Env × Room × State × MethodId × Array Value × List Frame × Method × Code
def xj_A (G : xj_G) : Nat → Prop := fun q => G.2.2 ≤ q
abbrev xj_s (E : xj_E) : State := E.2.2.2.2.1
abbrev xj_m (E : xj_E) : MethodId := E.2.2.2.2.2.1
abbrev xj_a (E : xj_E) : Array Value := E.2.2.2.2.2.2.1
abbrev xj_b (E : xj_E) : List Frame := E.2.2.2.2.2.2.2.1
abbrev xj_me (E : xj_E) : Method := E.2.2.2.2.2.2.2.2.1
abbrev xj_c (E : xj_E) : Code := E.2.2.2.2.2.2.2.2.2
abbrev xj_V (E : xj_E) (H : Heap) (locs : List Loc) (cs sl : Nat) (Q : State → Prop) (g : JFrame) : Prop := W E.1 E.2.1 E.2.2.1 E.2.2.2.1 (xj_s E) (xj_m E) (xj_a E) (xj_b E) (xj_me E) (xj_c E) H locs cs sl Q g
/-- from here, with these locals, this stack and this world, the machine comes to Q -/
def xj_X (E : xj_E) (G : xj_G) (Q : State → Prop) (cs sl pc : Nat) (L : List (Option Value)) (st : List Value) (w : xj_W) : Prop :=
  ∀ (ls : Array Slot) (H : Heap) (locs : List Loc), xj_LH ls L → H.size = G.2.2 + w.2.2 → va_P G.1 xj_cl (xj_mk G w) H → va_S (xj_A G) (xj_s E).heap H locs → xj_V E H locs cs sl Q (F0 (xj_m E) pc ls st)
/-- what holds all along a method -/
def xj_C (E : xj_E) (G : xj_G) (cc : ByteArray) (own : String) (nL d q c0 s0 : Nat) (ret : Option FieldType) : Prop :=
  E.1.tables.exec = Jvm.exec ∧ (xj_c E).code = cc ∧ (xj_c E).maxLocals = nL ∧ (xj_s E).vm.findClass own = some (xj_m E).cls ∧ (∀ w ∈ xj_GW, w.before (xj_a E) (xj_s E) = true) ∧ (∀ w ∈ xj_NW, va_Nw w (xj_s E)) ∧ va_K G.1 xj_cl (xj_ty G) (xj_s E) ∧ (d ≤ E.2.2.2.1.frames ∧ q ≤ E.2.2.2.1.locals ∧ c0 ≤ E.2.2.2.1.cells ∧ s0 ≤ E.2.2.2.1.slots) ∧ (xj_me E).sig.returnType = ret ∧ (xj_me E).locks = false
def xj_At (cc : ByteArray) (pc : Nat) (i : Instr) (len nx : Nat) : Prop := decode cc pc = .ok (i, len) ∧ pc + len = nx
theorem xj_D (G : xj_G) (w : xj_W) : va_D (xj_A G) (xj_mk G w) := by
  have key : ∀ (i : Nat) (q : Nat × va_E), (xj_mk G w)[i]? = some q → q.1 = G.2.2 + i := by
    intro i q h
    unfold xj_mk at h
    rw [List.getElem?_map] at h
    cases hx : (xj_PL.take w.2.2)[i]? with
    | none => rw [hx] at h; cases h
    | some p' =>
      rw [hx] at h
      have h2 : xj_PL[i]? = some p' := by
        rw [List.getElem?_take] at hx
        split at hx
        · exact hx
        · cases hx
      have h3 := xj_PL_ix i p' h2
      have h4 : (xj_ad G p', xj_cell G w p') = q := Option.some.inj h
      rw [← h4]
      show G.2.2 + xj_ix p' = _
      rw [h3]
  refine ⟨fun i j a b ha hb hab => ?_, fun k q hk => ?_⟩
  · have h1 := key i a ha
    have h2 := key j b hb
    omega
  · show G.2.2 ≤ q.1
    rw [key k q hk]
    omega
section XJ
variable {E : xj_E} {G : xj_G} {cc : ByteArray} {own : String} {nL d q c0 s0 : Nat} {ret : Option FieldType} {Q : State → Prop} {cs sl pc nx : Nat} {L : List (Option Value)} {st rest : List Value} {w : xj_W}
theorem xj_as {w2 : xj_W} (h : w = w2) (k : xj_X E G Q cs sl pc L st w2) : xj_X E G Q cs sl pc L st w := h ▸ k
theorem xj_topi {x y : Int32} (h : x = y) (k : xj_X E G Q cs sl pc L (.int y :: rest) w) : xj_X E G Q cs sl pc L (.int x :: rest) w := h ▸ k
theorem xj_topl {x y : Int64} (h : x = y) (k : xj_X E G Q cs sl pc L (.long y :: rest) w) : xj_X E G Q cs sl pc L (.long x :: rest) w := h ▸ k
theorem xj_stk {st2 : List Value} (h : st = st2) (k : xj_X E G Q cs sl pc L st2 w) : xj_X E G Q cs sl pc L st w := h ▸ k
theorem xj_loc {L2 : List (Option Value)} (h : L = L2) (k : xj_X E G Q cs sl pc L2 st w) : xj_X E G Q cs sl pc L st w := h ▸ k

theorem xj_iconst (C : xj_C E G cc own nL d q c0 s0 ret) {n : Int} {v : Int32} (a : xj_At cc pc (.iconst n) 1 nx) (hv : Int32.ofInt n = v) (k : xj_X E G Q cs sl nx L (.int v :: st) w) : xj_X E G Q cs sl pc L (st) w := by
  obtain ⟨hd, hn⟩ := a
  subst hn
  exact fun ls H locs h1 h2 h3 h4 => lv_iconst C.1 C.2.1 hd hv (k ls H locs h1 h2 h3 h4)
theorem xj_bipush (C : xj_C E G cc own nL d q c0 s0 ret) {n : Int} {v : Int32} (a : xj_At cc pc (.bipush n) 2 nx) (hv : (Int8.ofInt n).toInt32 = v) (k : xj_X E G Q cs sl nx L (.int v :: st) w) : xj_X E G Q cs sl pc L (st) w := by
  obtain ⟨hd, hn⟩ := a
  subst hn
  exact fun ls H locs h1 h2 h3 h4 => lv_bipush C.1 C.2.1 hd hv (k ls H locs h1 h2 h3 h4)
theorem xj_sipush (C : xj_C E G cc own nL d q c0 s0 ret) {n : Int} {v : Int32} (a : xj_At cc pc (.sipush n) 3 nx) (hv : (Int16.ofInt n).toInt32 = v) (k : xj_X E G Q cs sl nx L (.int v :: st) w) : xj_X E G Q cs sl pc L (st) w := by
  obtain ⟨hd, hn⟩ := a
  subst hn
  exact fun ls H locs h1 h2 h3 h4 => lv_sipush C.1 C.2.1 hd hv (k ls H locs h1 h2 h3 h4)
theorem xj_lconst (C : xj_C E G cc own nL d q c0 s0 ret) {n : Fin 2} {v : Int64} (a : xj_At cc pc (.lconst n) 1 nx) (hv : Int64.ofNat (n : Nat) = v) (k : xj_X E G Q cs sl nx L (.long v :: st) w) : xj_X E G Q cs sl pc L (st) w := by
  obtain ⟨hd, hn⟩ := a
  subst hn
  exact fun ls H locs h1 h2 h3 h4 => lv_lconst C.1 C.2.1 hd hv (k ls H locs h1 h2 h3 h4)
theorem xj_iload_n (C : xj_C E G cc own nL d q c0 s0 ret) {n : Fin 4} {x : Int32} (a : xj_At cc pc (.iload_n n) 1 nx) (hx : L[(n : Nat)]? = some (some (.int x))) (k : xj_X E G Q cs sl nx L (.int x :: st) w) : xj_X E G Q cs sl pc L st w := by
  obtain ⟨hd, hn⟩ := a
  subst hn
  exact fun ls H locs h1 h2 h3 h4 => lv_iload_n C.1 C.2.1 hd rfl (h1.2.2 _ _ hx) (k ls H locs h1 h2 h3 h4)
theorem xj_iload (C : xj_C E G cc own nL d q c0 s0 ret) {n : Nat} {x : Int32} (a : xj_At cc pc (.iload n) 2 nx) (hx : L[n]? = some (some (.int x))) (k : xj_X E G Q cs sl nx L (.int x :: st) w) : xj_X E G Q cs sl pc L st w := by
  obtain ⟨hd, hn⟩ := a
  subst hn
  exact fun ls H locs h1 h2 h3 h4 => lv_iload C.1 C.2.1 hd (h1.2.2 _ _ hx) (k ls H locs h1 h2 h3 h4)
theorem xj_lload_n (C : xj_C E G cc own nL d q c0 s0 ret) {n : Fin 4} {x : Int64} (a : xj_At cc pc (.lload_n n) 1 nx) (hx : L[(n : Nat)]? = some (some (.long x))) (k : xj_X E G Q cs sl nx L (.long x :: st) w) : xj_X E G Q cs sl pc L st w := by
  obtain ⟨hd, hn⟩ := a
  subst hn
  exact fun ls H locs h1 h2 h3 h4 => lv_lload_n C.1 C.2.1 hd rfl (h1.2.2 _ _ hx) (k ls H locs h1 h2 h3 h4)
theorem xj_lload (C : xj_C E G cc own nL d q c0 s0 ret) {n : Nat} {x : Int64} (a : xj_At cc pc (.lload n) 2 nx) (hx : L[n]? = some (some (.long x))) (k : xj_X E G Q cs sl nx L (.long x :: st) w) : xj_X E G Q cs sl pc L st w := by
  obtain ⟨hd, hn⟩ := a
  subst hn
  exact fun ls H locs h1 h2 h3 h4 => lv_lload C.1 C.2.1 hd (h1.2.2 _ _ hx) (k ls H locs h1 h2 h3 h4)
theorem xj_aload_n (C : xj_C E G cc own nL d q c0 s0 ret) {n : Fin 4} {x : Nat} (a : xj_At cc pc (.aload_n n) 1 nx) (hx : L[(n : Nat)]? = some (some (.ref x))) (k : xj_X E G Q cs sl nx L (.ref x :: st) w) : xj_X E G Q cs sl pc L st w := by
  obtain ⟨hd, hn⟩ := a
  subst hn
  exact fun ls H locs h1 h2 h3 h4 => lv_aload_n C.1 C.2.1 hd rfl (h1.2.2 _ _ hx) (k ls H locs h1 h2 h3 h4)
theorem xj_aload (C : xj_C E G cc own nL d q c0 s0 ret) {n : Nat} {x : Nat} (a : xj_At cc pc (.aload n) 2 nx) (hx : L[n]? = some (some (.ref x))) (k : xj_X E G Q cs sl nx L (.ref x :: st) w) : xj_X E G Q cs sl pc L st w := by
  obtain ⟨hd, hn⟩ := a
  subst hn
  exact fun ls H locs h1 h2 h3 h4 => lv_aload C.1 C.2.1 hd (h1.2.2 _ _ hx) (k ls H locs h1 h2 h3 h4)
theorem xj_istoreG_n (C : xj_C E G cc own nL d q c0 s0 ret) {n : Fin 4} {x : Int32} (a : xj_At cc pc (.istore_n n) 1 nx) (hi : (n : Nat) < L.length) (hp : xj_pv L (n : Nat) = true) (k : xj_X E G Q cs sl nx (L.set (n : Nat) (some (.int x))) st w) : xj_X E G Q cs sl pc L (.int x :: st) w := by
  obtain ⟨hd, hn⟩ := a
  subst hn
  intro ls H locs h1 h2 h3 h4
  obtain ⟨ls', e', h'⟩ := xj_store1 (v := .int x) h1 hi rfl hp
  intro T hT X
  obtain ⟨t, a, b⟩ := k ls' H locs h' h2 h3 h4 T hT X
  refine ⟨t, ?_, b⟩
  have hb := C.2.1
  have hexec := C.1
  jvm_step X.here [X.here.top, ↓top_set X.here.top, hexec, hb, hd, e']
  exact a
theorem xj_istoreG (C : xj_C E G cc own nL d q c0 s0 ret) {n : Nat} {x : Int32} (a : xj_At cc pc (.istore n) 2 nx) (hi : n < L.length) (hp : xj_pv L n = true) (k : xj_X E G Q cs sl nx (L.set n (some (.int x))) st w) : xj_X E G Q cs sl pc L (.int x :: st) w := by
  obtain ⟨hd, hn⟩ := a
  subst hn
  intro ls H locs h1 h2 h3 h4
  obtain ⟨ls', e', h'⟩ := xj_store1 (v := .int x) h1 hi rfl hp
  intro T hT X
  obtain ⟨t, a, b⟩ := k ls' H locs h' h2 h3 h4 T hT X
  refine ⟨t, ?_, b⟩
  have hb := C.2.1
  have hexec := C.1
  jvm_step X.here [X.here.top, ↓top_set X.here.top, hexec, hb, hd, e']
  exact a
theorem xj_lstoreG_n (C : xj_C E G cc own nL d q c0 s0 ret) {n : Fin 4} {x : Int64} (a : xj_At cc pc (.lstore_n n) 1 nx) (hi : (n : Nat) + 1 < L.length) (hp : xj_pv L (n : Nat) = true) (k : xj_X E G Q cs sl nx ((L.set (n : Nat) (some (.long x))).set ((n : Nat) + 1) none) st w) : xj_X E G Q cs sl pc L (.long x :: st) w := by
  obtain ⟨hd, hn⟩ := a
  subst hn
  intro ls H locs h1 h2 h3 h4
  obtain ⟨ls', e', h'⟩ := xj_store2 (v := .long x) h1 hi rfl hp
  intro T hT X
  obtain ⟨t, a, b⟩ := k ls' H locs h' h2 h3 h4 T hT X
  refine ⟨t, ?_, b⟩
  have hb := C.2.1
  have hexec := C.1
  jvm_step X.here [X.here.top, ↓top_set X.here.top, hexec, hb, hd, e']
  exact a
theorem xj_lstoreG (C : xj_C E G cc own nL d q c0 s0 ret) {n : Nat} {x : Int64} (a : xj_At cc pc (.lstore n) 2 nx) (hi : n + 1 < L.length) (hp : xj_pv L n = true) (k : xj_X E G Q cs sl nx ((L.set n (some (.long x))).set (n + 1) none) st w) : xj_X E G Q cs sl pc L (.long x :: st) w := by
  obtain ⟨hd, hn⟩ := a
  subst hn
  intro ls H locs h1 h2 h3 h4
  obtain ⟨ls', e', h'⟩ := xj_store2 (v := .long x) h1 hi rfl hp
  intro T hT X
  obtain ⟨t, a, b⟩ := k ls' H locs h' h2 h3 h4 T hT X
  refine ⟨t, ?_, b⟩
  have hb := C.2.1
  have hexec := C.1
  jvm_step X.here [X.here.top, ↓top_set X.here.top, hexec, hb, hd, e']
  exact a
theorem xj_astoreG_n (C : xj_C E G cc own nL d q c0 s0 ret) {n : Fin 4} {x : Nat} (a : xj_At cc pc (.astore_n n) 1 nx) (hi : (n : Nat) < L.length) (hp : xj_pv L (n : Nat) = true) (k : xj_X E G Q cs sl nx (L.set (n : Nat) (some (.ref x))) st w) : xj_X E G Q cs sl pc L (.ref x :: st) w := by
  obtain ⟨hd, hn⟩ := a
  subst hn
  intro ls H locs h1 h2 h3 h4
  obtain ⟨ls', e', h'⟩ := xj_store1 (v := .ref x) h1 hi rfl hp
  intro T hT X
  obtain ⟨t, a, b⟩ := k ls' H locs h' h2 h3 h4 T hT X
  refine ⟨t, ?_, b⟩
  have hb := C.2.1
  have hexec := C.1
  jvm_step X.here [X.here.top, ↓top_set X.here.top, hexec, hb, hd, e', Value.isRef]
  exact a
theorem xj_astoreG (C : xj_C E G cc own nL d q c0 s0 ret) {n : Nat} {x : Nat} (a : xj_At cc pc (.astore n) 2 nx) (hi : n < L.length) (hp : xj_pv L n = true) (k : xj_X E G Q cs sl nx (L.set n (some (.ref x))) st w) : xj_X E G Q cs sl pc L (.ref x :: st) w := by
  obtain ⟨hd, hn⟩ := a
  subst hn
  intro ls H locs h1 h2 h3 h4
  obtain ⟨ls', e', h'⟩ := xj_store1 (v := .ref x) h1 hi rfl hp
  intro T hT X
  obtain ⟨t, a, b⟩ := k ls' H locs h' h2 h3 h4 T hT X
  refine ⟨t, ?_, b⟩
  have hb := C.2.1
  have hexec := C.1
  jvm_step X.here [X.here.top, ↓top_set X.here.top, hexec, hb, hd, e', Value.isRef]
  exact a
theorem xj_iincG (C : xj_C E G cc own nL d q c0 s0 ret) {n : Nat} {z : Int} {x v : Int32} (a : xj_At cc pc (.iinc n z) 3 nx) (hx : L[n]? = some (some (.int x))) (hv : Int32.ofInt z = v) (hp : xj_pv L n = true) (k : xj_X E G Q cs sl nx (L.set n (some (.int (x + v)))) st w) : xj_X E G Q cs sl pc L st w := by
  obtain ⟨hd, hn⟩ := a
  subst hn
  subst hv
  intro ls H locs h1 h2 h3 h4
  have hi : n < L.length := (List.getElem?_eq_some_iff.mp hx).1
  have hg := h1.2.2 _ _ hx
  obtain ⟨ls', e', h'⟩ := xj_store1 (v := .int (x + Int32.ofInt z)) h1 hi rfl hp
  intro T hT X
  obtain ⟨t, a, b⟩ := k ls' H locs h' h2 h3 h4 T hT X
  refine ⟨t, ?_, b⟩
  have hb := C.2.1
  have hexec := C.1
  jvm_step X.here [X.here.top, ↓top_set X.here.top, hexec, hb, hd, hg, e']
  exact a
theorem xj_iadd (C : xj_C E G cc own nL d q c0 s0 ret) {x y : Int32} (a : xj_At cc pc (.iadd) 1 nx)  (k : xj_X E G Q cs sl nx L (.int (x + y) :: st) w) : xj_X E G Q cs sl pc L (.int y :: .int x :: st) w := by
  obtain ⟨hd, hn⟩ := a
  subst hn
  exact fun ls H locs h1 h2 h3 h4 => lv_iadd C.1 C.2.1 hd  (k ls H locs h1 h2 h3 h4)
theorem xj_isub (C : xj_C E G cc own nL d q c0 s0 ret) {x y : Int32} (a : xj_At cc pc (.isub) 1 nx)  (k : xj_X E G Q cs sl nx L (.int (x - y) :: st) w) : xj_X E G Q cs sl pc L (.int y :: .int x :: st) w := by
  obtain ⟨hd, hn⟩ := a
  subst hn
  exact fun ls H locs h1 h2 h3 h4 => lv_isub C.1 C.2.1 hd  (k ls H locs h1 h2 h3 h4)
theorem xj_imul (C : xj_C E G cc own nL d q c0 s0 ret) {x y : Int32} (a : xj_At cc pc (.imul) 1 nx)  (k : xj_X E G Q cs sl nx L (.int (x * y) :: st) w) : xj_X E G Q cs sl pc L (.int y :: .int x :: st) w := by
  obtain ⟨hd, hn⟩ := a
  subst hn
  exact fun ls H locs h1 h2 h3 h4 => lv_imul C.1 C.2.1 hd  (k ls H locs h1 h2 h3 h4)
theorem xj_iand (C : xj_C E G cc own nL d q c0 s0 ret) {x y : Int32} (a : xj_At cc pc (.iand) 1 nx)  (k : xj_X E G Q cs sl nx L (.int (x &&& y) :: st) w) : xj_X E G Q cs sl pc L (.int y :: .int x :: st) w := by
  obtain ⟨hd, hn⟩ := a
  subst hn
  exact fun ls H locs h1 h2 h3 h4 => lv_iand C.1 C.2.1 hd  (k ls H locs h1 h2 h3 h4)
theorem xj_ior (C : xj_C E G cc own nL d q c0 s0 ret) {x y : Int32} (a : xj_At cc pc (.ior) 1 nx)  (k : xj_X E G Q cs sl nx L (.int (x ||| y) :: st) w) : xj_X E G Q cs sl pc L (.int y :: .int x :: st) w := by
  obtain ⟨hd, hn⟩ := a
  subst hn
  exact fun ls H locs h1 h2 h3 h4 => lv_ior C.1 C.2.1 hd  (k ls H locs h1 h2 h3 h4)
theorem xj_ixor (C : xj_C E G cc own nL d q c0 s0 ret) {x y : Int32} (a : xj_At cc pc (.ixor) 1 nx)  (k : xj_X E G Q cs sl nx L (.int (x ^^^ y) :: st) w) : xj_X E G Q cs sl pc L (.int y :: .int x :: st) w := by
  obtain ⟨hd, hn⟩ := a
  subst hn
  exact fun ls H locs h1 h2 h3 h4 => lv_ixor C.1 C.2.1 hd  (k ls H locs h1 h2 h3 h4)
theorem xj_idiv (C : xj_C E G cc own nL d q c0 s0 ret) {x y : Int32} (a : xj_At cc pc (.idiv) 1 nx) (hne : ¬ y = 0) (k : xj_X E G Q cs sl nx L (.int (x / y) :: st) w) : xj_X E G Q cs sl pc L (.int y :: .int x :: st) w := by
  obtain ⟨hd, hn⟩ := a
  subst hn
  exact fun ls H locs h1 h2 h3 h4 => lv_idiv C.1 C.2.1 hd hne (k ls H locs h1 h2 h3 h4)
theorem xj_irem (C : xj_C E G cc own nL d q c0 s0 ret) {x y : Int32} (a : xj_At cc pc (.irem) 1 nx) (hne : ¬ y = 0) (k : xj_X E G Q cs sl nx L (.int (x - x / y * y) :: st) w) : xj_X E G Q cs sl pc L (.int y :: .int x :: st) w := by
  obtain ⟨hd, hn⟩ := a
  subst hn
  exact fun ls H locs h1 h2 h3 h4 => lv_irem C.1 C.2.1 hd hne (k ls H locs h1 h2 h3 h4)
theorem xj_ladd (C : xj_C E G cc own nL d q c0 s0 ret) {x y : Int64} (a : xj_At cc pc (.ladd) 1 nx)  (k : xj_X E G Q cs sl nx L (.long (x + y) :: st) w) : xj_X E G Q cs sl pc L (.long y :: .long x :: st) w := by
  obtain ⟨hd, hn⟩ := a
  subst hn
  exact fun ls H locs h1 h2 h3 h4 => lv_ladd C.1 C.2.1 hd  (k ls H locs h1 h2 h3 h4)
theorem xj_lsub (C : xj_C E G cc own nL d q c0 s0 ret) {x y : Int64} (a : xj_At cc pc (.lsub) 1 nx)  (k : xj_X E G Q cs sl nx L (.long (x - y) :: st) w) : xj_X E G Q cs sl pc L (.long y :: .long x :: st) w := by
  obtain ⟨hd, hn⟩ := a
  subst hn
  exact fun ls H locs h1 h2 h3 h4 => lv_lsub C.1 C.2.1 hd  (k ls H locs h1 h2 h3 h4)
theorem xj_land (C : xj_C E G cc own nL d q c0 s0 ret) {x y : Int64} (a : xj_At cc pc (.land) 1 nx)  (k : xj_X E G Q cs sl nx L (.long (x &&& y) :: st) w) : xj_X E G Q cs sl pc L (.long y :: .long x :: st) w := by
  obtain ⟨hd, hn⟩ := a
  subst hn
  exact fun ls H locs h1 h2 h3 h4 => lv_land C.1 C.2.1 hd  (k ls H locs h1 h2 h3 h4)
theorem xj_lor (C : xj_C E G cc own nL d q c0 s0 ret) {x y : Int64} (a : xj_At cc pc (.lor) 1 nx)  (k : xj_X E G Q cs sl nx L (.long (x ||| y) :: st) w) : xj_X E G Q cs sl pc L (.long y :: .long x :: st) w := by
  obtain ⟨hd, hn⟩ := a
  subst hn
  exact fun ls H locs h1 h2 h3 h4 => lv_lor C.1 C.2.1 hd  (k ls H locs h1 h2 h3 h4)
theorem xj_lxor (C : xj_C E G cc own nL d q c0 s0 ret) {x y : Int64} (a : xj_At cc pc (.lxor) 1 nx)  (k : xj_X E G Q cs sl nx L (.long (x ^^^ y) :: st) w) : xj_X E G Q cs sl pc L (.long y :: .long x :: st) w := by
  obtain ⟨hd, hn⟩ := a
  subst hn
  exact fun ls H locs h1 h2 h3 h4 => lv_lxor C.1 C.2.1 hd  (k ls H locs h1 h2 h3 h4)
theorem xj_ishl (C : xj_C E G cc own nL d q c0 s0 ret) {x y : Int32} (a : xj_At cc pc (.ishl) 1 nx)  (k : xj_X E G Q cs sl nx L (.int (x <<< (y &&& 31)) :: st) w) : xj_X E G Q cs sl pc L (.int y :: .int x :: st) w := by
  obtain ⟨hd, hn⟩ := a
  subst hn
  exact fun ls H locs h1 h2 h3 h4 => lv_ishl C.1 C.2.1 hd  (k ls H locs h1 h2 h3 h4)
theorem xj_ishr (C : xj_C E G cc own nL d q c0 s0 ret) {x y : Int32} (a : xj_At cc pc (.ishr) 1 nx)  (k : xj_X E G Q cs sl nx L (.int (x >>> (y &&& 31)) :: st) w) : xj_X E G Q cs sl pc L (.int y :: .int x :: st) w := by
  obtain ⟨hd, hn⟩ := a
  subst hn
  exact fun ls H locs h1 h2 h3 h4 => lv_ishr C.1 C.2.1 hd  (k ls H locs h1 h2 h3 h4)
theorem xj_iushr (C : xj_C E G cc own nL d q c0 s0 ret) {x y : Int32} (a : xj_At cc pc (.iushr) 1 nx)  (k : xj_X E G Q cs sl nx L (.int (x.toUInt32 >>> (y.toUInt32 &&& Int32.toUInt32 31)).toInt32 :: st) w) : xj_X E G Q cs sl pc L (.int y :: .int x :: st) w := by
  obtain ⟨hd, hn⟩ := a
  subst hn
  exact fun ls H locs h1 h2 h3 h4 => lv_iushr C.1 C.2.1 hd rfl (k ls H locs h1 h2 h3 h4)
theorem xj_lushr (C : xj_C E G cc own nL d q c0 s0 ret) {x : Int64} {y : Int32} (a : xj_At cc pc (.lushr) 1 nx)  (k : xj_X E G Q cs sl nx L (.long (x.toUInt64 >>> (y.toInt64.toUInt64 &&& Int64.toUInt64 63)).toInt64 :: st) w) : xj_X E G Q cs sl pc L (.int y :: .long x :: st) w := by
  obtain ⟨hd, hn⟩ := a
  subst hn
  exact fun ls H locs h1 h2 h3 h4 => lv_lushr C.1 C.2.1 hd rfl (k ls H locs h1 h2 h3 h4)
theorem xj_lshl (C : xj_C E G cc own nL d q c0 s0 ret) {x : Int64} {y : Int32} (a : xj_At cc pc (.lshl) 1 nx)  (k : xj_X E G Q cs sl nx L (.long (x <<< (y.toInt64 &&& 63)) :: st) w) : xj_X E G Q cs sl pc L (.int y :: .long x :: st) w := by
  obtain ⟨hd, hn⟩ := a
  subst hn
  exact fun ls H locs h1 h2 h3 h4 => lv_lshl C.1 C.2.1 hd rfl (k ls H locs h1 h2 h3 h4)
theorem xj_lshr (C : xj_C E G cc own nL d q c0 s0 ret) {x : Int64} {y : Int32} (a : xj_At cc pc (.lshr) 1 nx)  (k : xj_X E G Q cs sl nx L (.long (x >>> (y.toInt64 &&& 63)) :: st) w) : xj_X E G Q cs sl pc L (.int y :: .long x :: st) w := by
  obtain ⟨hd, hn⟩ := a
  subst hn
  exact fun ls H locs h1 h2 h3 h4 => lv_lshr C.1 C.2.1 hd rfl (k ls H locs h1 h2 h3 h4)
theorem xj_i2l (C : xj_C E G cc own nL d q c0 s0 ret) {x : Int32} (a : xj_At cc pc (.i2l) 1 nx)  (k : xj_X E G Q cs sl nx L (.long x.toInt64 :: st) w) : xj_X E G Q cs sl pc L (.int x :: st) w := by
  obtain ⟨hd, hn⟩ := a
  subst hn
  exact fun ls H locs h1 h2 h3 h4 => lv_i2l C.1 C.2.1 hd rfl (k ls H locs h1 h2 h3 h4)
theorem xj_l2i (C : xj_C E G cc own nL d q c0 s0 ret) {x : Int64} (a : xj_At cc pc (.l2i) 1 nx)  (k : xj_X E G Q cs sl nx L (.int x.toInt32 :: st) w) : xj_X E G Q cs sl pc L (.long x :: st) w := by
  obtain ⟨hd, hn⟩ := a
  subst hn
  exact fun ls H locs h1 h2 h3 h4 => lv_l2i C.1 C.2.1 hd rfl (k ls H locs h1 h2 h3 h4)
theorem xj_lcmp (C : xj_C E G cc own nL d q c0 s0 ret) {x y : Int64} (a : xj_At cc pc (.lcmp) 1 nx)  (k : xj_X E G Q cs sl nx L (.int (lg_cmp x y) :: st) w) : xj_X E G Q cs sl pc L (.long y :: .long x :: st) w := by
  obtain ⟨hd, hn⟩ := a
  subst hn
  exact fun ls H locs h1 h2 h3 h4 => W.lcmp C.1 C.2.1 hd  (k ls H locs h1 h2 h3 h4)
theorem xj_dup (C : xj_C E G cc own nL d q c0 s0 ret) {v : Value} (a : xj_At cc pc (.dup) 1 nx) (hv : v.category = 1) (k : xj_X E G Q cs sl nx L (v :: v :: st) w) : xj_X E G Q cs sl pc L (v :: st) w := by
  obtain ⟨hd, hn⟩ := a
  subst hn
  exact fun ls H locs h1 h2 h3 h4 => lv_dup C.1 C.2.1 hd hv (k ls H locs h1 h2 h3 h4)
theorem xj_pop (C : xj_C E G cc own nL d q c0 s0 ret) {v : Value} (a : xj_At cc pc (.pop) 1 nx) (hv : v.category = 1) (k : xj_X E G Q cs sl nx L (st) w) : xj_X E G Q cs sl pc L (v :: st) w := by
  obtain ⟨hd, hn⟩ := a
  subst hn
  exact fun ls H locs h1 h2 h3 h4 => lv_pop C.1 C.2.1 hd hv (k ls H locs h1 h2 h3 h4)
theorem xj_dup2 (C : xj_C E G cc own nL d q c0 s0 ret) {v v2 : Value} (a : xj_At cc pc .dup2 1 nx) (hv : v.category = 1) (hv2 : v2.category = 1) (k : xj_X E G Q cs sl nx L (v :: v2 :: v :: v2 :: st) w) : xj_X E G Q cs sl pc L (v :: v2 :: st) w := by
  obtain ⟨hd, hn⟩ := a
  subst hn
  exact fun ls H locs h1 h2 h3 h4 => lv_dup2_11 C.1 C.2.1 hd hv hv2 (k ls H locs h1 h2 h3 h4)
theorem xj_dup_x1 (C : xj_C E G cc own nL d q c0 s0 ret) {v v2 : Value} (a : xj_At cc pc .dup_x1 1 nx) (hv : v.category = 1) (hv2 : v2.category = 1) (k : xj_X E G Q cs sl nx L (v :: v2 :: v :: st) w) : xj_X E G Q cs sl pc L (v :: v2 :: st) w := by
  obtain ⟨hd, hn⟩ := a
  subst hn
  exact fun ls H locs h1 h2 h3 h4 => lv_dup_x1 C.1 C.2.1 hd hv hv2 (k ls H locs h1 h2 h3 h4)
theorem xj_if_eq (C : xj_C E G cc own nL d q c0 s0 ret) {x : Int32} {off : Int} {tgt : Nat} (a : xj_At cc pc (.ifCond .eq off) 3 nx) (ht : (pc : Int) + off = (tgt : Int)) (kt : x = 0 → xj_X E G Q cs sl tgt L st w) (kf : ¬ (x = 0) → xj_X E G Q cs sl nx L st w) : xj_X E G Q cs sl pc L (.int x :: st) w := by
  obtain ⟨hd, hn⟩ := a
  subst hn
  exact fun ls H locs h1 h2 h3 h4 => lv_if_eq C.1 C.2.1 hd ht (fun h => kt h ls H locs h1 h2 h3 h4) (fun h => kf h ls H locs h1 h2 h3 h4)
theorem xj_icmp_eq (C : xj_C E G cc own nL d q c0 s0 ret) {x y : Int32} {off : Int} {tgt : Nat} (a : xj_At cc pc (.if_icmp .eq off) 3 nx) (ht : (pc : Int) + off = (tgt : Int)) (kt : x = y → xj_X E G Q cs sl tgt L st w) (kf : ¬ (x = y) → xj_X E G Q cs sl nx L st w) : xj_X E G Q cs sl pc L (.int y :: .int x :: st) w := by
  obtain ⟨hd, hn⟩ := a
  subst hn
  exact fun ls H locs h1 h2 h3 h4 => lv_icmp_eq C.1 C.2.1 hd ht (fun h => kt h ls H locs h1 h2 h3 h4) (fun h => kf h ls H locs h1 h2 h3 h4)
theorem xj_if_ne (C : xj_C E G cc own nL d q c0 s0 ret) {x : Int32} {off : Int} {tgt : Nat} (a : xj_At cc pc (.ifCond .ne off) 3 nx) (ht : (pc : Int) + off = (tgt : Int)) (kt : ¬ x = 0 → xj_X E G Q cs sl tgt L st w) (kf : x = 0 → xj_X E G Q cs sl nx L st w) : xj_X E G Q cs sl pc L (.int x :: st) w := by
  obtain ⟨hd, hn⟩ := a
  subst hn
  exact fun ls H locs h1 h2 h3 h4 => lv_if_ne C.1 C.2.1 hd ht (fun h => kt h ls H locs h1 h2 h3 h4) (fun h => kf h ls H locs h1 h2 h3 h4)
theorem xj_icmp_ne (C : xj_C E G cc own nL d q c0 s0 ret) {x y : Int32} {off : Int} {tgt : Nat} (a : xj_At cc pc (.if_icmp .ne off) 3 nx) (ht : (pc : Int) + off = (tgt : Int)) (kt : ¬ x = y → xj_X E G Q cs sl tgt L st w) (kf : x = y → xj_X E G Q cs sl nx L st w) : xj_X E G Q cs sl pc L (.int y :: .int x :: st) w := by
  obtain ⟨hd, hn⟩ := a
  subst hn
  exact fun ls H locs h1 h2 h3 h4 => lv_icmp_ne C.1 C.2.1 hd ht (fun h => kt h ls H locs h1 h2 h3 h4) (fun h => kf h ls H locs h1 h2 h3 h4)
theorem xj_if_lt (C : xj_C E G cc own nL d q c0 s0 ret) {x : Int32} {off : Int} {tgt : Nat} (a : xj_At cc pc (.ifCond .lt off) 3 nx) (ht : (pc : Int) + off = (tgt : Int)) (kt : x < 0 → xj_X E G Q cs sl tgt L st w) (kf : ¬ (x < 0) → xj_X E G Q cs sl nx L st w) : xj_X E G Q cs sl pc L (.int x :: st) w := by
  obtain ⟨hd, hn⟩ := a
  subst hn
  exact fun ls H locs h1 h2 h3 h4 => lv_if_lt C.1 C.2.1 hd ht (fun h => kt h ls H locs h1 h2 h3 h4) (fun h => kf h ls H locs h1 h2 h3 h4)
theorem xj_icmp_lt (C : xj_C E G cc own nL d q c0 s0 ret) {x y : Int32} {off : Int} {tgt : Nat} (a : xj_At cc pc (.if_icmp .lt off) 3 nx) (ht : (pc : Int) + off = (tgt : Int)) (kt : x < y → xj_X E G Q cs sl tgt L st w) (kf : ¬ (x < y) → xj_X E G Q cs sl nx L st w) : xj_X E G Q cs sl pc L (.int y :: .int x :: st) w := by
  obtain ⟨hd, hn⟩ := a
  subst hn
  exact fun ls H locs h1 h2 h3 h4 => lv_icmp_lt C.1 C.2.1 hd ht (fun h => kt h ls H locs h1 h2 h3 h4) (fun h => kf h ls H locs h1 h2 h3 h4)
theorem xj_if_ge (C : xj_C E G cc own nL d q c0 s0 ret) {x : Int32} {off : Int} {tgt : Nat} (a : xj_At cc pc (.ifCond .ge off) 3 nx) (ht : (pc : Int) + off = (tgt : Int)) (kt : 0 ≤ x → xj_X E G Q cs sl tgt L st w) (kf : ¬ (0 ≤ x) → xj_X E G Q cs sl nx L st w) : xj_X E G Q cs sl pc L (.int x :: st) w := by
  obtain ⟨hd, hn⟩ := a
  subst hn
  exact fun ls H locs h1 h2 h3 h4 => lv_if_ge C.1 C.2.1 hd ht (fun h => kt h ls H locs h1 h2 h3 h4) (fun h => kf h ls H locs h1 h2 h3 h4)
theorem xj_icmp_ge (C : xj_C E G cc own nL d q c0 s0 ret) {x y : Int32} {off : Int} {tgt : Nat} (a : xj_At cc pc (.if_icmp .ge off) 3 nx) (ht : (pc : Int) + off = (tgt : Int)) (kt : y ≤ x → xj_X E G Q cs sl tgt L st w) (kf : ¬ (y ≤ x) → xj_X E G Q cs sl nx L st w) : xj_X E G Q cs sl pc L (.int y :: .int x :: st) w := by
  obtain ⟨hd, hn⟩ := a
  subst hn
  exact fun ls H locs h1 h2 h3 h4 => lv_icmp_ge C.1 C.2.1 hd ht (fun h => kt h ls H locs h1 h2 h3 h4) (fun h => kf h ls H locs h1 h2 h3 h4)
theorem xj_if_gt (C : xj_C E G cc own nL d q c0 s0 ret) {x : Int32} {off : Int} {tgt : Nat} (a : xj_At cc pc (.ifCond .gt off) 3 nx) (ht : (pc : Int) + off = (tgt : Int)) (kt : 0 < x → xj_X E G Q cs sl tgt L st w) (kf : ¬ (0 < x) → xj_X E G Q cs sl nx L st w) : xj_X E G Q cs sl pc L (.int x :: st) w := by
  obtain ⟨hd, hn⟩ := a
  subst hn
  exact fun ls H locs h1 h2 h3 h4 => lv_if_gt C.1 C.2.1 hd ht (fun h => kt h ls H locs h1 h2 h3 h4) (fun h => kf h ls H locs h1 h2 h3 h4)
theorem xj_icmp_gt (C : xj_C E G cc own nL d q c0 s0 ret) {x y : Int32} {off : Int} {tgt : Nat} (a : xj_At cc pc (.if_icmp .gt off) 3 nx) (ht : (pc : Int) + off = (tgt : Int)) (kt : y < x → xj_X E G Q cs sl tgt L st w) (kf : ¬ (y < x) → xj_X E G Q cs sl nx L st w) : xj_X E G Q cs sl pc L (.int y :: .int x :: st) w := by
  obtain ⟨hd, hn⟩ := a
  subst hn
  exact fun ls H locs h1 h2 h3 h4 => lv_icmp_gt C.1 C.2.1 hd ht (fun h => kt h ls H locs h1 h2 h3 h4) (fun h => kf h ls H locs h1 h2 h3 h4)
theorem xj_if_le (C : xj_C E G cc own nL d q c0 s0 ret) {x : Int32} {off : Int} {tgt : Nat} (a : xj_At cc pc (.ifCond .le off) 3 nx) (ht : (pc : Int) + off = (tgt : Int)) (kt : x ≤ 0 → xj_X E G Q cs sl tgt L st w) (kf : ¬ (x ≤ 0) → xj_X E G Q cs sl nx L st w) : xj_X E G Q cs sl pc L (.int x :: st) w := by
  obtain ⟨hd, hn⟩ := a
  subst hn
  exact fun ls H locs h1 h2 h3 h4 => lv_if_le C.1 C.2.1 hd ht (fun h => kt h ls H locs h1 h2 h3 h4) (fun h => kf h ls H locs h1 h2 h3 h4)
theorem xj_icmp_le (C : xj_C E G cc own nL d q c0 s0 ret) {x y : Int32} {off : Int} {tgt : Nat} (a : xj_At cc pc (.if_icmp .le off) 3 nx) (ht : (pc : Int) + off = (tgt : Int)) (kt : x ≤ y → xj_X E G Q cs sl tgt L st w) (kf : ¬ (x ≤ y) → xj_X E G Q cs sl nx L st w) : xj_X E G Q cs sl pc L (.int y :: .int x :: st) w := by
  obtain ⟨hd, hn⟩ := a
  subst hn
  exact fun ls H locs h1 h2 h3 h4 => lv_icmp_le C.1 C.2.1 hd ht (fun h => kt h ls H locs h1 h2 h3 h4) (fun h => kf h ls H locs h1 h2 h3 h4)
theorem xj_goto (C : xj_C E G cc own nL d q c0 s0 ret) {off : Int} {tgt : Nat} (a : xj_At cc pc (.goto off) 3 nx) (ht : (pc : Int) + off = (tgt : Int)) (k : xj_X E G Q cs sl tgt L st w) : xj_X E G Q cs sl pc L st w :=
  fun ls H locs h1 h2 h3 h4 => lv_goto C.1 C.2.1 a.1 ht (k ls H locs h1 h2 h3 h4)
theorem xj_tableOut (C : xj_C E G cc own nL d q c0 s0 ret) {dflt lo hi : Int} {offs : Array Int} {len : Nat} {x : Int32} {tgt : Nat} (hd : decode cc pc = .ok (.tableswitch dflt lo hi offs, len)) (h : x.toInt < lo ∨ hi < x.toInt) (ht : (pc : Int) + dflt = (tgt : Int)) (k : xj_X E G Q cs sl tgt L st w) : xj_X E G Q cs sl pc L (.int x :: st) w :=
  fun ls H locs h1 h2 h3 h4 => lv_tableOut C.1 C.2.1 hd h ht (k ls H locs h1 h2 h3 h4)
theorem xj_tableIn (C : xj_C E G cc own nL d q c0 s0 ret) {dflt lo hi : Int} {offs : Array Int} {len : Nat} {x : Int32} {off : Int} {tgt : Nat} (hd : decode cc pc = .ok (.tableswitch dflt lo hi offs, len)) (g1 : ¬ x.toInt < lo) (g2 : ¬ hi < x.toInt) (ho : offs[(x.toInt - lo).toNat]? = some off) (ht : (pc : Int) + off = (tgt : Int)) (k : xj_X E G Q cs sl tgt L st w) : xj_X E G Q cs sl pc L (.int x :: st) w :=
  fun ls H locs h1 h2 h3 h4 => lv_tableIn C.1 C.2.1 hd g1 g2 ho ht (k ls H locs h1 h2 h3 h4)
theorem xj_ldc (C : xj_C E G cc own nL d q c0 s0 ret) {index : Nat} {v : Int32} (a : xj_At cc pc (.ldc index) 2 nx) (hw : Cond.constant own index v ∈ xj_GW) (k : xj_X E G Q cs sl nx L (.int v :: st) w) : xj_X E G Q cs sl pc L st w := by
  obtain ⟨hd, hn⟩ := a
  subst hn
  exact fun ls H locs h1 h2 h3 h4 => lv_ldc C.1 C.2.1 C.2.2.2.1 (C.2.2.2.2.1 _ hw) hd (k ls H locs h1 h2 h3 h4)
theorem xj_ldc2 (C : xj_C E G cc own nL d q c0 s0 ret) {index : Nat} {v : Int64} (a : xj_At cc pc (.ldc2_w index) 3 nx) (hw : Cond.constantLong own index v ∈ xj_GW) (k : xj_X E G Q cs sl nx L (.long v :: st) w) : xj_X E G Q cs sl pc L st w := by
  obtain ⟨hd, hn⟩ := a
  subst hn
  exact fun ls H locs h1 h2 h3 h4 => lv_ldc2 C.1 C.2.1 C.2.2.2.1 (C.2.2.2.2.1 _ hw) hd (k ls H locs h1 h2 h3 h4)
/-- what the tables say of a class: its place in xj_cl, its words -/
def xj_CF (ci : Nat) (Cn : String) (T : u_T) (N : Nat) (ty0 : Nat → FieldType) : Prop := xj_cl[ci]? = some (Cn, T, N) ∧ (∀ v ∈ u_ws Cn T N, v ∈ xj_GW) ∧ (∀ k, k < N → parseFieldDescriptor (T k).2.2.1 = some (ty0 k)) ∧ (∀ a, a < N → ∀ b, b < N → a ≠ b → (T a).2.1 ≠ (T b).2.1)
/-- a field's link, of the class itself or of a nest mate -/
def xj_FL (own : String) (index : Nat) (ref name desc : String) : Prop := Cond.fieldLink own index ref name desc ∈ xj_GW ∨ ∃ host, Cond.fieldLinkNest own index ref name desc host ∈ xj_NW
theorem xj_obj {k r i : Nat} (hk : xj_knd k = 4) : xj_cell G w (k, r, i) = .inr (xj_cls k, (List.range (xj_len k)).map (fun x => xj_fv G w k r i x)) := by
  unfold xj_cell
  simp only [hk]
theorem xj_get (C : xj_C E G cc own nL d q c0 s0 ret) {index k r i x ci N : Nat} {Cn : String} {T : u_T} {ty0 : Nat → FieldType} (a : xj_At cc pc (.getfield index) 3 nx) (F : xj_CF ci Cn T N ty0) (hl : xj_FL own index (T x).1 (T x).2.1 (T x).2.2.1) (hk : xj_knd k = 4 ∧ xj_cls k = ci ∧ xj_len k = N) (hx : x < N) (hp : xj_ok (k, r, i) w.2.2) {v : Value} (hv : xj_fv G w k r i x = v) (kk : xj_X E G Q cs sl nx L (v :: st) w) : xj_X E G Q cs sl pc L (.ref (xj_ad G (k, r, i)) :: st) w := by
  obtain ⟨hd, hn⟩ := a
  subst hn
  obtain ⟨k1, k2, k3⟩ := hk
  intro ls H locs h1 h2 h3 h4
  have he := xj_at (G := G) hp
  rw [xj_obj k1, k2, k3] at he
  have hv' : ((List.range N).map (fun x => xj_fv G w k r i x))[x]? = some v := by simp [hx, hv]
  rcases hl with hl | ⟨host, hl⟩
  · exact va_get C.1 C.2.1 C.2.2.2.2.1 F.2.1 C.2.2.2.1 C.2.2.2.2.2.2.1 h3 (xj_ix (k, r, i)) he F.1 x hx (C.2.2.2.2.1 _ hl) (fun _ h9 => h9) hv' hd (kk ls H locs h1 h2 h3 h4)
  · exact va_getN C.1 C.2.1 C.2.2.2.2.1 F.2.1 C.2.2.2.1 C.2.2.2.2.2.2.1 h3 (xj_ix (k, r, i)) he F.1 x hx (va_Nw.use rfl (C.2.2.2.2.2.1 _ hl)) (fun _ h9 => h9) hv' hd (kk ls H locs h1 h2 h3 h4)
theorem xj_put (C : xj_C E G cc own nL d q c0 s0 ret) {index k r i x ci N : Nat} {Cn : String} {T : u_T} {ty0 : Nat → FieldType} (a : xj_At cc pc (.putfield index) 3 nx) (F : xj_CF ci Cn T N ty0) (hl : xj_FL own index (T x).1 (T x).2.1 (T x).2.2.1) (hk : xj_knd k = 4 ∧ xj_cls k = ci ∧ xj_len k = N) (hx : x < N) (hp : xj_ok (k, r, i) w.2.2) (hf : (T x).2.2.2 = false ∨ ((T x).2.2.2 = true ∧ (xj_me E).name = "<init>" ∧ (T x).1 = own ∧ Cond.fieldLink own index (T x).1 (T x).2.1 (T x).2.2.1 ∈ xj_GW)) {v : Value} (hn : narrow (ty0 x) v = v) (hft : fits (ty0 x) v = true) {w2 : xj_W} (hw : xj_cell G w2 (k, r, i) = .inr (xj_cls k, ((List.range (xj_len k)).map (fun x => xj_fv G w k r i x)).set x v)) (hz : w2.2.2 = w.2.2) (ho : ∀ p', p' ≠ (k, r, i) → xj_cell G w2 p' = xj_cell G w p') (kk : xj_X E G Q cs sl nx L st w2) : xj_X E G Q cs sl pc L (v :: .ref (xj_ad G (k, r, i)) :: st) w := by
  obtain ⟨hd, hn0⟩ := a
  subst hn0
  obtain ⟨k1, k2, k3⟩ := hk
  intro ls H locs h1 h2 h3 h4
  have he := xj_at (G := G) hp
  rw [xj_obj k1, k2, k3] at he
  rw [k2, k3] at hw
  have hs := xj_mk_set (G := G) hp hz ho
  rw [hw] at hs
  have hlen : x < ((List.range N).map (fun x => xj_fv G w k r i x)).length := by simpa using hx
  have hap := va_apart (own := own) C.2.2.2.2.1 F.2.1 ty0 F.2.2.1 F.2.2.2 C.2.2.2.2.2.2.1 F.1
  obtain ⟨r', g1, cell, q1, q2, q3, q4⟩ := h3 _ _ he
  have hr : r' = (Cn, T, N) := Option.some.inj (g1.symm.trans F.1)
  subst hr
  obtain ⟨hS, hfc, kC, hkC, hkind⟩ := C.2.2.2.2.2.2.1.1 ci _ F.1
  obtain ⟨cf, kf, fi, f, hi, hsl⟩ := hS x hx
  have hst := (u_facts hfc hkC (u_lays C.2.2.2.2.1 F.2.1 hx) hi).1
  have hlay := C.2.2.2.2.1 _ (F.2.1 _ (u_in_lay hx))
  unfold u_lay at hlay
  have fin : ∀ H' : Heap, H'[xj_ad G (k, r, i)]? = some (cell.setSlot f.slot v) → H'.size = H.size → (∀ q, q ≠ xj_ad G (k, r, i) → H'[q]? = H[q]?) → xj_V E H' (locs ++ [⟨xj_ad G (k, r, i), f.slot⟩]) cs sl Q (F0 (xj_m E) (pc + 3) ls st) := by
    intro H' e1 e2 e3
    rw [hsl] at e1 ⊢
    refine kk ls H' _ h1 (by rw [e2, h2, hz]) ?_ (h4.put e2 e3 ((xj_D G w).2 _ _ he))
    rw [← hs]
    exact h3.set (xj_D G w) he ⟨_, F.1, t_OB.to (V := updV (vp_V _) x v) ⟨_, e1, q2, q3, t_set q4 hap hx v⟩ (fun j _ => vp_updV_set hlen v j)⟩ e3
  rcases hf with hf | ⟨hf, hname, hdecl, hl2⟩
  · rw [if_neg (by rw [hf]; decide)] at hlay
    have h6 := u_store hfc hkC hkind hlay hi (F.2.2.1 x hx) hn hft
    rcases hl with hl | ⟨host, hl⟩
    · exact W.putK C.1 C.2.1 (f := f) ⟨C.2.2.2.1, C.2.2.2.2.1 _ hl, ⟨_, _, _, hi⟩, hst⟩ (by rw [q2]; exact h6) q1 q3 (by rw [hsl]; exact k2_hasslot (q4 x hx)) rfl rfl hd fin
    · exact va_WputK C.1 C.2.1 (f := f) C.2.2.2.1 (va_Nw.use rfl (C.2.2.2.2.2.1 _ hl)) hi hst (by rw [q2]; exact h6) q1 q3 (by rw [hsl]; exact k2_hasslot (q4 x hx)) rfl rfl hd fin
  · rw [if_pos hf] at hlay
    have hcf : (xj_m E).cls = cf := by
      obtain ⟨_, _, c', _, _, _, -, -, hf', -, -, -, hown2, -⟩ := Cond.laysFinal_spec hlay
      have e1 : c' = cf := by have := hi.symm.trans hf'; simp at this; exact this.1.symm
      rw [hdecl] at hown2
      rw [← e1]; exact Option.some.inj (C.2.2.2.1.symm.trans hown2)
    have h6 := u_fits hfc hkC hkind (Or.inr hlay) hi (F.2.2.1 x hx) hn hft
    exact W.putFinK C.1 C.2.1 C.2.2.2.1 (C.2.2.2.2.1 _ hl2) hi hst hcf hname (by rw [q2]; exact h6) q1 q3 (by rw [hsl]; exact k2_hasslot (q4 x hx)) rfl rfl hd fin
/-! arrays -/
theorem xj_arrI {k r i x : Nat} {v : Int32} (hk : xj_knd k = 0) : xj_cell G (xj_uI w k r i x v) (k, r, i) = .inl (G.2.1 0, xj_len k, .inl (upd (w.1.1 k r i) x v)) := by
  unfold xj_cell
  simp only [hk]
  congr 4
  funext y
  simp [xj_uI, upd]
theorem xj_arrZ {k r i x : Nat} {v : Int32} (hk : xj_knd k = 1) : xj_cell G (xj_uI w k r i x v) (k, r, i) = .inl (G.2.1 1, xj_len k, .inl (upd (w.1.1 k r i) x v)) := by
  unfold xj_cell
  simp only [hk]
  congr 4
  funext y
  simp [xj_uI, upd]
theorem xj_arrJ {k r i x : Nat} {v : Int64} (hk : xj_knd k = 2) : xj_cell G (xj_uJ w k r i x v) (k, r, i) = .inl (G.2.1 2, xj_len k, .inr (.inl (vp_updL (w.1.2 k r i) x v))) := by
  unfold xj_cell
  simp only [hk]
  congr 5
  funext y
  simp [xj_uJ, vp_updL]
theorem xj_iald (C : xj_C E G cc own nL d q c0 s0 ret) {k r i : Nat} {j : Int32} (a : xj_At cc pc .iaload 1 nx) (hk : xj_knd k = 0) (hp : xj_ok (k, r, i) w.2.2) (hj : vp_in j (xj_len k)) (kk : xj_X E G Q cs sl nx L (.int (w.1.1 k r i j.toNatClampNeg) :: st) w) : xj_X E G Q cs sl pc L (.int j :: .ref (xj_ad G (k, r, i)) :: st) w := by
  obtain ⟨hd, hn0⟩ := a
  subst hn0
  intro ls H locs h1 h2 h3 h4
  have he := xj_at (G := G) hp
  unfold xj_cell at he
  simp only [hk] at he
  exact va_iald C.1 C.2.1 C.2.2.2.2.2.2.1 h3 _ 0 he rfl hj hd (kk ls H locs h1 h2 h3 h4)
theorem xj_zald (C : xj_C E G cc own nL d q c0 s0 ret) {k r i : Nat} {j : Int32} (a : xj_At cc pc .baload 1 nx) (hk : xj_knd k = 1) (hp : xj_ok (k, r, i) w.2.2) (hj : vp_in j (xj_len k)) (kk : xj_X E G Q cs sl nx L (.int (w.1.1 k r i j.toNatClampNeg) :: st) w) : xj_X E G Q cs sl pc L (.int j :: .ref (xj_ad G (k, r, i)) :: st) w := by
  obtain ⟨hd, hn0⟩ := a
  subst hn0
  intro ls H locs h1 h2 h3 h4
  have he := xj_at (G := G) hp
  unfold xj_cell at he
  simp only [hk] at he
  exact va_zald C.1 C.2.1 C.2.2.2.2.2.2.1 h3 _ 1 he rfl hj hd (kk ls H locs h1 h2 h3 h4)
theorem xj_lald (C : xj_C E G cc own nL d q c0 s0 ret) {k r i : Nat} {j : Int32} (a : xj_At cc pc .laload 1 nx) (hk : xj_knd k = 2) (hp : xj_ok (k, r, i) w.2.2) (hj : vp_in j (xj_len k)) (kk : xj_X E G Q cs sl nx L (.long (w.1.2 k r i j.toNatClampNeg) :: st) w) : xj_X E G Q cs sl pc L (.int j :: .ref (xj_ad G (k, r, i)) :: st) w := by
  obtain ⟨hd, hn0⟩ := a
  subst hn0
  intro ls H locs h1 h2 h3 h4
  have he := xj_at (G := G) hp
  unfold xj_cell at he
  simp only [hk] at he
  exact va_lald C.1 C.2.1 C.2.2.2.2.2.2.1 h3 _ 2 he rfl hj hd (kk ls H locs h1 h2 h3 h4)
theorem xj_aald (C : xj_C E G cc own nL d q c0 s0 ret) {k r i t0 : Nat} {Cn : String} {j : Int32} {p2 : xj_Pl} (a : xj_At cc pc .aaload 1 nx) (hk : xj_knd k = 3 ∧ (xj_ty G)[t0]? = some (G.2.1 (xj_cls k), .object Cn)) (hp : xj_ok (k, r, i) w.2.2) (hj : vp_in j (xj_len k)) (hv : w.2.1 k r i j.toNatClampNeg = some p2) (kk : xj_X E G Q cs sl nx L (.ref (xj_ad G p2) :: st) w) : xj_X E G Q cs sl pc L (.int j :: .ref (xj_ad G (k, r, i)) :: st) w := by
  obtain ⟨hd, hn0⟩ := a
  subst hn0
  intro ls H locs h1 h2 h3 h4
  have he := xj_at (G := G) hp
  unfold xj_cell at he
  simp only [hk.1] at he
  refine va_aldq C.1 C.2.1 C.2.2.2.2.2.2.1 h3 _ t0 he hk.2 hj hd ?_
  simp only [hv]
  exact kk ls H locs h1 h2 h3 h4
theorem xj_iast (C : xj_C E G cc own nL d q c0 s0 ret) {k r i : Nat} {j x : Int32} (a : xj_At cc pc .iastore 1 nx) (hk : xj_knd k = 0) (hp : xj_ok (k, r, i) w.2.2) (hj : vp_in j (xj_len k)) (kk : xj_X E G Q cs sl nx L st (xj_uI w k r i j.toNatClampNeg x)) : xj_X E G Q cs sl pc L (.int x :: .int j :: .ref (xj_ad G (k, r, i)) :: st) w := by
  obtain ⟨hd, hn0⟩ := a
  subst hn0
  intro ls H locs h1 h2 h3 h4
  have he := xj_at (G := G) hp
  have hs := xj_mk_set (G := G) (w' := xj_uI w k r i j.toNatClampNeg x) hp rfl xj_uI_oth
  rw [xj_arrI hk] at hs
  unfold xj_cell at he
  simp only [hk] at he
  refine W.iast C.1 C.2.1 (h3 _ _ he) ((C.2.2.2.2.2.2.1.2 0 _ rfl).1 (xj_len k) (fun j => .int (w.1.1 k r i j))) (fun q => by cases q) (by show ¬ (j < 0 ∨ (arrV _ _ _).slots.size ≤ _); rw [arrV_size]; exact hj) rfl rfl hd fun H1 e z oq => ?_
  refine kk ls H1 _ h1 (by rw [z, h2]; rfl) ?_ (h4.put z oq ((xj_D G w).2 _ _ he))
  rw [← hs]
  refine h3.set (xj_D G w) he ?_ oq
  show H1[xj_ad G (k, r, i)]? = some (vp_cell _ _)
  rw [e]
  rw [vp_cell_i, vp_cell_i, arrV_store]
  congr 2
  funext q
  by_cases hq : q = j.toNatClampNeg
  · subst hq
    simp [updV, upd]
  · simp [updV, upd, hq]
theorem xj_zast (C : xj_C E G cc own nL d q c0 s0 ret) {k r i : Nat} {j x : Int32} (a : xj_At cc pc .bastore 1 nx) (hk : xj_knd k = 1) (hp : xj_ok (k, r, i) w.2.2) (hj : vp_in j (xj_len k)) (hx : narrow .boolean (.int x) = .int x) (kk : xj_X E G Q cs sl nx L st (xj_uI w k r i j.toNatClampNeg x)) : xj_X E G Q cs sl pc L (.int x :: .int j :: .ref (xj_ad G (k, r, i)) :: st) w := by
  obtain ⟨hd, hn0⟩ := a
  subst hn0
  intro ls H locs h1 h2 h3 h4
  have he := xj_at (G := G) hp
  have hs := xj_mk_set (G := G) (w' := xj_uI w k r i j.toNatClampNeg x) hp rfl xj_uI_oth
  rw [xj_arrZ hk] at hs
  unfold xj_cell at he
  simp only [hk] at he
  refine W.zast C.1 C.2.1 (h3 _ _ he) ((C.2.2.2.2.2.2.1.2 1 _ rfl).1 (xj_len k) (fun j => .int (w.1.1 k r i j))) (fun q => by cases q) (by show ¬ (j < 0 ∨ (arrV _ _ _).slots.size ≤ _); rw [arrV_size]; exact hj) rfl rfl hd fun H1 e z oq => ?_
  refine kk ls H1 _ h1 (by rw [z, h2]; rfl) ?_ (h4.put z oq ((xj_D G w).2 _ _ he))
  rw [← hs]
  refine h3.set (xj_D G w) he ?_ oq
  show H1[xj_ad G (k, r, i)]? = some (vp_cell _ _)
  rw [e, hx]
  rw [vp_cell_i, vp_cell_i, arrV_store]
  congr 2
  funext q
  by_cases hq : q = j.toNatClampNeg
  · subst hq
    simp [updV, upd]
  · simp [updV, upd, hq]
theorem xj_last (C : xj_C E G cc own nL d q c0 s0 ret) {k r i : Nat} {j : Int32} {x : Int64} (a : xj_At cc pc .lastore 1 nx) (hk : xj_knd k = 2) (hp : xj_ok (k, r, i) w.2.2) (hj : vp_in j (xj_len k)) (kk : xj_X E G Q cs sl nx L st (xj_uJ w k r i j.toNatClampNeg x)) : xj_X E G Q cs sl pc L (.long x :: .int j :: .ref (xj_ad G (k, r, i)) :: st) w := by
  obtain ⟨hd, hn0⟩ := a
  subst hn0
  intro ls H locs h1 h2 h3 h4
  have he := xj_at (G := G) hp
  have hs := xj_mk_set (G := G) (w' := xj_uJ w k r i j.toNatClampNeg x) hp rfl xj_uJ_oth
  rw [xj_arrJ hk] at hs
  unfold xj_cell at he
  simp only [hk] at he
  refine W.last C.1 C.2.1 (h3 _ _ he) ((C.2.2.2.2.2.2.1.2 2 _ rfl).1 (xj_len k) (fun j => .long (w.1.2 k r i j))) (fun q => by cases q) (by show ¬ (j < 0 ∨ (arrV _ _ _).slots.size ≤ _); rw [arrV_size]; exact hj) rfl rfl hd fun H1 e z oq => ?_
  refine kk ls H1 _ h1 (by rw [z, h2]; rfl) ?_ (h4.put z oq ((xj_D G w).2 _ _ he))
  rw [← hs]
  refine h3.set (xj_D G w) he ?_ oq
  show H1[xj_ad G (k, r, i)]? = some (vp_cell _ _)
  rw [e]
  rw [vp_cell_l, vp_cell_l, arrV_store]
  congr 2
  funext q
  by_cases hq : q = j.toNatClampNeg
  · subst hq
    simp [updV, vp_updL]
  · simp [updV, vp_updL, hq]

/-! contracts and calls -/
end XJ
abbrev xj_M : Type := MethodName × ByteArray × Nat × Option FieldType
def xj_rm (d q mc ms : Nat) : Room := { frames := d, cells := mc, slots := ms, locals := q }
def xj_st (G : xj_G) (w : xj_W) (U : State) : Prop := U.heap.size = G.2.2 + w.2.2 ∧ va_P G.1 xj_cl (xj_mk G w) U.heap ∧ va_K G.1 xj_cl (xj_ty G) U ∧ ∀ c ∈ xj_NW, va_Nw c U
def xj_Q (G : xj_G) (post : Option Value → xj_W → Prop) : Array Value → State → Outcome → State → Prop := fun _ st oc t => (∃ (v : Option Value) (w' : xj_W), oc = .returned v ∧ post v w' ∧ t.heap.size = G.2.2 + w'.2.2 ∧ va_P G.1 xj_cl (xj_mk G w') t.heap) ∧ va_F (xj_A G) st t
/-- the contract of M: from the world w, with these arguments, it returns with 'post' -/
def xj_Mx (l : Launch) (G : xj_G) (d q mc ms : Nat) (M : xj_M) (as : List Value) (w : xj_W) (post : Option Value → xj_W → Prop) : Prop := Met l M.1 (Cond.code M.1 M.2.1 M.2.2.1 M.2.2.2 :: xj_GW) (xj_rm d q mc ms) (va_Pc as (xj_st G w)) (xj_Q G post) mc ms (xj_A G)
abbrev xj_R (E : xj_E) (G : xj_G) (post : Option Value → xj_W → Prop) (mc ms : Nat) : State → Prop := MQ (xj_b E) (xj_Q G post) (xj_a E) (xj_s E) mc ms (xj_A G)
theorem xj_Mx_of {l : Launch} {G : xj_G} {d q mc ms : Nat} {M : xj_M} {as : List Value} {w : xj_W} {post : Option Value → xj_W → Prop} (hy : plainName M.1.cls = true) (hl : (lg_sl as).length ≤ M.2.2.1)
    (body : ∀ E : xj_E, E.2.1 = l → xj_C E G M.2.1 M.1.cls M.2.2.1 d q mc ms M.2.2.2 → (xj_me E).name = M.1.name → xj_X E G (xj_R E G post mc ms) 0 0 0 (xj_L0 as M.2.2.1) [] w) : xj_Mx l G d q mc ms M as w post := by
  refine Met.ofW (cc := M.2.1) (maxL := M.2.2.1) (ret := M.2.2.2) hy rfl ?_
  intro p e s m args below meth c s₁ B hml hv
  obtain ⟨hargs, hsz, hP, hK, hN⟩ := hv
  subst hargs
  have hts := atoms_spec (ws := Cond.code M.1 M.2.1 M.2.2.1 M.2.2.2 :: xj_GW) B.pre
  have hown := findClass_of_methodNamed B.named
  have hC : xj_C (p, l, e, xj_rm d q mc ms, s, m, as.toArray, below, meth, c) G M.2.1 M.1.cls M.2.2.1 d q mc ms M.2.2.2 := ⟨B.exec, B.bytes, hml, hown, fun v h => hts v (List.mem_cons_of_mem _ h), hN, hK, ⟨Nat.le_refl _, Nat.le_refl _, Nat.le_refl _, Nat.le_refl _⟩, B.returns, B.notSynchronized⟩
  have hb := body _ rfl hC (name_of_methodNamed B.named B.method).1
  rw [lg_entry_eq]
  exact hb _ s.heap [] (xj_entry as hl) hsz hP va_S.rf
theorem xj_blind {G : xj_G} {w : xj_W} {as : List Value} : FrameBlind (va_Pc as (xj_st G w)) := by
  intro a U g mk q
  obtain ⟨q0, q1, qP, qK, qN⟩ := q
  exact ⟨q0, q1, qP, va_K.moved (u := U) (U := U.calling g mk a) (Vm.Alike.refl U.vm) qK, fun c hc => xj_NW_s c hc (u := U) (U := U.calling g mk a) rfl (qN c hc)⟩
/-- what a call's site links -/
def xj_LK (own : String) (index : Nat) (y : MethodName) : Prop := Cond.methodLink own index y ∈ xj_GW ∨ ∃ host, Cond.methodLinkNest own index y host ∈ xj_NW
/-- what the tables say of a method that is called -/
def xj_MB (M : xj_M) (n : Nat) : Prop := Cond.code M.1 M.2.1 M.2.2.1 M.2.2.2 ∈ xj_GW ∧ Cond.initialized M.1.cls ∈ xj_GW ∧ (M.1.cls ≠ "java/lang/invoke/MethodHandle" ∧ M.1.cls ≠ "java/lang/invoke/VarHandle") ∧ (parseMethodDescriptor M.1.desc).map (fun d => d.parameters.length) = some n
def xj_MV (M : xj_M) (n : Nat) : Prop := xj_MB M n ∧ Cond.instanceMethod M.1 ∈ xj_GW ∧ Cond.selects M.1.cls M.1 M.1 ∈ xj_GW
def xj_MS (M : xj_M) (n : Nat) : Prop := xj_MB M n ∧ Cond.static M.1 ∈ xj_GW
def xj_MI (M : xj_M) (n : Nat) : Prop := xj_MB M n ∧ M.1.name = "<init>" ∧ Cond.instanceMethod M.1 ∈ xj_GW
section XJ2
variable {E : xj_E} {G : xj_G} {cc : ByteArray} {own : String} {nL d q c0 s0 : Nat} {ret : Option FieldType} {Q : State → Prop} {cs sl pc nx : Nat} {L : List (Option Value)} {st rest : List Value} {w : xj_W}
theorem xj_pays (C : xj_C E G cc own nL d q c0 s0 ret) {M : xj_M} {n : Nat} (B : xj_MB M n) : ∀ v ∈ (Cond.code M.1 M.2.1 M.2.2.1 M.2.2.2 :: xj_GW), ∀ (a' : Array Value) (U : State), (xj_s E).WarmedH U.vm → v.before a' U = true :=
  pay_in C.2.2.2.2.1 (fun v hv => by
    rcases List.mem_cons.mp hv with h | h
    · rw [h]; exact ⟨B.1, xj_GW_good _ B.1⟩
    · exact ⟨h, xj_GW_good _ h⟩)
theorem xj_pre (C : xj_C E G cc own nL d q c0 s0 ret) {as : List Value} {H : Heap} (h2 : H.size = G.2.2 + w.2.2) (h3 : va_P G.1 xj_cl (xj_mk G w) H) : ∀ U : State, U.heap = H → (xj_s E).WarmedH U.vm → va_Pc as (xj_st G w) as.toArray U := by
  intro U hU hW
  exact ⟨rfl, by rw [hU]; exact h2, by rw [hU]; exact h3, va_K.moved hW.alike C.2.2.2.2.2.2.1, fun c hc => xj_NW_m c hc hW (C.2.2.2.2.2.1 c hc)⟩
theorem xj_lens {M : xj_M} {n : Nat} (B : xj_MB M n) : ∀ sig, parseMethodDescriptor M.1.desc = some sig → n = sig.parameters.length := by
  intro sig h
  have h2 := B.2.2.2
  rw [h] at h2
  exact (Option.some.inj h2).symm
/-- behind a call -/
theorem xj_go {post : Option Value → xj_W → Prop} {mc ms : Nat} {ls : Array Slot} {H : Heap} {locs : List Loc} {st0 : List Value} {aa : Array Value} (h1 : xj_LH ls L) (h4 : va_S (xj_A G) (xj_s E).heap H locs)
    (hr : va_Run E.1 E.2.1 E.2.2.1 E.2.2.2.1 (xj_s E) (xj_m E) (xj_a E) (xj_b E) (xj_me E) (xj_c E) H locs cs sl mc ms (F0 (xj_m E) pc ls st0) rest (xj_Q G post aa) (xj_A G))
    (kk : ∀ v w', post v w' → xj_X E G Q (cs + mc) (sl + ms) (pc + 3) L (v.toList ++ rest) w') : xj_V E H locs cs sl Q (F0 (xj_m E) pc ls st0) := by
  intro T hT X
  obtain ⟨v, st₀, t, T', Lc, e0, X', hLc, e1, e2, ⟨⟨v', w', hv, hpost, hsz, hP'⟩, hF⟩, stp⟩ := hr T hT X
  cases hv
  have hF1 := hF.1
  have hF2 := hF.2
  rw [e0] at hF1 hF2
  obtain ⟨t2, a1, b1⟩ := kk v w' hpost ls T'.heap (locs ++ Lc) h1 (by rw [e1]; exact hsz) (by rw [e1]; exact hP') ⟨Nat.le_trans h4.1 (by rw [e1]; exact hF1), fun q g1 g2 => by rw [e1, hF2 q (Nat.lt_of_lt_of_le g1 h4.1) g2]; exact h4.2.1 q g1 g2, fun q hq => by
      rcases List.mem_append.mp hq with h | h
      · exact h4.2.2 q h
      · exact hLc q h⟩ T' rfl X'
  exact ⟨t2, stp t2 a1, b1⟩
theorem xj_callV (C : xj_C E G cc own nL d q c0 s0 ret) {index : Nat} {M : xj_M} {k r i n d' q' mc ms : Nat} {qc : vw_C} {As : List Value} {post : Option Value → xj_W → Prop} (a : xj_At cc pc (.invokevirtual index) 3 nx) (hM : xj_Mx E.2.1 G d' q' mc ms M (.ref (xj_ad G (k, r, i)) :: As) w post) (B : xj_MV M n) (hL : xj_LK own index M.1) (hk : xj_knd k = 4 ∧ xj_cl[xj_cls k]? = some qc ∧ qc.1 = M.1.cls) (hp : xj_ok (k, r, i) w.2.2) (hd : d' < d ∧ q' + M.2.2.1 + 19 ≤ q) (hnl : L.length = nL) (hn : As.length = n) (hst : (st.map fun v => v.category).sum ≤ 8) (hc : cs + mc ≤ c0 ∧ sl + ms ≤ s0) (kk : ∀ v w', post v w' → xj_X E G Q (cs + mc) (sl + ms) nx L (v.toList ++ st) w') : xj_X E G Q cs sl pc L (As.reverse ++ .ref (xj_ad G (k, r, i)) :: st) w := by
  obtain ⟨hdc, hn0⟩ := a
  subst hn0
  intro ls H locs h1 h2 h3 h4
  have he := xj_at (G := G) hp
  rw [xj_obj hk.1] at he
  obtain ⟨cell, hc1, hc2, hc3⟩ := va_recv C.2.2.2.2.2.2.1 h3 hk.2.1 he
  rw [hk.2.2] at hc3
  have hR := C.2.2.2.2.2.2.2.1
  have hfr : (xj_rm d' q' mc ms).frames + 1 ≤ E.2.2.2.1.frames := by show d' + 1 ≤ _; omega
  have hlo : 8 + (M.2.2.1 + 11) + (xj_rm d' q' mc ms).locals ≤ E.2.2.2.1.locals := by
    show 8 + (M.2.2.1 + 11) + q' ≤ _
    omega
  have hp' : PreV (xj_s E) H M.1.cls (xj_ad G (k, r, i)) (va_Pc (.ref (xj_ad G (k, r, i)) :: As) (xj_st G w)) As := ⟨xj_blind, ⟨cell, hc1, hc2, hc3⟩, xj_pre C h2 h3⟩
  rcases hL with hL | ⟨host, hL⟩
  · refine xj_go h1 h4 (va_runV (n := n) (bytes := M.2.1) (maxL := M.2.2.1) (ret := M.2.2.2) ⟨C.1, C.2.1, C.2.2.1, C.2.2.2.1, C.2.2.2.2.1⟩ hM ⟨⟨rfl, rfl, hfr, hlo, xj_pays C B.1, List.mem_cons_self, C.2.2.2.2.1 _ B.1.1, C.2.2.2.2.1 _ B.1.2.1, B.1.2.2.1, xj_lens B.1, C.2.2.2.2.1 _ hL⟩, C.2.2.2.2.1 _ B.2.1, C.2.2.2.2.1 _ B.2.2⟩ hp' rfl hn (h1.1.trans hnl) rfl (lv_room hst) hdc ⟨by omega, by omega⟩) kk
  · refine xj_go h1 h4 (va_runVN (n := n) (bytes := M.2.1) (maxL := M.2.2.1) (ret := M.2.2.2) ⟨C.1, C.2.1, C.2.2.1, C.2.2.2.1, C.2.2.2.2.1⟩ hM ⟨⟨⟨rfl, rfl, hfr, hlo, xj_pays C B.1, List.mem_cons_self⟩, C.2.2.2.2.1 _ B.1.1, C.2.2.2.2.1 _ B.1.2.1, B.1.2.2.1, xj_lens B.1, va_Nw.use rfl (C.2.2.2.2.2.1 _ hL)⟩, C.2.2.2.2.1 _ B.2.1, C.2.2.2.2.1 _ B.2.2⟩ hp' rfl hn (h1.1.trans hnl) rfl (lv_room hst) hdc ⟨by omega, by omega⟩) kk
theorem xj_callS (C : xj_C E G cc own nL d q c0 s0 ret) {index : Nat} {M : xj_M} {n d' q' mc ms : Nat} {As : List Value} {post : Option Value → xj_W → Prop} (a : xj_At cc pc (.invokestatic index) 3 nx) (hM : xj_Mx E.2.1 G d' q' mc ms M As w post) (B : xj_MS M n) (hL : xj_LK own index M.1) (hd : d' < d ∧ q' + M.2.2.1 + 19 ≤ q) (hnl : L.length = nL) (hn : As.length = n) (hst : (st.map fun v => v.category).sum ≤ 8) (hc : cs + mc ≤ c0 ∧ sl + ms ≤ s0) (kk : ∀ v w', post v w' → xj_X E G Q (cs + mc) (sl + ms) nx L (v.toList ++ st) w') : xj_X E G Q cs sl pc L (As.reverse ++ st) w := by
  obtain ⟨hdc, hn0⟩ := a
  subst hn0
  intro ls H locs h1 h2 h3 h4
  have hR := C.2.2.2.2.2.2.2.1
  have hfr : (xj_rm d' q' mc ms).frames + 1 ≤ E.2.2.2.1.frames := by show d' + 1 ≤ _; omega
  have hlo : 8 + (M.2.2.1 + 11) + (xj_rm d' q' mc ms).locals ≤ E.2.2.2.1.locals := by
    show 8 + (M.2.2.1 + 11) + q' ≤ _
    omega
  have hp' : PreS (xj_s E) H (va_Pc As (xj_st G w)) As := ⟨xj_blind, xj_pre C h2 h3⟩
  rcases hL with hL | ⟨host, hL⟩
  · refine xj_go h1 h4 (va_runS (n := n) (bytes := M.2.1) (maxL := M.2.2.1) (ret := M.2.2.2) ⟨C.1, C.2.1, C.2.2.1, C.2.2.2.1, C.2.2.2.2.1⟩ hM ⟨⟨rfl, rfl, hfr, hlo, xj_pays C B.1, List.mem_cons_self, C.2.2.2.2.1 _ B.1.1, C.2.2.2.2.1 _ B.1.2.1, B.1.2.2.1, xj_lens B.1, C.2.2.2.2.1 _ hL⟩, C.2.2.2.2.1 _ B.2⟩ hp' rfl hn (h1.1.trans hnl) rfl (lv_room hst) hdc ⟨by omega, by omega⟩) kk
  · refine xj_go h1 h4 (va_runSN (n := n) (bytes := M.2.1) (maxL := M.2.2.1) (ret := M.2.2.2) ⟨C.1, C.2.1, C.2.2.1, C.2.2.2.1, C.2.2.2.2.1⟩ hM ⟨⟨⟨rfl, rfl, hfr, hlo, xj_pays C B.1, List.mem_cons_self⟩, C.2.2.2.2.1 _ B.1.1, C.2.2.2.2.1 _ B.1.2.1, B.1.2.2.1, xj_lens B.1, va_Nw.use rfl (C.2.2.2.2.2.1 _ hL)⟩, C.2.2.2.2.1 _ B.2, trivial⟩ hp' rfl hn (h1.1.trans hnl) rfl (lv_room hst) hdc ⟨by omega, by omega⟩) kk
theorem xj_callI (C : xj_C E G cc own nL d q c0 s0 ret) {index : Nat} {M : xj_M} {n d' q' mc ms b : Nat} {As : List Value} {post : Option Value → xj_W → Prop} (a : xj_At cc pc (.invokespecial index) 3 nx) (hret : M.2.2.2 = none) (hM : xj_Mx E.2.1 G d' q' mc ms M (.ref b :: As) w post) (B : xj_MI M n) (hL : xj_LK own index M.1) (hd : d' < d ∧ q' + M.2.2.1 + 19 ≤ q) (hnl : L.length = nL) (hn : As.length = n) (hst : (st.map fun v => v.category).sum ≤ 8) (hc : cs + mc ≤ c0 ∧ sl + ms ≤ s0) (kk : ∀ v w', post v w' → xj_X E G Q (cs + mc) (sl + ms) nx L (v.toList ++ st) w') : xj_X E G Q cs sl pc L (As.reverse ++ .ref b :: st) w := by
  obtain ⟨hdc, hn0⟩ := a
  subst hn0
  intro ls H locs h1 h2 h3 h4
  have hR := C.2.2.2.2.2.2.2.1
  have hfr : (xj_rm d' q' mc ms).frames + 1 ≤ E.2.2.2.1.frames := by show d' + 1 ≤ _; omega
  have hlo : 8 + (M.2.2.1 + 11) + (xj_rm d' q' mc ms).locals ≤ E.2.2.2.1.locals := by
    show 8 + (M.2.2.1 + 11) + q' ≤ _
    omega
  have hp' : PreS (xj_s E) H (va_Pc (.ref b :: As) (xj_st G w)) (.ref b :: As) := ⟨xj_blind, xj_pre C h2 h3⟩
  have hcode : Cond.code M.1 M.2.1 M.2.2.1 none ∈ (Cond.code M.1 M.2.1 M.2.2.1 M.2.2.2 :: xj_GW) := by rw [hret]; exact List.mem_cons_self
  have hcode2 : (Cond.code M.1 M.2.1 M.2.2.1 none).before (xj_a E) (xj_s E) = true := by rw [← hret]; exact C.2.2.2.2.1 _ B.1.1
  rcases hL with hL | ⟨host, hL⟩
  · refine xj_go h1 h4 (va_runI (n := n) (bytes := M.2.1) (maxL := M.2.2.1) ⟨C.1, C.2.1, C.2.2.1, C.2.2.2.1, C.2.2.2.2.1⟩ hM ⟨⟨rfl, rfl, hfr, hlo, xj_pays C B.1, hcode, hcode2, C.2.2.2.2.1 _ B.1.2.1, B.1.2.2.1, xj_lens B.1, C.2.2.2.2.1 _ hL⟩, B.2.1, C.2.2.2.2.1 _ B.2.2⟩ hp' rfl hn (h1.1.trans hnl) rfl (lv_room hst) hdc ⟨by omega, by omega⟩) kk
  · refine xj_go h1 h4 (va_runIN (n := n) (bytes := M.2.1) (maxL := M.2.2.1) ⟨C.1, C.2.1, C.2.2.1, C.2.2.2.1, C.2.2.2.2.1⟩ hM ⟨⟨⟨rfl, rfl, hfr, hlo, xj_pays C B.1, hcode⟩, hcode2, C.2.2.2.2.1 _ B.1.2.1, B.1.2.2.1, xj_lens B.1, va_Nw.use rfl (C.2.2.2.2.2.1 _ hL)⟩, B.2.1, C.2.2.2.2.1 _ B.2.2⟩ hp' rfl hn (h1.1.trans hnl) rfl (lv_room hst) hdc ⟨by omega, by omega⟩) kk
/-! ends -/
theorem xj_iret {post : Option Value → xj_W → Prop} (C : xj_C E G cc own nL d q c0 s0 (some .int)) {v : Int32} (a : xj_At cc pc .ireturn 1 nx) (hq : post (some (.int v)) w) : xj_X E G (xj_R E G post cs sl) cs sl pc L [.int v] w :=
  fun ls H locs h1 h2 h3 h4 => W.iret C.1 C.2.1 C.2.2.2.2.2.2.2.2.1 (fun t ht hW => ⟨⟨_, w, rfl, hq, by rw [ht]; exact h2, by rw [ht]; exact h3⟩, h4.F ht⟩) h4.2.2 a.1 (hlocks := C.2.2.2.2.2.2.2.2.2)
theorem xj_zret {post : Option Value → xj_W → Prop} (C : xj_C E G cc own nL d q c0 s0 (some .boolean)) {v : Int32} (a : xj_At cc pc .ireturn 1 nx) (hn : narrow .boolean (.int v) = .int v) (hq : post (some (.int v)) w) : xj_X E G (xj_R E G post cs sl) cs sl pc L [.int v] w :=
  fun ls H locs h1 h2 h3 h4 => W.zret C.1 C.2.1 C.2.2.2.2.2.2.2.2.1 hn (fun t ht hW => ⟨⟨_, w, rfl, hq, by rw [ht]; exact h2, by rw [ht]; exact h3⟩, h4.F ht⟩) h4.2.2 a.1 (hlocks := C.2.2.2.2.2.2.2.2.2)
theorem xj_lret {post : Option Value → xj_W → Prop} (C : xj_C E G cc own nL d q c0 s0 (some .long)) {v : Int64} (a : xj_At cc pc .lreturn 1 nx) (hq : post (some (.long v)) w) : xj_X E G (xj_R E G post cs sl) cs sl pc L [.long v] w :=
  fun ls H locs h1 h2 h3 h4 => W.lret C.1 C.2.1 C.2.2.2.2.2.2.2.2.1 (fun t ht hW => ⟨⟨_, w, rfl, hq, by rw [ht]; exact h2, by rw [ht]; exact h3⟩, h4.F ht⟩) h4.2.2 a.1 (hlocks := C.2.2.2.2.2.2.2.2.2)
theorem xj_vret {post : Option Value → xj_W → Prop} (C : xj_C E G cc own nL d q c0 s0 none) (a : xj_At cc pc .return_ 1 nx) (hq : post none w) : xj_X E G (xj_R E G post cs sl) cs sl pc L [] w :=
  fun ls H locs h1 h2 h3 h4 => W.vret C.1 C.2.1 C.2.2.2.2.2.2.2.2.1 (fun t ht hW => ⟨⟨_, w, rfl, hq, by rw [ht]; exact h2, by rw [ht]; exact h3⟩, h4.F ht⟩) h4.2.2 a.1 (hlocks := C.2.2.2.2.2.2.2.2.2)
theorem xj_aret {post : Option Value → xj_W → Prop} {Cn : String} (C : xj_C E G cc own nL d q c0 s0 (some (.object Cn))) {v : Nat} (a : xj_At cc pc .areturn 1 nx) (hq : post (some (.ref v)) w) : xj_X E G (xj_R E G post cs sl) cs sl pc L [.ref v] w :=
  fun ls H locs h1 h2 h3 h4 => W.aret C.1 C.2.1 C.2.2.2.2.2.2.2.2.1 (Or.inl ⟨_, rfl⟩) (Or.inr ⟨_, rfl⟩) (fun t ht hW => ⟨⟨_, w, rfl, hq, by rw [ht]; exact h2, by rw [ht]; exact h3⟩, h4.F ht⟩) h4.2.2 a.1 (hlocks := C.2.2.2.2.2.2.2.2.2)
end XJ2
end
