/-! methods, links, fields: every word by its place in the tables -/
theorem xj_in1 {w : Cond} (h : w ∈ tables_1_1) (g : goodWord w = true) : w ∈ xj_GW := List.mem_filter.mpr ⟨List.mem_append_right _ (List.mem_append_left _ h), g⟩
theorem xj_nn1 {w : Cond} (h : w ∈ tables_1_1) (g : xj_nest w = true) : w ∈ xj_NW := List.mem_filter.mpr ⟨List.mem_append_right _ (List.mem_append_left _ h), g⟩
theorem xj_in2 {w : Cond} (h : w ∈ tables_1_2) (g : goodWord w = true) : w ∈ xj_GW := List.mem_filter.mpr ⟨List.mem_append_right _ (List.mem_append_right _ (List.mem_append_left _ h)), g⟩
theorem xj_nn2 {w : Cond} (h : w ∈ tables_1_2) (g : xj_nest w = true) : w ∈ xj_NW := List.mem_filter.mpr ⟨List.mem_append_right _ (List.mem_append_right _ (List.mem_append_left _ h)), g⟩
theorem xj_in3 {w : Cond} (h : w ∈ tables_1_3) (g : goodWord w = true) : w ∈ xj_GW := List.mem_filter.mpr ⟨List.mem_append_right _ (List.mem_append_right _ (List.mem_append_right _ (List.mem_append_left _ h))), g⟩
theorem xj_nn3 {w : Cond} (h : w ∈ tables_1_3) (g : xj_nest w = true) : w ∈ xj_NW := List.mem_filter.mpr ⟨List.mem_append_right _ (List.mem_append_right _ (List.mem_append_right _ (List.mem_append_left _ h))), g⟩
theorem xj_in4 {w : Cond} (h : w ∈ tables_1_4) (g : goodWord w = true) : w ∈ xj_GW := List.mem_filter.mpr ⟨List.mem_append_right _ (List.mem_append_right _ (List.mem_append_right _ (List.mem_append_right _ (h)))), g⟩
theorem xj_nn4 {w : Cond} (h : w ∈ tables_1_4) (g : xj_nest w = true) : w ∈ xj_NW := List.mem_filter.mpr ⟨List.mem_append_right _ (List.mem_append_right _ (List.mem_append_right _ (List.mem_append_right _ (h)))), g⟩
theorem xj_sel {q : MethodName × Nat} (h : q ∈ lw_privs) : Cond.selects q.1.cls q.1 q.1 ∈ xj_GW := List.mem_filter.mpr ⟨List.mem_append_left _ (List.mem_map.mpr ⟨q, h, rfl⟩), rfl⟩
abbrev m_G_init : xj_M := (⟨"ThreePhaseGroup", "<init>", "()V"⟩, prog_1_method_1_code, 2, none)
abbrev m_JO_init : xj_M := (⟨"java/lang/Object", "<init>", "()V"⟩, object_method_1_code, 1, none)
abbrev m_B_init : xj_M := (⟨"ThreePhaseGroup$Board", "<init>", "()V"⟩, prog_2_method_1_code, 1, none)
abbrev m_R_init : xj_M := (⟨"ThreePhaseGroup$Replica", "<init>", "(ILThreePhaseGroup$Board;)V"⟩, prog_5_method_1_code, 4, none)
abbrev m_N_init : xj_M := (⟨"ThreePhaseGroup$Numbers", "<init>", "()V"⟩, prog_4_method_1_code, 1, none)
abbrev m_S_init : xj_M := (⟨"ThreePhaseGroup$Slot", "<init>", "()V"⟩, prog_7_method_1_code, 1, none)
abbrev m_S_forgetView : xj_M := (⟨"ThreePhaseGroup$Slot", "forgetView", "()V"⟩, prog_7_method_2_code, 2, none)
abbrev m_JA_fillI : xj_M := (⟨"java/util/Arrays", "fill", "([II)V"⟩, prog_12_method_103_code, 4, none)
abbrev m_C_init : xj_M := (⟨"ThreePhaseGroup$Client", "<init>", "(ILThreePhaseGroup$Board;)V"⟩, prog_3_method_1_code, 3, none)
abbrev m_G_submit : xj_M := (⟨"ThreePhaseGroup", "submit", "(IIII)I"⟩, prog_1_method_2_code, 6, (some .int))
abbrev m_G_isClient : xj_M := (⟨"ThreePhaseGroup", "isClient", "(I)Z"⟩, prog_1_method_23_code, 1, (some .boolean))
abbrev m_G_isOperation : xj_M := (⟨"ThreePhaseGroup", "isOperation", "(III)Z"⟩, prog_1_method_25_code, 3, (some .boolean))
abbrev m_B_isFull : xj_M := (⟨"ThreePhaseGroup$Board", "isFull", "()Z"⟩, prog_2_method_2_code, 1, (some .boolean))
abbrev m_C_openNext : xj_M := (⟨"ThreePhaseGroup$Client", "openNext", "()V"⟩, prog_3_method_2_code, 1, none)
abbrev m_JA_fillJ : xj_M := (⟨"java/util/Arrays", "fill", "([JJ)V"⟩, prog_12_method_101_code, 5, none)
abbrev m_B_post : xj_M := (⟨"ThreePhaseGroup$Board", "post", "(IIIJI)I"⟩, prog_2_method_5_code, 8, (some .int))
abbrev m_G_deliver : xj_M := (⟨"ThreePhaseGroup", "deliver", "(II)Z"⟩, prog_1_method_3_code, 3, (some .boolean))
abbrev m_B_has : xj_M := (⟨"ThreePhaseGroup$Board", "has", "(I)Z"⟩, prog_2_method_3_code, 2, (some .boolean))
abbrev m_G_isParty : xj_M := (⟨"ThreePhaseGroup", "isParty", "(I)Z"⟩, prog_1_method_24_code, 1, (some .boolean))
abbrev m_G_give : xj_M := (⟨"ThreePhaseGroup", "give", "(II)Z"⟩, prog_1_method_26_code, 3, (some .boolean))
abbrev m_C_takes : xj_M := (⟨"ThreePhaseGroup$Client", "takes", "(I)Z"⟩, prog_3_method_3_code, 3, (some .boolean))
abbrev m_C_countReplies : xj_M := (⟨"ThreePhaseGroup$Client", "countReplies", "(I)I"⟩, prog_3_method_4_code, 4, (some .int))
abbrev m_R_takes : xj_M := (⟨"ThreePhaseGroup$Replica", "takes", "(I)Z"⟩, prog_5_method_8_code, 2, (some .boolean))
abbrev m_R_takesRequest : xj_M := (⟨"ThreePhaseGroup$Replica", "takesRequest", "(I)Z"⟩, prog_5_method_9_code, 2, (some .boolean))
abbrev m_N_has : xj_M := (⟨"ThreePhaseGroup$Numbers", "has", "(I)Z"⟩, prog_4_method_2_code, 3, (some .boolean))
abbrev m_R_wouldWait : xj_M := (⟨"ThreePhaseGroup$Replica", "wouldWait", "(I)Z"⟩, prog_5_method_5_code, 3, (some .boolean))
abbrev m_V_timestampOf : xj_M := (⟨"ThreePhaseGroup$Service", "timestampOf", "(JI)I"⟩, prog_6_method_3_code, 3, (some .int))
abbrev m_R_learn : xj_M := (⟨"ThreePhaseGroup$Replica", "learn", "(I)V"⟩, prog_5_method_7_code, 2, none)
abbrev m_N_add : xj_M := (⟨"ThreePhaseGroup$Numbers", "add", "(I)V"⟩, prog_4_method_3_code, 2, none)
abbrev m_R_takesPrePrepare : xj_M := (⟨"ThreePhaseGroup$Replica", "takesPrePrepare", "(I)Z"⟩, prog_5_method_11_code, 4, (some .boolean))
abbrev m_R_isOfThisView : xj_M := (⟨"ThreePhaseGroup$Replica", "isOfThisView", "(I)Z"⟩, prog_5_method_10_code, 2, (some .boolean))
abbrev m_R_inWindow : xj_M := (⟨"ThreePhaseGroup$Replica", "inWindow", "(J)Z"⟩, prog_5_method_2_code, 3, (some .boolean))
abbrev m_G_primaryOf : xj_M := (⟨"ThreePhaseGroup", "primaryOf", "(I)I"⟩, prog_1_method_28_code, 1, (some .int))
abbrev m_R_slotAt : xj_M := (⟨"ThreePhaseGroup$Replica", "slotAt", "(J)LThreePhaseGroup$Slot;"⟩, prog_5_method_3_code, 3, (some (.object "ThreePhaseGroup$Slot")))
abbrev m_B_hasRequestBelow : xj_M := (⟨"ThreePhaseGroup$Board", "hasRequestBelow", "(II)Z"⟩, prog_2_method_4_code, 3, (some .boolean))
abbrev m_R_takesPhase : xj_M := (⟨"ThreePhaseGroup$Replica", "takesPhase", "(I)Z"⟩, prog_5_method_12_code, 4, (some .boolean))
abbrev m_R_takesCheckpoint : xj_M := (⟨"ThreePhaseGroup$Replica", "takesCheckpoint", "(I)Z"⟩, prog_5_method_13_code, 5, (some .boolean))
abbrev m_R_takesViewChange : xj_M := (⟨"ThreePhaseGroup$Replica", "takesViewChange", "(I)Z"⟩, prog_5_method_15_code, 4, (some .boolean))
abbrev m_R_isAhead : xj_M := (⟨"ThreePhaseGroup$Replica", "isAhead", "(I)Z"⟩, prog_5_method_14_code, 2, (some .boolean))
abbrev m_R_takesNewView : xj_M := (⟨"ThreePhaseGroup$Replica", "takesNewView", "(I)Z"⟩, prog_5_method_16_code, 3, (some .boolean))
abbrev m_R_enter : xj_M := (⟨"ThreePhaseGroup$Replica", "enter", "(I)V"⟩, prog_5_method_36_code, 6, none)
abbrev m_R_moveTo : xj_M := (⟨"ThreePhaseGroup$Replica", "moveTo", "(I)V"⟩, prog_5_method_34_code, 3, none)
abbrev m_B_startOf : xj_M := (⟨"ThreePhaseGroup$Board", "startOf", "(I)I"⟩, prog_2_method_16_code, 4, (some .int))
abbrev m_B_voteOf : xj_M := (⟨"ThreePhaseGroup$Board", "voteOf", "(II)I"⟩, prog_2_method_14_code, 2, (some .int))
abbrev m_JM_max : xj_M := (⟨"java/lang/Math", "max", "(II)I"⟩, prog_11_method_65_code, 2, (some .int))
abbrev m_B_certificate : xj_M := (⟨"ThreePhaseGroup$Board", "certificate", "(JI)I"⟩, prog_2_method_10_code, 5, (some .int))
abbrev m_B_countCheckpoints : xj_M := (⟨"ThreePhaseGroup$Board", "countCheckpoints", "(II)I"⟩, prog_2_method_11_code, 5, (some .int))
abbrev m_JI_bitCount : xj_M := (⟨"java/lang/Integer", "bitCount", "(I)I"⟩, prog_10_method_49_code, 1, (some .int))
abbrev m_R_settle : xj_M := (⟨"ThreePhaseGroup$Replica", "settle", "(IJ)V"⟩, prog_5_method_33_code, 5, none)
abbrev m_S_forgetProofs : xj_M := (⟨"ThreePhaseGroup$Slot", "forgetProofs", "()V"⟩, prog_7_method_3_code, 1, none)
abbrev m_R_followRules : xj_M := (⟨"ThreePhaseGroup$Replica", "followRules", "()V"⟩, prog_5_method_18_code, 3, none)
abbrev m_R_prepareNext : xj_M := (⟨"ThreePhaseGroup$Replica", "prepareNext", "()Z"⟩, prog_5_method_20_code, 3, (some .boolean))
abbrev m_R_isPrimary : xj_M := (⟨"ThreePhaseGroup$Replica", "isPrimary", "()Z"⟩, prog_5_method_4_code, 1, (some .boolean))
abbrev m_R_commitNext : xj_M := (⟨"ThreePhaseGroup$Replica", "commitNext", "()Z"⟩, prog_5_method_21_code, 3, (some .boolean))
abbrev m_S_countPrepares : xj_M := (⟨"ThreePhaseGroup$Slot", "countPrepares", "()I"⟩, prog_7_method_4_code, 1, (some .int))
abbrev m_S_countAccepted : xj_M := (⟨"ThreePhaseGroup$Slot", "countAccepted", "([J)I"⟩, prog_7_method_6_code, 4, (some .int))
abbrev m_R_decideNext : xj_M := (⟨"ThreePhaseGroup$Replica", "decideNext", "()Z"⟩, prog_5_method_22_code, 3, (some .boolean))
abbrev m_S_countCommits : xj_M := (⟨"ThreePhaseGroup$Slot", "countCommits", "()I"⟩, prog_7_method_5_code, 1, (some .int))
abbrev m_R_executeNext : xj_M := (⟨"ThreePhaseGroup$Replica", "executeNext", "()Z"⟩, prog_5_method_23_code, 2, (some .boolean))
abbrev m_R_execute : xj_M := (⟨"ThreePhaseGroup$Replica", "execute", "(I)V"⟩, prog_5_method_24_code, 9, none)
abbrev m_V_valueOf : xj_M := (⟨"ThreePhaseGroup$Service", "valueOf", "(JI)I"⟩, prog_6_method_2_code, 3, (some .int))
abbrev m_V_valueAfter : xj_M := (⟨"ThreePhaseGroup$Service", "valueAfter", "(III)I"⟩, prog_6_method_4_code, 3, (some .int))
abbrev m_V_withValue : xj_M := (⟨"ThreePhaseGroup$Service", "withValue", "(JII)J"⟩, prog_6_method_5_code, 4, (some .long))
abbrev m_V_withBits : xj_M := (⟨"ThreePhaseGroup$Service", "withBits", "(JIJJ)J"⟩, prog_6_method_7_code, 7, (some .long))
abbrev m_V_withResult : xj_M := (⟨"ThreePhaseGroup$Service", "withResult", "(JIII)J"⟩, prog_6_method_6_code, 5, (some .long))
abbrev m_R_settleNext : xj_M := (⟨"ThreePhaseGroup$Replica", "settleNext", "()Z"⟩, prog_5_method_25_code, 5, (some .boolean))
abbrev m_R_countNotedLike : xj_M := (⟨"ThreePhaseGroup$Replica", "countNotedLike", "(I)I"⟩, prog_5_method_26_code, 5, (some .int))
abbrev m_R_joinChange : xj_M := (⟨"ThreePhaseGroup$Replica", "joinChange", "()Z"⟩, prog_5_method_27_code, 4, (some .boolean))
abbrev m_JM_min : xj_M := (⟨"java/lang/Math", "min", "(II)I"⟩, prog_11_method_69_code, 2, (some .int))
abbrev m_R_begin : xj_M := (⟨"ThreePhaseGroup$Replica", "begin", "(I)V"⟩, prog_5_method_35_code, 4, none)
abbrev m_R_openView : xj_M := (⟨"ThreePhaseGroup$Replica", "openView", "()Z"⟩, prog_5_method_28_code, 5, (some .boolean))
abbrev m_R_votesForView : xj_M := (⟨"ThreePhaseGroup$Replica", "votesForView", "(I)Z"⟩, prog_5_method_29_code, 2, (some .boolean))
abbrev m_B_ordersDue : xj_M := (⟨"ThreePhaseGroup$Board", "ordersDue", "(I)I"⟩, prog_2_method_17_code, 9, (some .int))
abbrev m_B_greatestClaimant : xj_M := (⟨"ThreePhaseGroup$Board", "greatestClaimant", "(II)I"⟩, prog_2_method_18_code, 7, (some .int))
abbrev m_B_claimFor : xj_M := (⟨"ThreePhaseGroup$Board", "claimFor", "(II)I"⟩, prog_2_method_15_code, 4, (some .int))
abbrev m_B_backing : xj_M := (⟨"ThreePhaseGroup$Board", "backing", "(III)I"⟩, prog_2_method_12_code, 7, (some .int))
abbrev m_B_isPrepare : xj_M := (⟨"ThreePhaseGroup$Board", "isPrepare", "(III)Z"⟩, prog_2_method_13_code, 4, (some .boolean))
abbrev m_R_orderNext : xj_M := (⟨"ThreePhaseGroup$Replica", "orderNext", "()Z"⟩, prog_5_method_30_code, 3, (some .boolean))
abbrev m_R_leastUnordered : xj_M := (⟨"ThreePhaseGroup$Replica", "leastUnordered", "()I"⟩, prog_5_method_31_code, 4, (some .int))
abbrev m_R_isAccepted : xj_M := (⟨"ThreePhaseGroup$Replica", "isAccepted", "(I)Z"⟩, prog_5_method_32_code, 3, (some .boolean))
abbrev m_R_setTimer : xj_M := (⟨"ThreePhaseGroup$Replica", "setTimer", "()V"⟩, prog_5_method_19_code, 1, none)
abbrev m_R_countWaiting : xj_M := (⟨"ThreePhaseGroup$Replica", "countWaiting", "()I"⟩, prog_5_method_6_code, 3, (some .int))
abbrev m_B_judgeNew : xj_M := (⟨"ThreePhaseGroup$Board", "judgeNew", "()V"⟩, prog_2_method_6_code, 1, none)
abbrev m_B_isValidViewChange : xj_M := (⟨"ThreePhaseGroup$Board", "isValidViewChange", "(I)Z"⟩, prog_2_method_8_code, 5, (some .boolean))
abbrev m_B_isChangedView : xj_M := (⟨"ThreePhaseGroup$Board", "isChangedView", "(I)Z"⟩, prog_2_method_7_code, 1, (some .boolean))
abbrev m_B_isValidNewView : xj_M := (⟨"ThreePhaseGroup$Board", "isValidNewView", "(I)Z"⟩, prog_2_method_9_code, 6, (some .boolean))
abbrev m_G_pump : xj_M := (⟨"ThreePhaseGroup", "pump", "(II)I"⟩, prog_1_method_4_code, 5, (some .int))
abbrev m_G_tick : xj_M := (⟨"ThreePhaseGroup", "tick", "(I)Z"⟩, prog_1_method_5_code, 2, (some .boolean))
abbrev m_G_isReplica : xj_M := (⟨"ThreePhaseGroup", "isReplica", "(I)Z"⟩, prog_1_method_22_code, 1, (some .boolean))
abbrev m_R_stepClock : xj_M := (⟨"ThreePhaseGroup$Replica", "stepClock", "()V"⟩, prog_5_method_17_code, 1, none)
abbrev m_G_corrupt : xj_M := (⟨"ThreePhaseGroup", "corrupt", "(I)Z"⟩, prog_1_method_6_code, 2, (some .boolean))
abbrev m_G_forge : xj_M := (⟨"ThreePhaseGroup", "forge", "(IIII)I"⟩, prog_1_method_7_code, 5, (some .int))
abbrev m_G_postForged : xj_M := (⟨"ThreePhaseGroup", "postForged", "(IIJI)I"⟩, prog_1_method_27_code, 7, (some .int))
abbrev m_G_forgeCheckpoint : xj_M := (⟨"ThreePhaseGroup", "forgeCheckpoint", "(IJ)I"⟩, prog_1_method_8_code, 4, (some .int))
abbrev m_G_messages : xj_M := (⟨"ThreePhaseGroup", "messages", "()I"⟩, prog_1_method_9_code, 1, (some .int))
abbrev m_G_look : xj_M := (⟨"ThreePhaseGroup", "look", "(II)J"⟩, prog_1_method_10_code, 3, (some .long))
abbrev m_G_mark : xj_M := (⟨"ThreePhaseGroup", "mark", "(I)I"⟩, prog_1_method_11_code, 2, (some .int))
abbrev m_G_view : xj_M := (⟨"ThreePhaseGroup", "view", "(I)I"⟩, prog_1_method_12_code, 2, (some .int))
abbrev m_G_executed : xj_M := (⟨"ThreePhaseGroup", "executed", "(I)I"⟩, prog_1_method_13_code, 2, (some .int))
abbrev m_G_stable : xj_M := (⟨"ThreePhaseGroup", "stable", "(I)I"⟩, prog_1_method_14_code, 2, (some .int))
abbrev m_G_state : xj_M := (⟨"ThreePhaseGroup", "state", "(I)J"⟩, prog_1_method_15_code, 2, (some .long))
abbrev m_G_slot : xj_M := (⟨"ThreePhaseGroup", "slot", "(II)I"⟩, prog_1_method_16_code, 3, (some .int))
abbrev m_S_summary : xj_M := (⟨"ThreePhaseGroup$Slot", "summary", "(I)I"⟩, prog_7_method_7_code, 3, (some .int))
abbrev m_G_ordered : xj_M := (⟨"ThreePhaseGroup", "ordered", "(II)I"⟩, prog_1_method_17_code, 4, (some .int))
abbrev m_G_timer : xj_M := (⟨"ThreePhaseGroup", "timer", "(I)I"⟩, prog_1_method_18_code, 2, (some .int))
abbrev m_G_waiting : xj_M := (⟨"ThreePhaseGroup", "waiting", "(I)I"⟩, prog_1_method_19_code, 2, (some .int))
abbrev m_G_outstanding : xj_M := (⟨"ThreePhaseGroup", "outstanding", "(I)I"⟩, prog_1_method_20_code, 2, (some .int))
abbrev m_G_answer : xj_M := (⟨"ThreePhaseGroup", "answer", "(I)I"⟩, prog_1_method_21_code, 2, (some .int))
abbrev m_T_init : xj_M := (⟨"ThreePhaseGroupModel", "<init>", "()V"⟩, prog_9_method_1_code, 2, none)
abbrev m_T_waiting : xj_M := (⟨"ThreePhaseGroupModel", "waiting", "(I)I"⟩, prog_9_method_18_code, 4, (some .int))
abbrev m_T_outside : xj_M := (⟨"ThreePhaseGroupModel", "outside", "(III)Z"⟩, prog_9_method_2_code, 3, (some .boolean))
abbrev m_T_waits : xj_M := (⟨"ThreePhaseGroupModel", "waits", "(II)Z"⟩, prog_9_method_17_code, 4, (some .boolean))
abbrev m_T_submit : xj_M := (⟨"ThreePhaseGroupModel", "submit", "(IIII)I"⟩, prog_9_method_38_code, 5, (some .int))
abbrev m_T_send : xj_M := (⟨"ThreePhaseGroupModel", "send", "(IIIJI)I"⟩, prog_9_method_3_code, 8, (some .int))
abbrev m_T_deliver : xj_M := (⟨"ThreePhaseGroupModel", "deliver", "(II)Z"⟩, prog_9_method_39_code, 3, (some .boolean))
abbrev m_T_give : xj_M := (⟨"ThreePhaseGroupModel", "give", "(II)Z"⟩, prog_9_method_19_code, 3, (some .boolean))
abbrev m_T_answered : xj_M := (⟨"ThreePhaseGroupModel", "answered", "(II)Z"⟩, prog_9_method_37_code, 5, (some .boolean))
abbrev m_T_takes : xj_M := (⟨"ThreePhaseGroupModel", "takes", "(II)Z"⟩, prog_9_method_20_code, 8, (some .boolean))
abbrev m_T_window : xj_M := (⟨"ThreePhaseGroupModel", "window", "(IJ)Z"⟩, prog_9_method_13_code, 4, (some .boolean))
abbrev m_T_takesRequest : xj_M := (⟨"ThreePhaseGroupModel", "takesRequest", "(II)Z"⟩, prog_9_method_21_code, 3, (some .boolean))
abbrev m_T_takesOrder : xj_M := (⟨"ThreePhaseGroupModel", "takesOrder", "(II)Z"⟩, prog_9_method_22_code, 5, (some .boolean))
abbrev m_T_notes : xj_M := (⟨"ThreePhaseGroupModel", "notes", "(IIIIJ)Z"⟩, prog_9_method_14_code, 8, (some .boolean))
abbrev m_T_goodChange : xj_M := (⟨"ThreePhaseGroupModel", "goodChange", "(I)Z"⟩, prog_9_method_7_code, 7, (some .boolean))
abbrev m_T_proof : xj_M := (⟨"ThreePhaseGroupModel", "proof", "(JI)I"⟩, prog_9_method_5_code, 5, (some .int))
abbrev m_T_senders : xj_M := (⟨"ThreePhaseGroupModel", "senders", "(IIIJII)I"⟩, prog_9_method_4_code, 12, (some .int))
abbrev m_T_backing : xj_M := (⟨"ThreePhaseGroupModel", "backing", "(IJI)I"⟩, prog_9_method_6_code, 6, (some .int))
abbrev m_T_takesChange : xj_M := (⟨"ThreePhaseGroupModel", "takesChange", "(II)Z"⟩, prog_9_method_23_code, 4, (some .boolean))
abbrev m_T_goodNew : xj_M := (⟨"ThreePhaseGroupModel", "goodNew", "(I)Z"⟩, prog_9_method_9_code, 6, (some .boolean))
abbrev m_T_vote : xj_M := (⟨"ThreePhaseGroupModel", "vote", "(II)I"⟩, prog_9_method_8_code, 3, (some .int))
abbrev m_T_orders : xj_M := (⟨"ThreePhaseGroupModel", "orders", "(I)I"⟩, prog_9_method_12_code, 11, (some .int))
abbrev m_T_start : xj_M := (⟨"ThreePhaseGroupModel", "start", "(I)I"⟩, prog_9_method_10_code, 6, (some .int))
abbrev m_T_claim : xj_M := (⟨"ThreePhaseGroupModel", "claim", "(II)I"⟩, prog_9_method_11_code, 5, (some .int))
abbrev m_T_enters : xj_M := (⟨"ThreePhaseGroupModel", "enters", "(II)Z"⟩, prog_9_method_26_code, 8, (some .boolean))
abbrev m_T_dropAccepted : xj_M := (⟨"ThreePhaseGroupModel", "dropAccepted", "(I)V"⟩, prog_9_method_24_code, 3, none)
abbrev m_T_settles : xj_M := (⟨"ThreePhaseGroupModel", "settles", "(IIJ)V"⟩, prog_9_method_25_code, 6, none)
abbrev m_T_rules : xj_M := (⟨"ThreePhaseGroupModel", "rules", "(I)V"⟩, prog_9_method_28_code, 4, none)
abbrev m_T_phases : xj_M := (⟨"ThreePhaseGroupModel", "phases", "(I)Z"⟩, prog_9_method_29_code, 5, (some .boolean))
abbrev m_T_phase : xj_M := (⟨"ThreePhaseGroupModel", "phase", "(IIII)Z"⟩, prog_9_method_30_code, 6, (some .boolean))
abbrev m_T_sent : xj_M := (⟨"ThreePhaseGroupModel", "sent", "(III)Z"⟩, prog_9_method_16_code, 5, (some .boolean))
abbrev m_T_heard : xj_M := (⟨"ThreePhaseGroupModel", "heard", "(IIIJI)I"⟩, prog_9_method_15_code, 11, (some .int))
abbrev m_T_executes : xj_M := (⟨"ThreePhaseGroupModel", "executes", "(I)Z"⟩, prog_9_method_31_code, 4, (some .boolean))
abbrev m_T_serves : xj_M := (⟨"ThreePhaseGroupModel", "serves", "(II)V"⟩, prog_9_method_32_code, 12, none)
abbrev m_T_truncates : xj_M := (⟨"ThreePhaseGroupModel", "truncates", "(I)Z"⟩, prog_9_method_33_code, 5, (some .boolean))
abbrev m_T_joins : xj_M := (⟨"ThreePhaseGroupModel", "joins", "(I)Z"⟩, prog_9_method_34_code, 5, (some .boolean))
abbrev m_T_begins : xj_M := (⟨"ThreePhaseGroupModel", "begins", "(II)V"⟩, prog_9_method_27_code, 5, none)
abbrev m_T_opens : xj_M := (⟨"ThreePhaseGroupModel", "opens", "(I)Z"⟩, prog_9_method_35_code, 8, (some .boolean))
abbrev m_T_proposes : xj_M := (⟨"ThreePhaseGroupModel", "proposes", "(I)Z"⟩, prog_9_method_36_code, 6, (some .boolean))
abbrev m_T_pump : xj_M := (⟨"ThreePhaseGroupModel", "pump", "(II)I"⟩, prog_9_method_40_code, 6, (some .int))
abbrev m_T_tick : xj_M := (⟨"ThreePhaseGroupModel", "tick", "(I)Z"⟩, prog_9_method_41_code, 2, (some .boolean))
abbrev m_T_corrupt : xj_M := (⟨"ThreePhaseGroupModel", "corrupt", "(I)Z"⟩, prog_9_method_42_code, 2, (some .boolean))
abbrev m_T_forge : xj_M := (⟨"ThreePhaseGroupModel", "forge", "(IIII)I"⟩, prog_9_method_44_code, 5, (some .int))
abbrev m_T_forgeOne : xj_M := (⟨"ThreePhaseGroupModel", "forgeOne", "(IIJI)I"⟩, prog_9_method_43_code, 7, (some .int))
abbrev m_T_forgeCheckpoint : xj_M := (⟨"ThreePhaseGroupModel", "forgeCheckpoint", "(IJ)I"⟩, prog_9_method_45_code, 4, (some .int))
abbrev m_T_messages : xj_M := (⟨"ThreePhaseGroupModel", "messages", "()I"⟩, prog_9_method_46_code, 1, (some .int))
abbrev m_T_look : xj_M := (⟨"ThreePhaseGroupModel", "look", "(II)J"⟩, prog_9_method_47_code, 3, (some .long))
abbrev m_T_mark : xj_M := (⟨"ThreePhaseGroupModel", "mark", "(I)I"⟩, prog_9_method_48_code, 2, (some .int))
abbrev m_T_view : xj_M := (⟨"ThreePhaseGroupModel", "view", "(I)I"⟩, prog_9_method_49_code, 2, (some .int))
abbrev m_T_executed : xj_M := (⟨"ThreePhaseGroupModel", "executed", "(I)I"⟩, prog_9_method_50_code, 2, (some .int))
abbrev m_T_stable : xj_M := (⟨"ThreePhaseGroupModel", "stable", "(I)I"⟩, prog_9_method_51_code, 2, (some .int))
abbrev m_T_state : xj_M := (⟨"ThreePhaseGroupModel", "state", "(I)J"⟩, prog_9_method_52_code, 2, (some .long))
abbrev m_T_slot : xj_M := (⟨"ThreePhaseGroupModel", "slot", "(II)I"⟩, prog_9_method_53_code, 6, (some .int))
abbrev m_T_ordered : xj_M := (⟨"ThreePhaseGroupModel", "ordered", "(II)I"⟩, prog_9_method_54_code, 4, (some .int))
abbrev m_T_timer : xj_M := (⟨"ThreePhaseGroupModel", "timer", "(I)I"⟩, prog_9_method_55_code, 2, (some .int))
abbrev m_T_outstanding : xj_M := (⟨"ThreePhaseGroupModel", "outstanding", "(I)I"⟩, prog_9_method_56_code, 2, (some .int))
abbrev m_T_answer : xj_M := (⟨"ThreePhaseGroupModel", "answer", "(I)I"⟩, prog_9_method_57_code, 2, (some .int))
theorem mb_G_init : xj_MB m_G_init 0 := ⟨(xj_in1 (List.mem_of_getElem? (i := 16) rfl) rfl), (xj_in1 (List.mem_of_getElem? (i := 1) rfl) rfl), ⟨by decide +kernel, by decide +kernel⟩, by decide +kernel⟩
theorem mi_G_init : xj_MI m_G_init 0 := ⟨mb_G_init, rfl, (xj_in1 (List.mem_of_getElem? (i := 15) rfl) rfl)⟩
-- not initialized: ('java/lang/Object', '<init>', '()V')
theorem mb_B_init : xj_MB m_B_init 0 := ⟨(xj_in1 (List.mem_of_getElem? (i := 24) rfl) rfl), (xj_in1 (List.mem_of_getElem? (i := 2) rfl) rfl), ⟨by decide +kernel, by decide +kernel⟩, by decide +kernel⟩
theorem mi_B_init : xj_MI m_B_init 0 := ⟨mb_B_init, rfl, (xj_in1 (List.mem_of_getElem? (i := 23) rfl) rfl)⟩
theorem mb_R_init : xj_MB m_R_init 2 := ⟨(xj_in1 (List.mem_of_getElem? (i := 79) rfl) rfl), (xj_in1 (List.mem_of_getElem? (i := 3) rfl) rfl), ⟨by decide +kernel, by decide +kernel⟩, by decide +kernel⟩
theorem mi_R_init : xj_MI m_R_init 2 := ⟨mb_R_init, rfl, (xj_in1 (List.mem_of_getElem? (i := 78) rfl) rfl)⟩
theorem mb_N_init : xj_MB m_N_init 0 := ⟨(xj_in1 (List.mem_of_getElem? (i := 87) rfl) rfl), (xj_in1 (List.mem_of_getElem? (i := 4) rfl) rfl), ⟨by decide +kernel, by decide +kernel⟩, by decide +kernel⟩
theorem mi_N_init : xj_MI m_N_init 0 := ⟨mb_N_init, rfl, (xj_in1 (List.mem_of_getElem? (i := 86) rfl) rfl)⟩
theorem mb_S_init : xj_MB m_S_init 0 := ⟨(xj_in1 (List.mem_of_getElem? (i := 101) rfl) rfl), (xj_in1 (List.mem_of_getElem? (i := 5) rfl) rfl), ⟨by decide +kernel, by decide +kernel⟩, by decide +kernel⟩
theorem mi_S_init : xj_MI m_S_init 0 := ⟨mb_S_init, rfl, (xj_in1 (List.mem_of_getElem? (i := 100) rfl) rfl)⟩
theorem mb_S_forgetView : xj_MB m_S_forgetView 0 := ⟨(xj_in1 (List.mem_of_getElem? (i := 106) rfl) rfl), (xj_in1 (List.mem_of_getElem? (i := 5) rfl) rfl), ⟨by decide +kernel, by decide +kernel⟩, by decide +kernel⟩
theorem mv_S_forgetView : xj_MV m_S_forgetView 0 := ⟨mb_S_forgetView, (xj_in1 (List.mem_of_getElem? (i := 104) rfl) rfl), (xj_in1 (List.mem_of_getElem? (i := 105) rfl) rfl)⟩
theorem mb_JA_fillI : xj_MB m_JA_fillI 2 := ⟨(xj_in1 (List.mem_of_getElem? (i := 133) rfl) rfl), (xj_in1 (List.mem_of_getElem? (i := 6) rfl) rfl), ⟨by decide +kernel, by decide +kernel⟩, by decide +kernel⟩
theorem ms_JA_fillI : xj_MS m_JA_fillI 2 := ⟨mb_JA_fillI, (xj_in1 (List.mem_of_getElem? (i := 132) rfl) rfl)⟩
theorem mb_C_init : xj_MB m_C_init 2 := ⟨(xj_in1 (List.mem_of_getElem? (i := 186) rfl) rfl), (xj_in1 (List.mem_of_getElem? (i := 7) rfl) rfl), ⟨by decide +kernel, by decide +kernel⟩, by decide +kernel⟩
theorem mi_C_init : xj_MI m_C_init 2 := ⟨mb_C_init, rfl, (xj_in1 (List.mem_of_getElem? (i := 185) rfl) rfl)⟩
theorem mb_G_submit : xj_MB m_G_submit 4 := ⟨(xj_in1 (List.mem_of_getElem? (i := 228) rfl) rfl), (xj_in1 (List.mem_of_getElem? (i := 1) rfl) rfl), ⟨by decide +kernel, by decide +kernel⟩, by decide +kernel⟩
theorem mv_G_submit : xj_MV m_G_submit 4 := ⟨mb_G_submit, (xj_in1 (List.mem_of_getElem? (i := 226) rfl) rfl), (xj_in1 (List.mem_of_getElem? (i := 227) rfl) rfl)⟩
theorem mb_G_isClient : xj_MB m_G_isClient 1 := ⟨(xj_in1 (List.mem_of_getElem? (i := 231) rfl) rfl), (xj_in1 (List.mem_of_getElem? (i := 1) rfl) rfl), ⟨by decide +kernel, by decide +kernel⟩, by decide +kernel⟩
theorem ms_G_isClient : xj_MS m_G_isClient 1 := ⟨mb_G_isClient, (xj_in1 (List.mem_of_getElem? (i := 230) rfl) rfl)⟩
theorem mb_G_isOperation : xj_MB m_G_isOperation 3 := ⟨(xj_in1 (List.mem_of_getElem? (i := 234) rfl) rfl), (xj_in1 (List.mem_of_getElem? (i := 1) rfl) rfl), ⟨by decide +kernel, by decide +kernel⟩, by decide +kernel⟩
theorem ms_G_isOperation : xj_MS m_G_isOperation 3 := ⟨mb_G_isOperation, (xj_in1 (List.mem_of_getElem? (i := 233) rfl) rfl)⟩
theorem mb_B_isFull : xj_MB m_B_isFull 0 := ⟨(xj_in1 (List.mem_of_getElem? (i := 238) rfl) rfl), (xj_in1 (List.mem_of_getElem? (i := 2) rfl) rfl), ⟨by decide +kernel, by decide +kernel⟩, by decide +kernel⟩
theorem mv_B_isFull : xj_MV m_B_isFull 0 := ⟨mb_B_isFull, (xj_in1 (List.mem_of_getElem? (i := 236) rfl) rfl), (xj_in1 (List.mem_of_getElem? (i := 237) rfl) rfl)⟩
theorem mb_C_openNext : xj_MB m_C_openNext 0 := ⟨(xj_in2 (List.mem_of_getElem? (i := 2) rfl) rfl), (xj_in1 (List.mem_of_getElem? (i := 7) rfl) rfl), ⟨by decide +kernel, by decide +kernel⟩, by decide +kernel⟩
theorem mv_C_openNext : xj_MV m_C_openNext 0 := ⟨mb_C_openNext, (xj_in2 (List.mem_of_getElem? (i := 0) rfl) rfl), (xj_in2 (List.mem_of_getElem? (i := 1) rfl) rfl)⟩
theorem mb_JA_fillJ : xj_MB m_JA_fillJ 2 := ⟨(xj_in2 (List.mem_of_getElem? (i := 6) rfl) rfl), (xj_in1 (List.mem_of_getElem? (i := 6) rfl) rfl), ⟨by decide +kernel, by decide +kernel⟩, by decide +kernel⟩
theorem ms_JA_fillJ : xj_MS m_JA_fillJ 2 := ⟨mb_JA_fillJ, (xj_in2 (List.mem_of_getElem? (i := 5) rfl) rfl)⟩
theorem mb_B_post : xj_MB m_B_post 5 := ⟨(xj_in2 (List.mem_of_getElem? (i := 10) rfl) rfl), (xj_in1 (List.mem_of_getElem? (i := 2) rfl) rfl), ⟨by decide +kernel, by decide +kernel⟩, by decide +kernel⟩
theorem mv_B_post : xj_MV m_B_post 5 := ⟨mb_B_post, (xj_in2 (List.mem_of_getElem? (i := 8) rfl) rfl), (xj_in2 (List.mem_of_getElem? (i := 9) rfl) rfl)⟩
theorem mb_G_deliver : xj_MB m_G_deliver 2 := ⟨(xj_in2 (List.mem_of_getElem? (i := 14) rfl) rfl), (xj_in1 (List.mem_of_getElem? (i := 1) rfl) rfl), ⟨by decide +kernel, by decide +kernel⟩, by decide +kernel⟩
theorem mv_G_deliver : xj_MV m_G_deliver 2 := ⟨mb_G_deliver, (xj_in2 (List.mem_of_getElem? (i := 12) rfl) rfl), (xj_in2 (List.mem_of_getElem? (i := 13) rfl) rfl)⟩
theorem mb_B_has : xj_MB m_B_has 1 := ⟨(xj_in2 (List.mem_of_getElem? (i := 18) rfl) rfl), (xj_in1 (List.mem_of_getElem? (i := 2) rfl) rfl), ⟨by decide +kernel, by decide +kernel⟩, by decide +kernel⟩
theorem mv_B_has : xj_MV m_B_has 1 := ⟨mb_B_has, (xj_in2 (List.mem_of_getElem? (i := 16) rfl) rfl), (xj_in2 (List.mem_of_getElem? (i := 17) rfl) rfl)⟩
theorem mb_G_isParty : xj_MB m_G_isParty 1 := ⟨(xj_in2 (List.mem_of_getElem? (i := 21) rfl) rfl), (xj_in1 (List.mem_of_getElem? (i := 1) rfl) rfl), ⟨by decide +kernel, by decide +kernel⟩, by decide +kernel⟩
theorem ms_G_isParty : xj_MS m_G_isParty 1 := ⟨mb_G_isParty, (xj_in2 (List.mem_of_getElem? (i := 20) rfl) rfl)⟩
theorem mb_G_give : xj_MB m_G_give 2 := ⟨(xj_in2 (List.mem_of_getElem? (i := 25) rfl) rfl), (xj_in1 (List.mem_of_getElem? (i := 1) rfl) rfl), ⟨by decide +kernel, by decide +kernel⟩, by decide +kernel⟩
theorem mv_G_give : xj_MV m_G_give 2 := ⟨mb_G_give, (xj_in2 (List.mem_of_getElem? (i := 24) rfl) rfl), (xj_sel (q := (⟨"ThreePhaseGroup", "give", "(II)Z"⟩, 5)) (List.mem_of_getElem? (i := 0) rfl))⟩
theorem mb_C_takes : xj_MB m_C_takes 1 := ⟨(xj_in2 (List.mem_of_getElem? (i := 29) rfl) rfl), (xj_in1 (List.mem_of_getElem? (i := 7) rfl) rfl), ⟨by decide +kernel, by decide +kernel⟩, by decide +kernel⟩
theorem mv_C_takes : xj_MV m_C_takes 1 := ⟨mb_C_takes, (xj_in2 (List.mem_of_getElem? (i := 27) rfl) rfl), (xj_in2 (List.mem_of_getElem? (i := 28) rfl) rfl)⟩
theorem mb_C_countReplies : xj_MB m_C_countReplies 1 := ⟨(xj_in2 (List.mem_of_getElem? (i := 33) rfl) rfl), (xj_in1 (List.mem_of_getElem? (i := 7) rfl) rfl), ⟨by decide +kernel, by decide +kernel⟩, by decide +kernel⟩
theorem mv_C_countReplies : xj_MV m_C_countReplies 1 := ⟨mb_C_countReplies, (xj_in2 (List.mem_of_getElem? (i := 32) rfl) rfl), (xj_sel (q := (⟨"ThreePhaseGroup$Client", "countReplies", "(I)I"⟩, 6)) (List.mem_of_getElem? (i := 1) rfl))⟩
theorem mb_R_takes : xj_MB m_R_takes 1 := ⟨(xj_in2 (List.mem_of_getElem? (i := 37) rfl) rfl), (xj_in1 (List.mem_of_getElem? (i := 3) rfl) rfl), ⟨by decide +kernel, by decide +kernel⟩, by decide +kernel⟩
theorem mv_R_takes : xj_MV m_R_takes 1 := ⟨mb_R_takes, (xj_in2 (List.mem_of_getElem? (i := 35) rfl) rfl), (xj_in2 (List.mem_of_getElem? (i := 36) rfl) rfl)⟩
theorem mb_R_takesRequest : xj_MB m_R_takesRequest 1 := ⟨(xj_in2 (List.mem_of_getElem? (i := 41) rfl) rfl), (xj_in1 (List.mem_of_getElem? (i := 3) rfl) rfl), ⟨by decide +kernel, by decide +kernel⟩, by decide +kernel⟩
theorem mv_R_takesRequest : xj_MV m_R_takesRequest 1 := ⟨mb_R_takesRequest, (xj_in2 (List.mem_of_getElem? (i := 40) rfl) rfl), (xj_sel (q := (⟨"ThreePhaseGroup$Replica", "takesRequest", "(I)Z"⟩, 14)) (List.mem_of_getElem? (i := 2) rfl))⟩
theorem mb_N_has : xj_MB m_N_has 1 := ⟨(xj_in2 (List.mem_of_getElem? (i := 45) rfl) rfl), (xj_in1 (List.mem_of_getElem? (i := 4) rfl) rfl), ⟨by decide +kernel, by decide +kernel⟩, by decide +kernel⟩
theorem mv_N_has : xj_MV m_N_has 1 := ⟨mb_N_has, (xj_in2 (List.mem_of_getElem? (i := 43) rfl) rfl), (xj_in2 (List.mem_of_getElem? (i := 44) rfl) rfl)⟩
theorem mb_R_wouldWait : xj_MB m_R_wouldWait 1 := ⟨(xj_in2 (List.mem_of_getElem? (i := 49) rfl) rfl), (xj_in1 (List.mem_of_getElem? (i := 3) rfl) rfl), ⟨by decide +kernel, by decide +kernel⟩, by decide +kernel⟩
theorem mv_R_wouldWait : xj_MV m_R_wouldWait 1 := ⟨mb_R_wouldWait, (xj_in2 (List.mem_of_getElem? (i := 48) rfl) rfl), (xj_sel (q := (⟨"ThreePhaseGroup$Replica", "wouldWait", "(I)Z"⟩, 14)) (List.mem_of_getElem? (i := 3) rfl))⟩
theorem mb_V_timestampOf : xj_MB m_V_timestampOf 2 := ⟨(xj_in2 (List.mem_of_getElem? (i := 52) rfl) rfl), (xj_in1 (List.mem_of_getElem? (i := 9) rfl) rfl), ⟨by decide +kernel, by decide +kernel⟩, by decide +kernel⟩
theorem ms_V_timestampOf : xj_MS m_V_timestampOf 2 := ⟨mb_V_timestampOf, (xj_in2 (List.mem_of_getElem? (i := 51) rfl) rfl)⟩
theorem mb_R_learn : xj_MB m_R_learn 1 := ⟨(xj_in2 (List.mem_of_getElem? (i := 56) rfl) rfl), (xj_in1 (List.mem_of_getElem? (i := 3) rfl) rfl), ⟨by decide +kernel, by decide +kernel⟩, by decide +kernel⟩
theorem mv_R_learn : xj_MV m_R_learn 1 := ⟨mb_R_learn, (xj_in2 (List.mem_of_getElem? (i := 55) rfl) rfl), (xj_sel (q := (⟨"ThreePhaseGroup$Replica", "learn", "(I)V"⟩, 14)) (List.mem_of_getElem? (i := 4) rfl))⟩
theorem mb_N_add : xj_MB m_N_add 1 := ⟨(xj_in2 (List.mem_of_getElem? (i := 60) rfl) rfl), (xj_in1 (List.mem_of_getElem? (i := 4) rfl) rfl), ⟨by decide +kernel, by decide +kernel⟩, by decide +kernel⟩
theorem mv_N_add : xj_MV m_N_add 1 := ⟨mb_N_add, (xj_in2 (List.mem_of_getElem? (i := 58) rfl) rfl), (xj_in2 (List.mem_of_getElem? (i := 59) rfl) rfl)⟩
theorem mb_R_takesPrePrepare : xj_MB m_R_takesPrePrepare 1 := ⟨(xj_in2 (List.mem_of_getElem? (i := 65) rfl) rfl), (xj_in1 (List.mem_of_getElem? (i := 3) rfl) rfl), ⟨by decide +kernel, by decide +kernel⟩, by decide +kernel⟩
theorem mv_R_takesPrePrepare : xj_MV m_R_takesPrePrepare 1 := ⟨mb_R_takesPrePrepare, (xj_in2 (List.mem_of_getElem? (i := 64) rfl) rfl), (xj_sel (q := (⟨"ThreePhaseGroup$Replica", "takesPrePrepare", "(I)Z"⟩, 14)) (List.mem_of_getElem? (i := 5) rfl))⟩
theorem mb_R_isOfThisView : xj_MB m_R_isOfThisView 1 := ⟨(xj_in2 (List.mem_of_getElem? (i := 69) rfl) rfl), (xj_in1 (List.mem_of_getElem? (i := 3) rfl) rfl), ⟨by decide +kernel, by decide +kernel⟩, by decide +kernel⟩
theorem mv_R_isOfThisView : xj_MV m_R_isOfThisView 1 := ⟨mb_R_isOfThisView, (xj_in2 (List.mem_of_getElem? (i := 68) rfl) rfl), (xj_sel (q := (⟨"ThreePhaseGroup$Replica", "isOfThisView", "(I)Z"⟩, 14)) (List.mem_of_getElem? (i := 6) rfl))⟩
theorem mb_R_inWindow : xj_MB m_R_inWindow 1 := ⟨(xj_in2 (List.mem_of_getElem? (i := 73) rfl) rfl), (xj_in1 (List.mem_of_getElem? (i := 3) rfl) rfl), ⟨by decide +kernel, by decide +kernel⟩, by decide +kernel⟩
theorem mv_R_inWindow : xj_MV m_R_inWindow 1 := ⟨mb_R_inWindow, (xj_in2 (List.mem_of_getElem? (i := 71) rfl) rfl), (xj_in2 (List.mem_of_getElem? (i := 72) rfl) rfl)⟩
theorem mb_G_primaryOf : xj_MB m_G_primaryOf 1 := ⟨(xj_in2 (List.mem_of_getElem? (i := 76) rfl) rfl), (xj_in1 (List.mem_of_getElem? (i := 1) rfl) rfl), ⟨by decide +kernel, by decide +kernel⟩, by decide +kernel⟩
theorem ms_G_primaryOf : xj_MS m_G_primaryOf 1 := ⟨mb_G_primaryOf, (xj_in2 (List.mem_of_getElem? (i := 75) rfl) rfl)⟩
theorem mb_R_slotAt : xj_MB m_R_slotAt 1 := ⟨(xj_in2 (List.mem_of_getElem? (i := 80) rfl) rfl), (xj_in1 (List.mem_of_getElem? (i := 3) rfl) rfl), ⟨by decide +kernel, by decide +kernel⟩, by decide +kernel⟩
theorem mv_R_slotAt : xj_MV m_R_slotAt 1 := ⟨mb_R_slotAt, (xj_in2 (List.mem_of_getElem? (i := 78) rfl) rfl), (xj_in2 (List.mem_of_getElem? (i := 79) rfl) rfl)⟩
theorem mb_B_hasRequestBelow : xj_MB m_B_hasRequestBelow 2 := ⟨(xj_in2 (List.mem_of_getElem? (i := 84) rfl) rfl), (xj_in1 (List.mem_of_getElem? (i := 2) rfl) rfl), ⟨by decide +kernel, by decide +kernel⟩, by decide +kernel⟩
theorem mv_B_hasRequestBelow : xj_MV m_B_hasRequestBelow 2 := ⟨mb_B_hasRequestBelow, (xj_in2 (List.mem_of_getElem? (i := 82) rfl) rfl), (xj_in2 (List.mem_of_getElem? (i := 83) rfl) rfl)⟩
theorem mb_R_takesPhase : xj_MB m_R_takesPhase 1 := ⟨(xj_in2 (List.mem_of_getElem? (i := 88) rfl) rfl), (xj_in1 (List.mem_of_getElem? (i := 3) rfl) rfl), ⟨by decide +kernel, by decide +kernel⟩, by decide +kernel⟩
theorem mv_R_takesPhase : xj_MV m_R_takesPhase 1 := ⟨mb_R_takesPhase, (xj_in2 (List.mem_of_getElem? (i := 87) rfl) rfl), (xj_sel (q := (⟨"ThreePhaseGroup$Replica", "takesPhase", "(I)Z"⟩, 14)) (List.mem_of_getElem? (i := 7) rfl))⟩
theorem mb_R_takesCheckpoint : xj_MB m_R_takesCheckpoint 1 := ⟨(xj_in2 (List.mem_of_getElem? (i := 93) rfl) rfl), (xj_in1 (List.mem_of_getElem? (i := 3) rfl) rfl), ⟨by decide +kernel, by decide +kernel⟩, by decide +kernel⟩
theorem mv_R_takesCheckpoint : xj_MV m_R_takesCheckpoint 1 := ⟨mb_R_takesCheckpoint, (xj_in2 (List.mem_of_getElem? (i := 92) rfl) rfl), (xj_sel (q := (⟨"ThreePhaseGroup$Replica", "takesCheckpoint", "(I)Z"⟩, 14)) (List.mem_of_getElem? (i := 8) rfl))⟩
theorem mb_R_takesViewChange : xj_MB m_R_takesViewChange 1 := ⟨(xj_in2 (List.mem_of_getElem? (i := 97) rfl) rfl), (xj_in1 (List.mem_of_getElem? (i := 3) rfl) rfl), ⟨by decide +kernel, by decide +kernel⟩, by decide +kernel⟩
theorem mv_R_takesViewChange : xj_MV m_R_takesViewChange 1 := ⟨mb_R_takesViewChange, (xj_in2 (List.mem_of_getElem? (i := 96) rfl) rfl), (xj_sel (q := (⟨"ThreePhaseGroup$Replica", "takesViewChange", "(I)Z"⟩, 14)) (List.mem_of_getElem? (i := 9) rfl))⟩
theorem mb_R_isAhead : xj_MB m_R_isAhead 1 := ⟨(xj_in2 (List.mem_of_getElem? (i := 101) rfl) rfl), (xj_in1 (List.mem_of_getElem? (i := 3) rfl) rfl), ⟨by decide +kernel, by decide +kernel⟩, by decide +kernel⟩
theorem mv_R_isAhead : xj_MV m_R_isAhead 1 := ⟨mb_R_isAhead, (xj_in2 (List.mem_of_getElem? (i := 100) rfl) rfl), (xj_sel (q := (⟨"ThreePhaseGroup$Replica", "isAhead", "(I)Z"⟩, 14)) (List.mem_of_getElem? (i := 10) rfl))⟩
theorem mb_R_takesNewView : xj_MB m_R_takesNewView 1 := ⟨(xj_in2 (List.mem_of_getElem? (i := 105) rfl) rfl), (xj_in1 (List.mem_of_getElem? (i := 3) rfl) rfl), ⟨by decide +kernel, by decide +kernel⟩, by decide +kernel⟩
theorem mv_R_takesNewView : xj_MV m_R_takesNewView 1 := ⟨mb_R_takesNewView, (xj_in2 (List.mem_of_getElem? (i := 104) rfl) rfl), (xj_sel (q := (⟨"ThreePhaseGroup$Replica", "takesNewView", "(I)Z"⟩, 14)) (List.mem_of_getElem? (i := 11) rfl))⟩
theorem mb_R_enter : xj_MB m_R_enter 1 := ⟨(xj_in2 (List.mem_of_getElem? (i := 109) rfl) rfl), (xj_in1 (List.mem_of_getElem? (i := 3) rfl) rfl), ⟨by decide +kernel, by decide +kernel⟩, by decide +kernel⟩
theorem mv_R_enter : xj_MV m_R_enter 1 := ⟨mb_R_enter, (xj_in2 (List.mem_of_getElem? (i := 108) rfl) rfl), (xj_sel (q := (⟨"ThreePhaseGroup$Replica", "enter", "(I)V"⟩, 14)) (List.mem_of_getElem? (i := 12) rfl))⟩
theorem mb_R_moveTo : xj_MB m_R_moveTo 1 := ⟨(xj_in2 (List.mem_of_getElem? (i := 113) rfl) rfl), (xj_in1 (List.mem_of_getElem? (i := 3) rfl) rfl), ⟨by decide +kernel, by decide +kernel⟩, by decide +kernel⟩
theorem mv_R_moveTo : xj_MV m_R_moveTo 1 := ⟨mb_R_moveTo, (xj_in2 (List.mem_of_getElem? (i := 112) rfl) rfl), (xj_sel (q := (⟨"ThreePhaseGroup$Replica", "moveTo", "(I)V"⟩, 14)) (List.mem_of_getElem? (i := 13) rfl))⟩
theorem mb_B_startOf : xj_MB m_B_startOf 1 := ⟨(xj_in2 (List.mem_of_getElem? (i := 118) rfl) rfl), (xj_in1 (List.mem_of_getElem? (i := 2) rfl) rfl), ⟨by decide +kernel, by decide +kernel⟩, by decide +kernel⟩
theorem mv_B_startOf : xj_MV m_B_startOf 1 := ⟨mb_B_startOf, (xj_in2 (List.mem_of_getElem? (i := 116) rfl) rfl), (xj_in2 (List.mem_of_getElem? (i := 117) rfl) rfl)⟩
theorem mb_B_voteOf : xj_MB m_B_voteOf 2 := ⟨(xj_in2 (List.mem_of_getElem? (i := 121) rfl) rfl), (xj_in1 (List.mem_of_getElem? (i := 2) rfl) rfl), ⟨by decide +kernel, by decide +kernel⟩, by decide +kernel⟩
theorem ms_B_voteOf : xj_MS m_B_voteOf 2 := ⟨mb_B_voteOf, (xj_in2 (List.mem_of_getElem? (i := 120) rfl) rfl)⟩
theorem mb_JM_max : xj_MB m_JM_max 2 := ⟨(xj_in2 (List.mem_of_getElem? (i := 124) rfl) rfl), (xj_in1 (List.mem_of_getElem? (i := 10) rfl) rfl), ⟨by decide +kernel, by decide +kernel⟩, by decide +kernel⟩
theorem ms_JM_max : xj_MS m_JM_max 2 := ⟨mb_JM_max, (xj_in2 (List.mem_of_getElem? (i := 123) rfl) rfl)⟩
theorem mb_B_certificate : xj_MB m_B_certificate 2 := ⟨(xj_in2 (List.mem_of_getElem? (i := 128) rfl) rfl), (xj_in1 (List.mem_of_getElem? (i := 2) rfl) rfl), ⟨by decide +kernel, by decide +kernel⟩, by decide +kernel⟩
theorem mv_B_certificate : xj_MV m_B_certificate 2 := ⟨mb_B_certificate, (xj_in2 (List.mem_of_getElem? (i := 126) rfl) rfl), (xj_in2 (List.mem_of_getElem? (i := 127) rfl) rfl)⟩
theorem mb_B_countCheckpoints : xj_MB m_B_countCheckpoints 2 := ⟨(xj_in2 (List.mem_of_getElem? (i := 132) rfl) rfl), (xj_in1 (List.mem_of_getElem? (i := 2) rfl) rfl), ⟨by decide +kernel, by decide +kernel⟩, by decide +kernel⟩
theorem mv_B_countCheckpoints : xj_MV m_B_countCheckpoints 2 := ⟨mb_B_countCheckpoints, (xj_in2 (List.mem_of_getElem? (i := 131) rfl) rfl), (xj_sel (q := (⟨"ThreePhaseGroup$Board", "countCheckpoints", "(II)I"⟩, 8)) (List.mem_of_getElem? (i := 14) rfl))⟩
theorem mb_JI_bitCount : xj_MB m_JI_bitCount 1 := ⟨(xj_in2 (List.mem_of_getElem? (i := 135) rfl) rfl), (xj_in1 (List.mem_of_getElem? (i := 11) rfl) rfl), ⟨by decide +kernel, by decide +kernel⟩, by decide +kernel⟩
theorem ms_JI_bitCount : xj_MS m_JI_bitCount 1 := ⟨mb_JI_bitCount, (xj_in2 (List.mem_of_getElem? (i := 134) rfl) rfl)⟩
theorem mb_R_settle : xj_MB m_R_settle 2 := ⟨(xj_in2 (List.mem_of_getElem? (i := 142) rfl) rfl), (xj_in1 (List.mem_of_getElem? (i := 3) rfl) rfl), ⟨by decide +kernel, by decide +kernel⟩, by decide +kernel⟩
theorem mv_R_settle : xj_MV m_R_settle 2 := ⟨mb_R_settle, (xj_in2 (List.mem_of_getElem? (i := 141) rfl) rfl), (xj_sel (q := (⟨"ThreePhaseGroup$Replica", "settle", "(IJ)V"⟩, 14)) (List.mem_of_getElem? (i := 15) rfl))⟩
theorem mb_S_forgetProofs : xj_MB m_S_forgetProofs 0 := ⟨(xj_in2 (List.mem_of_getElem? (i := 146) rfl) rfl), (xj_in1 (List.mem_of_getElem? (i := 5) rfl) rfl), ⟨by decide +kernel, by decide +kernel⟩, by decide +kernel⟩
theorem mv_S_forgetProofs : xj_MV m_S_forgetProofs 0 := ⟨mb_S_forgetProofs, (xj_in2 (List.mem_of_getElem? (i := 144) rfl) rfl), (xj_in2 (List.mem_of_getElem? (i := 145) rfl) rfl)⟩
theorem mb_R_followRules : xj_MB m_R_followRules 0 := ⟨(xj_in2 (List.mem_of_getElem? (i := 150) rfl) rfl), (xj_in1 (List.mem_of_getElem? (i := 3) rfl) rfl), ⟨by decide +kernel, by decide +kernel⟩, by decide +kernel⟩
theorem mv_R_followRules : xj_MV m_R_followRules 0 := ⟨mb_R_followRules, (xj_in2 (List.mem_of_getElem? (i := 148) rfl) rfl), (xj_in2 (List.mem_of_getElem? (i := 149) rfl) rfl)⟩
theorem mb_R_prepareNext : xj_MB m_R_prepareNext 0 := ⟨(xj_in2 (List.mem_of_getElem? (i := 155) rfl) rfl), (xj_in1 (List.mem_of_getElem? (i := 3) rfl) rfl), ⟨by decide +kernel, by decide +kernel⟩, by decide +kernel⟩
theorem mv_R_prepareNext : xj_MV m_R_prepareNext 0 := ⟨mb_R_prepareNext, (xj_in2 (List.mem_of_getElem? (i := 154) rfl) rfl), (xj_sel (q := (⟨"ThreePhaseGroup$Replica", "prepareNext", "()Z"⟩, 14)) (List.mem_of_getElem? (i := 16) rfl))⟩
theorem mb_R_isPrimary : xj_MB m_R_isPrimary 0 := ⟨(xj_in2 (List.mem_of_getElem? (i := 159) rfl) rfl), (xj_in1 (List.mem_of_getElem? (i := 3) rfl) rfl), ⟨by decide +kernel, by decide +kernel⟩, by decide +kernel⟩
theorem mv_R_isPrimary : xj_MV m_R_isPrimary 0 := ⟨mb_R_isPrimary, (xj_in2 (List.mem_of_getElem? (i := 158) rfl) rfl), (xj_sel (q := (⟨"ThreePhaseGroup$Replica", "isPrimary", "()Z"⟩, 14)) (List.mem_of_getElem? (i := 17) rfl))⟩
theorem mb_R_commitNext : xj_MB m_R_commitNext 0 := ⟨(xj_in2 (List.mem_of_getElem? (i := 164) rfl) rfl), (xj_in1 (List.mem_of_getElem? (i := 3) rfl) rfl), ⟨by decide +kernel, by decide +kernel⟩, by decide +kernel⟩
theorem mv_R_commitNext : xj_MV m_R_commitNext 0 := ⟨mb_R_commitNext, (xj_in2 (List.mem_of_getElem? (i := 163) rfl) rfl), (xj_sel (q := (⟨"ThreePhaseGroup$Replica", "commitNext", "()Z"⟩, 14)) (List.mem_of_getElem? (i := 18) rfl))⟩
theorem mb_S_countPrepares : xj_MB m_S_countPrepares 0 := ⟨(xj_in2 (List.mem_of_getElem? (i := 168) rfl) rfl), (xj_in1 (List.mem_of_getElem? (i := 5) rfl) rfl), ⟨by decide +kernel, by decide +kernel⟩, by decide +kernel⟩
theorem mv_S_countPrepares : xj_MV m_S_countPrepares 0 := ⟨mb_S_countPrepares, (xj_in2 (List.mem_of_getElem? (i := 166) rfl) rfl), (xj_in2 (List.mem_of_getElem? (i := 167) rfl) rfl)⟩
theorem mb_S_countAccepted : xj_MB m_S_countAccepted 1 := ⟨(xj_in2 (List.mem_of_getElem? (i := 172) rfl) rfl), (xj_in1 (List.mem_of_getElem? (i := 5) rfl) rfl), ⟨by decide +kernel, by decide +kernel⟩, by decide +kernel⟩
theorem mv_S_countAccepted : xj_MV m_S_countAccepted 1 := ⟨mb_S_countAccepted, (xj_in2 (List.mem_of_getElem? (i := 171) rfl) rfl), (xj_sel (q := (⟨"ThreePhaseGroup$Slot", "countAccepted", "([J)I"⟩, 5)) (List.mem_of_getElem? (i := 19) rfl))⟩
theorem mb_R_decideNext : xj_MB m_R_decideNext 0 := ⟨(xj_in2 (List.mem_of_getElem? (i := 176) rfl) rfl), (xj_in1 (List.mem_of_getElem? (i := 3) rfl) rfl), ⟨by decide +kernel, by decide +kernel⟩, by decide +kernel⟩
theorem mv_R_decideNext : xj_MV m_R_decideNext 0 := ⟨mb_R_decideNext, (xj_in2 (List.mem_of_getElem? (i := 175) rfl) rfl), (xj_sel (q := (⟨"ThreePhaseGroup$Replica", "decideNext", "()Z"⟩, 14)) (List.mem_of_getElem? (i := 20) rfl))⟩
theorem mb_S_countCommits : xj_MB m_S_countCommits 0 := ⟨(xj_in2 (List.mem_of_getElem? (i := 180) rfl) rfl), (xj_in1 (List.mem_of_getElem? (i := 5) rfl) rfl), ⟨by decide +kernel, by decide +kernel⟩, by decide +kernel⟩
theorem mv_S_countCommits : xj_MV m_S_countCommits 0 := ⟨mb_S_countCommits, (xj_in2 (List.mem_of_getElem? (i := 178) rfl) rfl), (xj_in2 (List.mem_of_getElem? (i := 179) rfl) rfl)⟩
theorem mb_R_executeNext : xj_MB m_R_executeNext 0 := ⟨(xj_in2 (List.mem_of_getElem? (i := 184) rfl) rfl), (xj_in1 (List.mem_of_getElem? (i := 3) rfl) rfl), ⟨by decide +kernel, by decide +kernel⟩, by decide +kernel⟩
theorem mv_R_executeNext : xj_MV m_R_executeNext 0 := ⟨mb_R_executeNext, (xj_in2 (List.mem_of_getElem? (i := 183) rfl) rfl), (xj_sel (q := (⟨"ThreePhaseGroup$Replica", "executeNext", "()Z"⟩, 14)) (List.mem_of_getElem? (i := 21) rfl))⟩
theorem mb_R_execute : xj_MB m_R_execute 1 := ⟨(xj_in2 (List.mem_of_getElem? (i := 188) rfl) rfl), (xj_in1 (List.mem_of_getElem? (i := 3) rfl) rfl), ⟨by decide +kernel, by decide +kernel⟩, by decide +kernel⟩
theorem mv_R_execute : xj_MV m_R_execute 1 := ⟨mb_R_execute, (xj_in2 (List.mem_of_getElem? (i := 187) rfl) rfl), (xj_sel (q := (⟨"ThreePhaseGroup$Replica", "execute", "(I)V"⟩, 14)) (List.mem_of_getElem? (i := 22) rfl))⟩
theorem mb_V_valueOf : xj_MB m_V_valueOf 2 := ⟨(xj_in2 (List.mem_of_getElem? (i := 191) rfl) rfl), (xj_in1 (List.mem_of_getElem? (i := 9) rfl) rfl), ⟨by decide +kernel, by decide +kernel⟩, by decide +kernel⟩
theorem ms_V_valueOf : xj_MS m_V_valueOf 2 := ⟨mb_V_valueOf, (xj_in2 (List.mem_of_getElem? (i := 190) rfl) rfl)⟩
theorem mb_V_valueAfter : xj_MB m_V_valueAfter 3 := ⟨(xj_in2 (List.mem_of_getElem? (i := 194) rfl) rfl), (xj_in1 (List.mem_of_getElem? (i := 9) rfl) rfl), ⟨by decide +kernel, by decide +kernel⟩, by decide +kernel⟩
theorem ms_V_valueAfter : xj_MS m_V_valueAfter 3 := ⟨mb_V_valueAfter, (xj_in2 (List.mem_of_getElem? (i := 193) rfl) rfl)⟩
theorem mb_V_withValue : xj_MB m_V_withValue 3 := ⟨(xj_in2 (List.mem_of_getElem? (i := 197) rfl) rfl), (xj_in1 (List.mem_of_getElem? (i := 9) rfl) rfl), ⟨by decide +kernel, by decide +kernel⟩, by decide +kernel⟩
theorem ms_V_withValue : xj_MS m_V_withValue 3 := ⟨mb_V_withValue, (xj_in2 (List.mem_of_getElem? (i := 196) rfl) rfl)⟩
theorem mb_V_withBits : xj_MB m_V_withBits 4 := ⟨(xj_in2 (List.mem_of_getElem? (i := 201) rfl) rfl), (xj_in1 (List.mem_of_getElem? (i := 9) rfl) rfl), ⟨by decide +kernel, by decide +kernel⟩, by decide +kernel⟩
theorem ms_V_withBits : xj_MS m_V_withBits 4 := ⟨mb_V_withBits, (xj_in2 (List.mem_of_getElem? (i := 200) rfl) rfl)⟩
theorem mb_V_withResult : xj_MB m_V_withResult 4 := ⟨(xj_in2 (List.mem_of_getElem? (i := 205) rfl) rfl), (xj_in1 (List.mem_of_getElem? (i := 9) rfl) rfl), ⟨by decide +kernel, by decide +kernel⟩, by decide +kernel⟩
theorem ms_V_withResult : xj_MS m_V_withResult 4 := ⟨mb_V_withResult, (xj_in2 (List.mem_of_getElem? (i := 204) rfl) rfl)⟩
theorem mb_R_settleNext : xj_MB m_R_settleNext 0 := ⟨(xj_in2 (List.mem_of_getElem? (i := 210) rfl) rfl), (xj_in1 (List.mem_of_getElem? (i := 3) rfl) rfl), ⟨by decide +kernel, by decide +kernel⟩, by decide +kernel⟩
theorem mv_R_settleNext : xj_MV m_R_settleNext 0 := ⟨mb_R_settleNext, (xj_in2 (List.mem_of_getElem? (i := 209) rfl) rfl), (xj_sel (q := (⟨"ThreePhaseGroup$Replica", "settleNext", "()Z"⟩, 14)) (List.mem_of_getElem? (i := 23) rfl))⟩
theorem mb_R_countNotedLike : xj_MB m_R_countNotedLike 1 := ⟨(xj_in2 (List.mem_of_getElem? (i := 214) rfl) rfl), (xj_in1 (List.mem_of_getElem? (i := 3) rfl) rfl), ⟨by decide +kernel, by decide +kernel⟩, by decide +kernel⟩
theorem mv_R_countNotedLike : xj_MV m_R_countNotedLike 1 := ⟨mb_R_countNotedLike, (xj_in2 (List.mem_of_getElem? (i := 213) rfl) rfl), (xj_sel (q := (⟨"ThreePhaseGroup$Replica", "countNotedLike", "(I)I"⟩, 14)) (List.mem_of_getElem? (i := 24) rfl))⟩
theorem mb_R_joinChange : xj_MB m_R_joinChange 0 := ⟨(xj_in2 (List.mem_of_getElem? (i := 219) rfl) rfl), (xj_in1 (List.mem_of_getElem? (i := 3) rfl) rfl), ⟨by decide +kernel, by decide +kernel⟩, by decide +kernel⟩
theorem mv_R_joinChange : xj_MV m_R_joinChange 0 := ⟨mb_R_joinChange, (xj_in2 (List.mem_of_getElem? (i := 218) rfl) rfl), (xj_sel (q := (⟨"ThreePhaseGroup$Replica", "joinChange", "()Z"⟩, 14)) (List.mem_of_getElem? (i := 25) rfl))⟩
theorem mb_JM_min : xj_MB m_JM_min 2 := ⟨(xj_in2 (List.mem_of_getElem? (i := 222) rfl) rfl), (xj_in1 (List.mem_of_getElem? (i := 10) rfl) rfl), ⟨by decide +kernel, by decide +kernel⟩, by decide +kernel⟩
theorem ms_JM_min : xj_MS m_JM_min 2 := ⟨mb_JM_min, (xj_in2 (List.mem_of_getElem? (i := 221) rfl) rfl)⟩
theorem mb_R_begin : xj_MB m_R_begin 1 := ⟨(xj_in2 (List.mem_of_getElem? (i := 226) rfl) rfl), (xj_in1 (List.mem_of_getElem? (i := 3) rfl) rfl), ⟨by decide +kernel, by decide +kernel⟩, by decide +kernel⟩
theorem mv_R_begin : xj_MV m_R_begin 1 := ⟨mb_R_begin, (xj_in2 (List.mem_of_getElem? (i := 225) rfl) rfl), (xj_sel (q := (⟨"ThreePhaseGroup$Replica", "begin", "(I)V"⟩, 14)) (List.mem_of_getElem? (i := 26) rfl))⟩
theorem mb_R_openView : xj_MB m_R_openView 0 := ⟨(xj_in2 (List.mem_of_getElem? (i := 230) rfl) rfl), (xj_in1 (List.mem_of_getElem? (i := 3) rfl) rfl), ⟨by decide +kernel, by decide +kernel⟩, by decide +kernel⟩
theorem mv_R_openView : xj_MV m_R_openView 0 := ⟨mb_R_openView, (xj_in2 (List.mem_of_getElem? (i := 229) rfl) rfl), (xj_sel (q := (⟨"ThreePhaseGroup$Replica", "openView", "()Z"⟩, 14)) (List.mem_of_getElem? (i := 27) rfl))⟩
theorem mb_R_votesForView : xj_MB m_R_votesForView 1 := ⟨(xj_in2 (List.mem_of_getElem? (i := 234) rfl) rfl), (xj_in1 (List.mem_of_getElem? (i := 3) rfl) rfl), ⟨by decide +kernel, by decide +kernel⟩, by decide +kernel⟩
theorem mv_R_votesForView : xj_MV m_R_votesForView 1 := ⟨mb_R_votesForView, (xj_in2 (List.mem_of_getElem? (i := 233) rfl) rfl), (xj_sel (q := (⟨"ThreePhaseGroup$Replica", "votesForView", "(I)Z"⟩, 14)) (List.mem_of_getElem? (i := 28) rfl))⟩
theorem mb_B_ordersDue : xj_MB m_B_ordersDue 1 := ⟨(xj_in2 (List.mem_of_getElem? (i := 238) rfl) rfl), (xj_in1 (List.mem_of_getElem? (i := 2) rfl) rfl), ⟨by decide +kernel, by decide +kernel⟩, by decide +kernel⟩
theorem mv_B_ordersDue : xj_MV m_B_ordersDue 1 := ⟨mb_B_ordersDue, (xj_in2 (List.mem_of_getElem? (i := 236) rfl) rfl), (xj_in2 (List.mem_of_getElem? (i := 237) rfl) rfl)⟩
theorem mb_B_greatestClaimant : xj_MB m_B_greatestClaimant 2 := ⟨(xj_in3 (List.mem_of_getElem? (i := 3) rfl) rfl), (xj_in1 (List.mem_of_getElem? (i := 2) rfl) rfl), ⟨by decide +kernel, by decide +kernel⟩, by decide +kernel⟩
theorem mv_B_greatestClaimant : xj_MV m_B_greatestClaimant 2 := ⟨mb_B_greatestClaimant, (xj_in3 (List.mem_of_getElem? (i := 2) rfl) rfl), (xj_sel (q := (⟨"ThreePhaseGroup$Board", "greatestClaimant", "(II)I"⟩, 8)) (List.mem_of_getElem? (i := 29) rfl))⟩
theorem mb_B_claimFor : xj_MB m_B_claimFor 2 := ⟨(xj_in3 (List.mem_of_getElem? (i := 7) rfl) rfl), (xj_in1 (List.mem_of_getElem? (i := 2) rfl) rfl), ⟨by decide +kernel, by decide +kernel⟩, by decide +kernel⟩
theorem mv_B_claimFor : xj_MV m_B_claimFor 2 := ⟨mb_B_claimFor, (xj_in3 (List.mem_of_getElem? (i := 6) rfl) rfl), (xj_sel (q := (⟨"ThreePhaseGroup$Board", "claimFor", "(II)I"⟩, 8)) (List.mem_of_getElem? (i := 30) rfl))⟩
theorem mb_B_backing : xj_MB m_B_backing 3 := ⟨(xj_in3 (List.mem_of_getElem? (i := 11) rfl) rfl), (xj_in1 (List.mem_of_getElem? (i := 2) rfl) rfl), ⟨by decide +kernel, by decide +kernel⟩, by decide +kernel⟩
theorem mv_B_backing : xj_MV m_B_backing 3 := ⟨mb_B_backing, (xj_in3 (List.mem_of_getElem? (i := 10) rfl) rfl), (xj_sel (q := (⟨"ThreePhaseGroup$Board", "backing", "(III)I"⟩, 8)) (List.mem_of_getElem? (i := 31) rfl))⟩
theorem mb_B_isPrepare : xj_MB m_B_isPrepare 3 := ⟨(xj_in3 (List.mem_of_getElem? (i := 16) rfl) rfl), (xj_in1 (List.mem_of_getElem? (i := 2) rfl) rfl), ⟨by decide +kernel, by decide +kernel⟩, by decide +kernel⟩
theorem mv_B_isPrepare : xj_MV m_B_isPrepare 3 := ⟨mb_B_isPrepare, (xj_in3 (List.mem_of_getElem? (i := 15) rfl) rfl), (xj_sel (q := (⟨"ThreePhaseGroup$Board", "isPrepare", "(III)Z"⟩, 8)) (List.mem_of_getElem? (i := 32) rfl))⟩
theorem mb_R_orderNext : xj_MB m_R_orderNext 0 := ⟨(xj_in3 (List.mem_of_getElem? (i := 20) rfl) rfl), (xj_in1 (List.mem_of_getElem? (i := 3) rfl) rfl), ⟨by decide +kernel, by decide +kernel⟩, by decide +kernel⟩
theorem mv_R_orderNext : xj_MV m_R_orderNext 0 := ⟨mb_R_orderNext, (xj_in3 (List.mem_of_getElem? (i := 19) rfl) rfl), (xj_sel (q := (⟨"ThreePhaseGroup$Replica", "orderNext", "()Z"⟩, 14)) (List.mem_of_getElem? (i := 33) rfl))⟩
theorem mb_R_leastUnordered : xj_MB m_R_leastUnordered 0 := ⟨(xj_in3 (List.mem_of_getElem? (i := 24) rfl) rfl), (xj_in1 (List.mem_of_getElem? (i := 3) rfl) rfl), ⟨by decide +kernel, by decide +kernel⟩, by decide +kernel⟩
theorem mv_R_leastUnordered : xj_MV m_R_leastUnordered 0 := ⟨mb_R_leastUnordered, (xj_in3 (List.mem_of_getElem? (i := 23) rfl) rfl), (xj_sel (q := (⟨"ThreePhaseGroup$Replica", "leastUnordered", "()I"⟩, 14)) (List.mem_of_getElem? (i := 34) rfl))⟩
theorem mb_R_isAccepted : xj_MB m_R_isAccepted 1 := ⟨(xj_in3 (List.mem_of_getElem? (i := 28) rfl) rfl), (xj_in1 (List.mem_of_getElem? (i := 3) rfl) rfl), ⟨by decide +kernel, by decide +kernel⟩, by decide +kernel⟩
theorem mv_R_isAccepted : xj_MV m_R_isAccepted 1 := ⟨mb_R_isAccepted, (xj_in3 (List.mem_of_getElem? (i := 27) rfl) rfl), (xj_sel (q := (⟨"ThreePhaseGroup$Replica", "isAccepted", "(I)Z"⟩, 14)) (List.mem_of_getElem? (i := 35) rfl))⟩
theorem mb_R_setTimer : xj_MB m_R_setTimer 0 := ⟨(xj_in3 (List.mem_of_getElem? (i := 32) rfl) rfl), (xj_in1 (List.mem_of_getElem? (i := 3) rfl) rfl), ⟨by decide +kernel, by decide +kernel⟩, by decide +kernel⟩
theorem mv_R_setTimer : xj_MV m_R_setTimer 0 := ⟨mb_R_setTimer, (xj_in3 (List.mem_of_getElem? (i := 31) rfl) rfl), (xj_sel (q := (⟨"ThreePhaseGroup$Replica", "setTimer", "()V"⟩, 14)) (List.mem_of_getElem? (i := 36) rfl))⟩
theorem mb_R_countWaiting : xj_MB m_R_countWaiting 0 := ⟨(xj_in3 (List.mem_of_getElem? (i := 36) rfl) rfl), (xj_in1 (List.mem_of_getElem? (i := 3) rfl) rfl), ⟨by decide +kernel, by decide +kernel⟩, by decide +kernel⟩
theorem mv_R_countWaiting : xj_MV m_R_countWaiting 0 := ⟨mb_R_countWaiting, (xj_in3 (List.mem_of_getElem? (i := 34) rfl) rfl), (xj_in3 (List.mem_of_getElem? (i := 35) rfl) rfl)⟩
theorem mb_B_judgeNew : xj_MB m_B_judgeNew 0 := ⟨(xj_in3 (List.mem_of_getElem? (i := 40) rfl) rfl), (xj_in1 (List.mem_of_getElem? (i := 2) rfl) rfl), ⟨by decide +kernel, by decide +kernel⟩, by decide +kernel⟩
theorem mv_B_judgeNew : xj_MV m_B_judgeNew 0 := ⟨mb_B_judgeNew, (xj_in3 (List.mem_of_getElem? (i := 38) rfl) rfl), (xj_in3 (List.mem_of_getElem? (i := 39) rfl) rfl)⟩
theorem mb_B_isValidViewChange : xj_MB m_B_isValidViewChange 1 := ⟨(xj_in3 (List.mem_of_getElem? (i := 44) rfl) rfl), (xj_in1 (List.mem_of_getElem? (i := 2) rfl) rfl), ⟨by decide +kernel, by decide +kernel⟩, by decide +kernel⟩
theorem mv_B_isValidViewChange : xj_MV m_B_isValidViewChange 1 := ⟨mb_B_isValidViewChange, (xj_in3 (List.mem_of_getElem? (i := 43) rfl) rfl), (xj_sel (q := (⟨"ThreePhaseGroup$Board", "isValidViewChange", "(I)Z"⟩, 8)) (List.mem_of_getElem? (i := 37) rfl))⟩
theorem mb_B_isChangedView : xj_MB m_B_isChangedView 1 := ⟨(xj_in3 (List.mem_of_getElem? (i := 47) rfl) rfl), (xj_in1 (List.mem_of_getElem? (i := 2) rfl) rfl), ⟨by decide +kernel, by decide +kernel⟩, by decide +kernel⟩
theorem ms_B_isChangedView : xj_MS m_B_isChangedView 1 := ⟨mb_B_isChangedView, (xj_in3 (List.mem_of_getElem? (i := 46) rfl) rfl)⟩
theorem mb_B_isValidNewView : xj_MB m_B_isValidNewView 1 := ⟨(xj_in3 (List.mem_of_getElem? (i := 52) rfl) rfl), (xj_in1 (List.mem_of_getElem? (i := 2) rfl) rfl), ⟨by decide +kernel, by decide +kernel⟩, by decide +kernel⟩
theorem mv_B_isValidNewView : xj_MV m_B_isValidNewView 1 := ⟨mb_B_isValidNewView, (xj_in3 (List.mem_of_getElem? (i := 51) rfl) rfl), (xj_sel (q := (⟨"ThreePhaseGroup$Board", "isValidNewView", "(I)Z"⟩, 8)) (List.mem_of_getElem? (i := 38) rfl))⟩
theorem mb_G_pump : xj_MB m_G_pump 2 := ⟨(xj_in3 (List.mem_of_getElem? (i := 57) rfl) rfl), (xj_in1 (List.mem_of_getElem? (i := 1) rfl) rfl), ⟨by decide +kernel, by decide +kernel⟩, by decide +kernel⟩
theorem mv_G_pump : xj_MV m_G_pump 2 := ⟨mb_G_pump, (xj_in3 (List.mem_of_getElem? (i := 55) rfl) rfl), (xj_in3 (List.mem_of_getElem? (i := 56) rfl) rfl)⟩
theorem mb_G_tick : xj_MB m_G_tick 1 := ⟨(xj_in3 (List.mem_of_getElem? (i := 61) rfl) rfl), (xj_in1 (List.mem_of_getElem? (i := 1) rfl) rfl), ⟨by decide +kernel, by decide +kernel⟩, by decide +kernel⟩
theorem mv_G_tick : xj_MV m_G_tick 1 := ⟨mb_G_tick, (xj_in3 (List.mem_of_getElem? (i := 59) rfl) rfl), (xj_in3 (List.mem_of_getElem? (i := 60) rfl) rfl)⟩
theorem mb_G_isReplica : xj_MB m_G_isReplica 1 := ⟨(xj_in3 (List.mem_of_getElem? (i := 64) rfl) rfl), (xj_in1 (List.mem_of_getElem? (i := 1) rfl) rfl), ⟨by decide +kernel, by decide +kernel⟩, by decide +kernel⟩
theorem ms_G_isReplica : xj_MS m_G_isReplica 1 := ⟨mb_G_isReplica, (xj_in3 (List.mem_of_getElem? (i := 63) rfl) rfl)⟩
theorem mb_R_stepClock : xj_MB m_R_stepClock 0 := ⟨(xj_in3 (List.mem_of_getElem? (i := 68) rfl) rfl), (xj_in1 (List.mem_of_getElem? (i := 3) rfl) rfl), ⟨by decide +kernel, by decide +kernel⟩, by decide +kernel⟩
theorem mv_R_stepClock : xj_MV m_R_stepClock 0 := ⟨mb_R_stepClock, (xj_in3 (List.mem_of_getElem? (i := 66) rfl) rfl), (xj_in3 (List.mem_of_getElem? (i := 67) rfl) rfl)⟩
theorem mb_G_corrupt : xj_MB m_G_corrupt 1 := ⟨(xj_in3 (List.mem_of_getElem? (i := 72) rfl) rfl), (xj_in1 (List.mem_of_getElem? (i := 1) rfl) rfl), ⟨by decide +kernel, by decide +kernel⟩, by decide +kernel⟩
theorem mv_G_corrupt : xj_MV m_G_corrupt 1 := ⟨mb_G_corrupt, (xj_in3 (List.mem_of_getElem? (i := 70) rfl) rfl), (xj_in3 (List.mem_of_getElem? (i := 71) rfl) rfl)⟩
theorem mb_G_forge : xj_MB m_G_forge 4 := ⟨(xj_in3 (List.mem_of_getElem? (i := 76) rfl) rfl), (xj_in1 (List.mem_of_getElem? (i := 1) rfl) rfl), ⟨by decide +kernel, by decide +kernel⟩, by decide +kernel⟩
theorem mv_G_forge : xj_MV m_G_forge 4 := ⟨mb_G_forge, (xj_in3 (List.mem_of_getElem? (i := 74) rfl) rfl), (xj_in3 (List.mem_of_getElem? (i := 75) rfl) rfl)⟩
theorem mb_G_postForged : xj_MB m_G_postForged 4 := ⟨(xj_in3 (List.mem_of_getElem? (i := 80) rfl) rfl), (xj_in1 (List.mem_of_getElem? (i := 1) rfl) rfl), ⟨by decide +kernel, by decide +kernel⟩, by decide +kernel⟩
theorem mv_G_postForged : xj_MV m_G_postForged 4 := ⟨mb_G_postForged, (xj_in3 (List.mem_of_getElem? (i := 79) rfl) rfl), (xj_sel (q := (⟨"ThreePhaseGroup", "postForged", "(IIJI)I"⟩, 5)) (List.mem_of_getElem? (i := 39) rfl))⟩
theorem mb_G_forgeCheckpoint : xj_MB m_G_forgeCheckpoint 2 := ⟨(xj_in3 (List.mem_of_getElem? (i := 84) rfl) rfl), (xj_in1 (List.mem_of_getElem? (i := 1) rfl) rfl), ⟨by decide +kernel, by decide +kernel⟩, by decide +kernel⟩
theorem mv_G_forgeCheckpoint : xj_MV m_G_forgeCheckpoint 2 := ⟨mb_G_forgeCheckpoint, (xj_in3 (List.mem_of_getElem? (i := 82) rfl) rfl), (xj_in3 (List.mem_of_getElem? (i := 83) rfl) rfl)⟩
theorem mb_G_messages : xj_MB m_G_messages 0 := ⟨(xj_in3 (List.mem_of_getElem? (i := 88) rfl) rfl), (xj_in1 (List.mem_of_getElem? (i := 1) rfl) rfl), ⟨by decide +kernel, by decide +kernel⟩, by decide +kernel⟩
theorem mv_G_messages : xj_MV m_G_messages 0 := ⟨mb_G_messages, (xj_in3 (List.mem_of_getElem? (i := 86) rfl) rfl), (xj_in3 (List.mem_of_getElem? (i := 87) rfl) rfl)⟩
theorem mb_G_look : xj_MB m_G_look 2 := ⟨(xj_in3 (List.mem_of_getElem? (i := 92) rfl) rfl), (xj_in1 (List.mem_of_getElem? (i := 1) rfl) rfl), ⟨by decide +kernel, by decide +kernel⟩, by decide +kernel⟩
theorem mv_G_look : xj_MV m_G_look 2 := ⟨mb_G_look, (xj_in3 (List.mem_of_getElem? (i := 90) rfl) rfl), (xj_in3 (List.mem_of_getElem? (i := 91) rfl) rfl)⟩
theorem mb_G_mark : xj_MB m_G_mark 1 := ⟨(xj_in3 (List.mem_of_getElem? (i := 97) rfl) rfl), (xj_in1 (List.mem_of_getElem? (i := 1) rfl) rfl), ⟨by decide +kernel, by decide +kernel⟩, by decide +kernel⟩
theorem mv_G_mark : xj_MV m_G_mark 1 := ⟨mb_G_mark, (xj_in3 (List.mem_of_getElem? (i := 95) rfl) rfl), (xj_in3 (List.mem_of_getElem? (i := 96) rfl) rfl)⟩
theorem mb_G_view : xj_MB m_G_view 1 := ⟨(xj_in3 (List.mem_of_getElem? (i := 101) rfl) rfl), (xj_in1 (List.mem_of_getElem? (i := 1) rfl) rfl), ⟨by decide +kernel, by decide +kernel⟩, by decide +kernel⟩
theorem mv_G_view : xj_MV m_G_view 1 := ⟨mb_G_view, (xj_in3 (List.mem_of_getElem? (i := 99) rfl) rfl), (xj_in3 (List.mem_of_getElem? (i := 100) rfl) rfl)⟩
theorem mb_G_executed : xj_MB m_G_executed 1 := ⟨(xj_in3 (List.mem_of_getElem? (i := 105) rfl) rfl), (xj_in1 (List.mem_of_getElem? (i := 1) rfl) rfl), ⟨by decide +kernel, by decide +kernel⟩, by decide +kernel⟩
theorem mv_G_executed : xj_MV m_G_executed 1 := ⟨mb_G_executed, (xj_in3 (List.mem_of_getElem? (i := 103) rfl) rfl), (xj_in3 (List.mem_of_getElem? (i := 104) rfl) rfl)⟩
theorem mb_G_stable : xj_MB m_G_stable 1 := ⟨(xj_in3 (List.mem_of_getElem? (i := 109) rfl) rfl), (xj_in1 (List.mem_of_getElem? (i := 1) rfl) rfl), ⟨by decide +kernel, by decide +kernel⟩, by decide +kernel⟩
theorem mv_G_stable : xj_MV m_G_stable 1 := ⟨mb_G_stable, (xj_in3 (List.mem_of_getElem? (i := 107) rfl) rfl), (xj_in3 (List.mem_of_getElem? (i := 108) rfl) rfl)⟩
theorem mb_G_state : xj_MB m_G_state 1 := ⟨(xj_in3 (List.mem_of_getElem? (i := 113) rfl) rfl), (xj_in1 (List.mem_of_getElem? (i := 1) rfl) rfl), ⟨by decide +kernel, by decide +kernel⟩, by decide +kernel⟩
theorem mv_G_state : xj_MV m_G_state 1 := ⟨mb_G_state, (xj_in3 (List.mem_of_getElem? (i := 111) rfl) rfl), (xj_in3 (List.mem_of_getElem? (i := 112) rfl) rfl)⟩
theorem mb_G_slot : xj_MB m_G_slot 2 := ⟨(xj_in3 (List.mem_of_getElem? (i := 117) rfl) rfl), (xj_in1 (List.mem_of_getElem? (i := 1) rfl) rfl), ⟨by decide +kernel, by decide +kernel⟩, by decide +kernel⟩
theorem mv_G_slot : xj_MV m_G_slot 2 := ⟨mb_G_slot, (xj_in3 (List.mem_of_getElem? (i := 115) rfl) rfl), (xj_in3 (List.mem_of_getElem? (i := 116) rfl) rfl)⟩
theorem mb_S_summary : xj_MB m_S_summary 1 := ⟨(xj_in3 (List.mem_of_getElem? (i := 123) rfl) rfl), (xj_in1 (List.mem_of_getElem? (i := 5) rfl) rfl), ⟨by decide +kernel, by decide +kernel⟩, by decide +kernel⟩
theorem mv_S_summary : xj_MV m_S_summary 1 := ⟨mb_S_summary, (xj_in3 (List.mem_of_getElem? (i := 121) rfl) rfl), (xj_in3 (List.mem_of_getElem? (i := 122) rfl) rfl)⟩
theorem mb_G_ordered : xj_MB m_G_ordered 2 := ⟨(xj_in3 (List.mem_of_getElem? (i := 129) rfl) rfl), (xj_in1 (List.mem_of_getElem? (i := 1) rfl) rfl), ⟨by decide +kernel, by decide +kernel⟩, by decide +kernel⟩
theorem mv_G_ordered : xj_MV m_G_ordered 2 := ⟨mb_G_ordered, (xj_in3 (List.mem_of_getElem? (i := 127) rfl) rfl), (xj_in3 (List.mem_of_getElem? (i := 128) rfl) rfl)⟩
theorem mb_G_timer : xj_MB m_G_timer 1 := ⟨(xj_in3 (List.mem_of_getElem? (i := 133) rfl) rfl), (xj_in1 (List.mem_of_getElem? (i := 1) rfl) rfl), ⟨by decide +kernel, by decide +kernel⟩, by decide +kernel⟩
theorem mv_G_timer : xj_MV m_G_timer 1 := ⟨mb_G_timer, (xj_in3 (List.mem_of_getElem? (i := 131) rfl) rfl), (xj_in3 (List.mem_of_getElem? (i := 132) rfl) rfl)⟩
theorem mb_G_waiting : xj_MB m_G_waiting 1 := ⟨(xj_in3 (List.mem_of_getElem? (i := 137) rfl) rfl), (xj_in1 (List.mem_of_getElem? (i := 1) rfl) rfl), ⟨by decide +kernel, by decide +kernel⟩, by decide +kernel⟩
theorem mv_G_waiting : xj_MV m_G_waiting 1 := ⟨mb_G_waiting, (xj_in3 (List.mem_of_getElem? (i := 135) rfl) rfl), (xj_in3 (List.mem_of_getElem? (i := 136) rfl) rfl)⟩
theorem mb_G_outstanding : xj_MB m_G_outstanding 1 := ⟨(xj_in3 (List.mem_of_getElem? (i := 142) rfl) rfl), (xj_in1 (List.mem_of_getElem? (i := 1) rfl) rfl), ⟨by decide +kernel, by decide +kernel⟩, by decide +kernel⟩
theorem mv_G_outstanding : xj_MV m_G_outstanding 1 := ⟨mb_G_outstanding, (xj_in3 (List.mem_of_getElem? (i := 140) rfl) rfl), (xj_in3 (List.mem_of_getElem? (i := 141) rfl) rfl)⟩
theorem mb_G_answer : xj_MB m_G_answer 1 := ⟨(xj_in3 (List.mem_of_getElem? (i := 146) rfl) rfl), (xj_in1 (List.mem_of_getElem? (i := 1) rfl) rfl), ⟨by decide +kernel, by decide +kernel⟩, by decide +kernel⟩
theorem mv_G_answer : xj_MV m_G_answer 1 := ⟨mb_G_answer, (xj_in3 (List.mem_of_getElem? (i := 144) rfl) rfl), (xj_in3 (List.mem_of_getElem? (i := 145) rfl) rfl)⟩
theorem mb_T_init : xj_MB m_T_init 0 := ⟨(xj_in3 (List.mem_of_getElem? (i := 151) rfl) rfl), (xj_in1 (List.mem_of_getElem? (i := 8) rfl) rfl), ⟨by decide +kernel, by decide +kernel⟩, by decide +kernel⟩
theorem mi_T_init : xj_MI m_T_init 0 := ⟨mb_T_init, rfl, (xj_in3 (List.mem_of_getElem? (i := 150) rfl) rfl)⟩
theorem mb_T_waiting : xj_MB m_T_waiting 1 := ⟨(xj_in3 (List.mem_of_getElem? (i := 238) rfl) rfl), (xj_in1 (List.mem_of_getElem? (i := 8) rfl) rfl), ⟨by decide +kernel, by decide +kernel⟩, by decide +kernel⟩
theorem mv_T_waiting : xj_MV m_T_waiting 1 := ⟨mb_T_waiting, (xj_in3 (List.mem_of_getElem? (i := 236) rfl) rfl), (xj_in3 (List.mem_of_getElem? (i := 237) rfl) rfl)⟩
theorem mb_T_outside : xj_MB m_T_outside 3 := ⟨(xj_in4 (List.mem_of_getElem? (i := 1) rfl) rfl), (xj_in1 (List.mem_of_getElem? (i := 8) rfl) rfl), ⟨by decide +kernel, by decide +kernel⟩, by decide +kernel⟩
theorem ms_T_outside : xj_MS m_T_outside 3 := ⟨mb_T_outside, (xj_in4 (List.mem_of_getElem? (i := 0) rfl) rfl)⟩
theorem mb_T_waits : xj_MB m_T_waits 2 := ⟨(xj_in4 (List.mem_of_getElem? (i := 5) rfl) rfl), (xj_in1 (List.mem_of_getElem? (i := 8) rfl) rfl), ⟨by decide +kernel, by decide +kernel⟩, by decide +kernel⟩
theorem mv_T_waits : xj_MV m_T_waits 2 := ⟨mb_T_waits, (xj_in4 (List.mem_of_getElem? (i := 4) rfl) rfl), (xj_sel (q := (⟨"ThreePhaseGroupModel", "waits", "(II)Z"⟩, 27)) (List.mem_of_getElem? (i := 40) rfl))⟩
theorem mb_T_submit : xj_MB m_T_submit 4 := ⟨(xj_in4 (List.mem_of_getElem? (i := 10) rfl) rfl), (xj_in1 (List.mem_of_getElem? (i := 8) rfl) rfl), ⟨by decide +kernel, by decide +kernel⟩, by decide +kernel⟩
theorem mv_T_submit : xj_MV m_T_submit 4 := ⟨mb_T_submit, (xj_in4 (List.mem_of_getElem? (i := 8) rfl) rfl), (xj_in4 (List.mem_of_getElem? (i := 9) rfl) rfl)⟩
theorem mb_T_send : xj_MB m_T_send 5 := ⟨(xj_in4 (List.mem_of_getElem? (i := 14) rfl) rfl), (xj_in1 (List.mem_of_getElem? (i := 8) rfl) rfl), ⟨by decide +kernel, by decide +kernel⟩, by decide +kernel⟩
theorem mv_T_send : xj_MV m_T_send 5 := ⟨mb_T_send, (xj_in4 (List.mem_of_getElem? (i := 13) rfl) rfl), (xj_sel (q := (⟨"ThreePhaseGroupModel", "send", "(IIIJI)I"⟩, 27)) (List.mem_of_getElem? (i := 41) rfl))⟩
theorem mb_T_deliver : xj_MB m_T_deliver 2 := ⟨(xj_in4 (List.mem_of_getElem? (i := 18) rfl) rfl), (xj_in1 (List.mem_of_getElem? (i := 8) rfl) rfl), ⟨by decide +kernel, by decide +kernel⟩, by decide +kernel⟩
theorem mv_T_deliver : xj_MV m_T_deliver 2 := ⟨mb_T_deliver, (xj_in4 (List.mem_of_getElem? (i := 16) rfl) rfl), (xj_in4 (List.mem_of_getElem? (i := 17) rfl) rfl)⟩
theorem mb_T_give : xj_MB m_T_give 2 := ⟨(xj_in4 (List.mem_of_getElem? (i := 22) rfl) rfl), (xj_in1 (List.mem_of_getElem? (i := 8) rfl) rfl), ⟨by decide +kernel, by decide +kernel⟩, by decide +kernel⟩
theorem mv_T_give : xj_MV m_T_give 2 := ⟨mb_T_give, (xj_in4 (List.mem_of_getElem? (i := 21) rfl) rfl), (xj_sel (q := (⟨"ThreePhaseGroupModel", "give", "(II)Z"⟩, 27)) (List.mem_of_getElem? (i := 42) rfl))⟩
theorem mb_T_answered : xj_MB m_T_answered 2 := ⟨(xj_in4 (List.mem_of_getElem? (i := 26) rfl) rfl), (xj_in1 (List.mem_of_getElem? (i := 8) rfl) rfl), ⟨by decide +kernel, by decide +kernel⟩, by decide +kernel⟩
theorem mv_T_answered : xj_MV m_T_answered 2 := ⟨mb_T_answered, (xj_in4 (List.mem_of_getElem? (i := 25) rfl) rfl), (xj_sel (q := (⟨"ThreePhaseGroupModel", "answered", "(II)Z"⟩, 27)) (List.mem_of_getElem? (i := 43) rfl))⟩
theorem mb_T_takes : xj_MB m_T_takes 2 := ⟨(xj_in4 (List.mem_of_getElem? (i := 30) rfl) rfl), (xj_in1 (List.mem_of_getElem? (i := 8) rfl) rfl), ⟨by decide +kernel, by decide +kernel⟩, by decide +kernel⟩
theorem mv_T_takes : xj_MV m_T_takes 2 := ⟨mb_T_takes, (xj_in4 (List.mem_of_getElem? (i := 29) rfl) rfl), (xj_sel (q := (⟨"ThreePhaseGroupModel", "takes", "(II)Z"⟩, 27)) (List.mem_of_getElem? (i := 44) rfl))⟩
theorem mb_T_window : xj_MB m_T_window 2 := ⟨(xj_in4 (List.mem_of_getElem? (i := 34) rfl) rfl), (xj_in1 (List.mem_of_getElem? (i := 8) rfl) rfl), ⟨by decide +kernel, by decide +kernel⟩, by decide +kernel⟩
theorem mv_T_window : xj_MV m_T_window 2 := ⟨mb_T_window, (xj_in4 (List.mem_of_getElem? (i := 33) rfl) rfl), (xj_sel (q := (⟨"ThreePhaseGroupModel", "window", "(IJ)Z"⟩, 27)) (List.mem_of_getElem? (i := 45) rfl))⟩
theorem mb_T_takesRequest : xj_MB m_T_takesRequest 2 := ⟨(xj_in4 (List.mem_of_getElem? (i := 38) rfl) rfl), (xj_in1 (List.mem_of_getElem? (i := 8) rfl) rfl), ⟨by decide +kernel, by decide +kernel⟩, by decide +kernel⟩
theorem mv_T_takesRequest : xj_MV m_T_takesRequest 2 := ⟨mb_T_takesRequest, (xj_in4 (List.mem_of_getElem? (i := 37) rfl) rfl), (xj_sel (q := (⟨"ThreePhaseGroupModel", "takesRequest", "(II)Z"⟩, 27)) (List.mem_of_getElem? (i := 46) rfl))⟩
theorem mb_T_takesOrder : xj_MB m_T_takesOrder 2 := ⟨(xj_in4 (List.mem_of_getElem? (i := 42) rfl) rfl), (xj_in1 (List.mem_of_getElem? (i := 8) rfl) rfl), ⟨by decide +kernel, by decide +kernel⟩, by decide +kernel⟩
theorem mv_T_takesOrder : xj_MV m_T_takesOrder 2 := ⟨mb_T_takesOrder, (xj_in4 (List.mem_of_getElem? (i := 41) rfl) rfl), (xj_sel (q := (⟨"ThreePhaseGroupModel", "takesOrder", "(II)Z"⟩, 27)) (List.mem_of_getElem? (i := 47) rfl))⟩
theorem mb_T_notes : xj_MB m_T_notes 5 := ⟨(xj_in4 (List.mem_of_getElem? (i := 46) rfl) rfl), (xj_in1 (List.mem_of_getElem? (i := 8) rfl) rfl), ⟨by decide +kernel, by decide +kernel⟩, by decide +kernel⟩
theorem mv_T_notes : xj_MV m_T_notes 5 := ⟨mb_T_notes, (xj_in4 (List.mem_of_getElem? (i := 45) rfl) rfl), (xj_sel (q := (⟨"ThreePhaseGroupModel", "notes", "(IIIIJ)Z"⟩, 27)) (List.mem_of_getElem? (i := 48) rfl))⟩
theorem mb_T_goodChange : xj_MB m_T_goodChange 1 := ⟨(xj_in4 (List.mem_of_getElem? (i := 50) rfl) rfl), (xj_in1 (List.mem_of_getElem? (i := 8) rfl) rfl), ⟨by decide +kernel, by decide +kernel⟩, by decide +kernel⟩
theorem mv_T_goodChange : xj_MV m_T_goodChange 1 := ⟨mb_T_goodChange, (xj_in4 (List.mem_of_getElem? (i := 49) rfl) rfl), (xj_sel (q := (⟨"ThreePhaseGroupModel", "goodChange", "(I)Z"⟩, 27)) (List.mem_of_getElem? (i := 49) rfl))⟩
theorem mb_T_proof : xj_MB m_T_proof 2 := ⟨(xj_in4 (List.mem_of_getElem? (i := 54) rfl) rfl), (xj_in1 (List.mem_of_getElem? (i := 8) rfl) rfl), ⟨by decide +kernel, by decide +kernel⟩, by decide +kernel⟩
theorem mv_T_proof : xj_MV m_T_proof 2 := ⟨mb_T_proof, (xj_in4 (List.mem_of_getElem? (i := 53) rfl) rfl), (xj_sel (q := (⟨"ThreePhaseGroupModel", "proof", "(JI)I"⟩, 27)) (List.mem_of_getElem? (i := 50) rfl))⟩
theorem mb_T_senders : xj_MB m_T_senders 6 := ⟨(xj_in4 (List.mem_of_getElem? (i := 58) rfl) rfl), (xj_in1 (List.mem_of_getElem? (i := 8) rfl) rfl), ⟨by decide +kernel, by decide +kernel⟩, by decide +kernel⟩
theorem mv_T_senders : xj_MV m_T_senders 6 := ⟨mb_T_senders, (xj_in4 (List.mem_of_getElem? (i := 57) rfl) rfl), (xj_sel (q := (⟨"ThreePhaseGroupModel", "senders", "(IIIJII)I"⟩, 27)) (List.mem_of_getElem? (i := 51) rfl))⟩
theorem mb_T_backing : xj_MB m_T_backing 3 := ⟨(xj_in4 (List.mem_of_getElem? (i := 62) rfl) rfl), (xj_in1 (List.mem_of_getElem? (i := 8) rfl) rfl), ⟨by decide +kernel, by decide +kernel⟩, by decide +kernel⟩
theorem mv_T_backing : xj_MV m_T_backing 3 := ⟨mb_T_backing, (xj_in4 (List.mem_of_getElem? (i := 61) rfl) rfl), (xj_sel (q := (⟨"ThreePhaseGroupModel", "backing", "(IJI)I"⟩, 27)) (List.mem_of_getElem? (i := 52) rfl))⟩
theorem mb_T_takesChange : xj_MB m_T_takesChange 2 := ⟨(xj_in4 (List.mem_of_getElem? (i := 66) rfl) rfl), (xj_in1 (List.mem_of_getElem? (i := 8) rfl) rfl), ⟨by decide +kernel, by decide +kernel⟩, by decide +kernel⟩
theorem mv_T_takesChange : xj_MV m_T_takesChange 2 := ⟨mb_T_takesChange, (xj_in4 (List.mem_of_getElem? (i := 65) rfl) rfl), (xj_sel (q := (⟨"ThreePhaseGroupModel", "takesChange", "(II)Z"⟩, 27)) (List.mem_of_getElem? (i := 53) rfl))⟩
theorem mb_T_goodNew : xj_MB m_T_goodNew 1 := ⟨(xj_in4 (List.mem_of_getElem? (i := 70) rfl) rfl), (xj_in1 (List.mem_of_getElem? (i := 8) rfl) rfl), ⟨by decide +kernel, by decide +kernel⟩, by decide +kernel⟩
theorem mv_T_goodNew : xj_MV m_T_goodNew 1 := ⟨mb_T_goodNew, (xj_in4 (List.mem_of_getElem? (i := 69) rfl) rfl), (xj_sel (q := (⟨"ThreePhaseGroupModel", "goodNew", "(I)Z"⟩, 27)) (List.mem_of_getElem? (i := 54) rfl))⟩
theorem mb_T_vote : xj_MB m_T_vote 2 := ⟨(xj_in4 (List.mem_of_getElem? (i := 75) rfl) rfl), (xj_in1 (List.mem_of_getElem? (i := 8) rfl) rfl), ⟨by decide +kernel, by decide +kernel⟩, by decide +kernel⟩
theorem mv_T_vote : xj_MV m_T_vote 2 := ⟨mb_T_vote, (xj_in4 (List.mem_of_getElem? (i := 74) rfl) rfl), (xj_sel (q := (⟨"ThreePhaseGroupModel", "vote", "(II)I"⟩, 27)) (List.mem_of_getElem? (i := 55) rfl))⟩
theorem mb_T_orders : xj_MB m_T_orders 1 := ⟨(xj_in4 (List.mem_of_getElem? (i := 79) rfl) rfl), (xj_in1 (List.mem_of_getElem? (i := 8) rfl) rfl), ⟨by decide +kernel, by decide +kernel⟩, by decide +kernel⟩
theorem mv_T_orders : xj_MV m_T_orders 1 := ⟨mb_T_orders, (xj_in4 (List.mem_of_getElem? (i := 78) rfl) rfl), (xj_sel (q := (⟨"ThreePhaseGroupModel", "orders", "(I)I"⟩, 27)) (List.mem_of_getElem? (i := 56) rfl))⟩
theorem mb_T_start : xj_MB m_T_start 1 := ⟨(xj_in4 (List.mem_of_getElem? (i := 83) rfl) rfl), (xj_in1 (List.mem_of_getElem? (i := 8) rfl) rfl), ⟨by decide +kernel, by decide +kernel⟩, by decide +kernel⟩
theorem mv_T_start : xj_MV m_T_start 1 := ⟨mb_T_start, (xj_in4 (List.mem_of_getElem? (i := 82) rfl) rfl), (xj_sel (q := (⟨"ThreePhaseGroupModel", "start", "(I)I"⟩, 27)) (List.mem_of_getElem? (i := 57) rfl))⟩
theorem mb_T_claim : xj_MB m_T_claim 2 := ⟨(xj_in4 (List.mem_of_getElem? (i := 87) rfl) rfl), (xj_in1 (List.mem_of_getElem? (i := 8) rfl) rfl), ⟨by decide +kernel, by decide +kernel⟩, by decide +kernel⟩
theorem mv_T_claim : xj_MV m_T_claim 2 := ⟨mb_T_claim, (xj_in4 (List.mem_of_getElem? (i := 86) rfl) rfl), (xj_sel (q := (⟨"ThreePhaseGroupModel", "claim", "(II)I"⟩, 27)) (List.mem_of_getElem? (i := 58) rfl))⟩
theorem mb_T_enters : xj_MB m_T_enters 2 := ⟨(xj_in4 (List.mem_of_getElem? (i := 92) rfl) rfl), (xj_in1 (List.mem_of_getElem? (i := 8) rfl) rfl), ⟨by decide +kernel, by decide +kernel⟩, by decide +kernel⟩
theorem mv_T_enters : xj_MV m_T_enters 2 := ⟨mb_T_enters, (xj_in4 (List.mem_of_getElem? (i := 91) rfl) rfl), (xj_sel (q := (⟨"ThreePhaseGroupModel", "enters", "(II)Z"⟩, 27)) (List.mem_of_getElem? (i := 59) rfl))⟩
theorem mb_T_dropAccepted : xj_MB m_T_dropAccepted 1 := ⟨(xj_in4 (List.mem_of_getElem? (i := 96) rfl) rfl), (xj_in1 (List.mem_of_getElem? (i := 8) rfl) rfl), ⟨by decide +kernel, by decide +kernel⟩, by decide +kernel⟩
theorem mv_T_dropAccepted : xj_MV m_T_dropAccepted 1 := ⟨mb_T_dropAccepted, (xj_in4 (List.mem_of_getElem? (i := 95) rfl) rfl), (xj_sel (q := (⟨"ThreePhaseGroupModel", "dropAccepted", "(I)V"⟩, 27)) (List.mem_of_getElem? (i := 60) rfl))⟩
theorem mb_T_settles : xj_MB m_T_settles 3 := ⟨(xj_in4 (List.mem_of_getElem? (i := 100) rfl) rfl), (xj_in1 (List.mem_of_getElem? (i := 8) rfl) rfl), ⟨by decide +kernel, by decide +kernel⟩, by decide +kernel⟩
theorem mv_T_settles : xj_MV m_T_settles 3 := ⟨mb_T_settles, (xj_in4 (List.mem_of_getElem? (i := 99) rfl) rfl), (xj_sel (q := (⟨"ThreePhaseGroupModel", "settles", "(IIJ)V"⟩, 27)) (List.mem_of_getElem? (i := 61) rfl))⟩
theorem mb_T_rules : xj_MB m_T_rules 1 := ⟨(xj_in4 (List.mem_of_getElem? (i := 104) rfl) rfl), (xj_in1 (List.mem_of_getElem? (i := 8) rfl) rfl), ⟨by decide +kernel, by decide +kernel⟩, by decide +kernel⟩
theorem mv_T_rules : xj_MV m_T_rules 1 := ⟨mb_T_rules, (xj_in4 (List.mem_of_getElem? (i := 103) rfl) rfl), (xj_sel (q := (⟨"ThreePhaseGroupModel", "rules", "(I)V"⟩, 27)) (List.mem_of_getElem? (i := 62) rfl))⟩
theorem mb_T_phases : xj_MB m_T_phases 1 := ⟨(xj_in4 (List.mem_of_getElem? (i := 108) rfl) rfl), (xj_in1 (List.mem_of_getElem? (i := 8) rfl) rfl), ⟨by decide +kernel, by decide +kernel⟩, by decide +kernel⟩
theorem mv_T_phases : xj_MV m_T_phases 1 := ⟨mb_T_phases, (xj_in4 (List.mem_of_getElem? (i := 107) rfl) rfl), (xj_sel (q := (⟨"ThreePhaseGroupModel", "phases", "(I)Z"⟩, 27)) (List.mem_of_getElem? (i := 63) rfl))⟩
theorem mb_T_phase : xj_MB m_T_phase 4 := ⟨(xj_in4 (List.mem_of_getElem? (i := 112) rfl) rfl), (xj_in1 (List.mem_of_getElem? (i := 8) rfl) rfl), ⟨by decide +kernel, by decide +kernel⟩, by decide +kernel⟩
theorem mv_T_phase : xj_MV m_T_phase 4 := ⟨mb_T_phase, (xj_in4 (List.mem_of_getElem? (i := 111) rfl) rfl), (xj_sel (q := (⟨"ThreePhaseGroupModel", "phase", "(IIII)Z"⟩, 27)) (List.mem_of_getElem? (i := 64) rfl))⟩
theorem mb_T_sent : xj_MB m_T_sent 3 := ⟨(xj_in4 (List.mem_of_getElem? (i := 116) rfl) rfl), (xj_in1 (List.mem_of_getElem? (i := 8) rfl) rfl), ⟨by decide +kernel, by decide +kernel⟩, by decide +kernel⟩
theorem mv_T_sent : xj_MV m_T_sent 3 := ⟨mb_T_sent, (xj_in4 (List.mem_of_getElem? (i := 115) rfl) rfl), (xj_sel (q := (⟨"ThreePhaseGroupModel", "sent", "(III)Z"⟩, 27)) (List.mem_of_getElem? (i := 65) rfl))⟩
theorem mb_T_heard : xj_MB m_T_heard 5 := ⟨(xj_in4 (List.mem_of_getElem? (i := 120) rfl) rfl), (xj_in1 (List.mem_of_getElem? (i := 8) rfl) rfl), ⟨by decide +kernel, by decide +kernel⟩, by decide +kernel⟩
theorem mv_T_heard : xj_MV m_T_heard 5 := ⟨mb_T_heard, (xj_in4 (List.mem_of_getElem? (i := 119) rfl) rfl), (xj_sel (q := (⟨"ThreePhaseGroupModel", "heard", "(IIIJI)I"⟩, 27)) (List.mem_of_getElem? (i := 66) rfl))⟩
theorem mb_T_executes : xj_MB m_T_executes 1 := ⟨(xj_in4 (List.mem_of_getElem? (i := 124) rfl) rfl), (xj_in1 (List.mem_of_getElem? (i := 8) rfl) rfl), ⟨by decide +kernel, by decide +kernel⟩, by decide +kernel⟩
theorem mv_T_executes : xj_MV m_T_executes 1 := ⟨mb_T_executes, (xj_in4 (List.mem_of_getElem? (i := 123) rfl) rfl), (xj_sel (q := (⟨"ThreePhaseGroupModel", "executes", "(I)Z"⟩, 27)) (List.mem_of_getElem? (i := 67) rfl))⟩
theorem mb_T_serves : xj_MB m_T_serves 2 := ⟨(xj_in4 (List.mem_of_getElem? (i := 128) rfl) rfl), (xj_in1 (List.mem_of_getElem? (i := 8) rfl) rfl), ⟨by decide +kernel, by decide +kernel⟩, by decide +kernel⟩
theorem mv_T_serves : xj_MV m_T_serves 2 := ⟨mb_T_serves, (xj_in4 (List.mem_of_getElem? (i := 127) rfl) rfl), (xj_sel (q := (⟨"ThreePhaseGroupModel", "serves", "(II)V"⟩, 27)) (List.mem_of_getElem? (i := 68) rfl))⟩
theorem mb_T_truncates : xj_MB m_T_truncates 1 := ⟨(xj_in4 (List.mem_of_getElem? (i := 136) rfl) rfl), (xj_in1 (List.mem_of_getElem? (i := 8) rfl) rfl), ⟨by decide +kernel, by decide +kernel⟩, by decide +kernel⟩
theorem mv_T_truncates : xj_MV m_T_truncates 1 := ⟨mb_T_truncates, (xj_in4 (List.mem_of_getElem? (i := 135) rfl) rfl), (xj_sel (q := (⟨"ThreePhaseGroupModel", "truncates", "(I)Z"⟩, 27)) (List.mem_of_getElem? (i := 69) rfl))⟩
theorem mb_T_joins : xj_MB m_T_joins 1 := ⟨(xj_in4 (List.mem_of_getElem? (i := 140) rfl) rfl), (xj_in1 (List.mem_of_getElem? (i := 8) rfl) rfl), ⟨by decide +kernel, by decide +kernel⟩, by decide +kernel⟩
theorem mv_T_joins : xj_MV m_T_joins 1 := ⟨mb_T_joins, (xj_in4 (List.mem_of_getElem? (i := 139) rfl) rfl), (xj_sel (q := (⟨"ThreePhaseGroupModel", "joins", "(I)Z"⟩, 27)) (List.mem_of_getElem? (i := 70) rfl))⟩
theorem mb_T_begins : xj_MB m_T_begins 2 := ⟨(xj_in4 (List.mem_of_getElem? (i := 144) rfl) rfl), (xj_in1 (List.mem_of_getElem? (i := 8) rfl) rfl), ⟨by decide +kernel, by decide +kernel⟩, by decide +kernel⟩
theorem mv_T_begins : xj_MV m_T_begins 2 := ⟨mb_T_begins, (xj_in4 (List.mem_of_getElem? (i := 143) rfl) rfl), (xj_sel (q := (⟨"ThreePhaseGroupModel", "begins", "(II)V"⟩, 27)) (List.mem_of_getElem? (i := 71) rfl))⟩
theorem mb_T_opens : xj_MB m_T_opens 1 := ⟨(xj_in4 (List.mem_of_getElem? (i := 148) rfl) rfl), (xj_in1 (List.mem_of_getElem? (i := 8) rfl) rfl), ⟨by decide +kernel, by decide +kernel⟩, by decide +kernel⟩
theorem mv_T_opens : xj_MV m_T_opens 1 := ⟨mb_T_opens, (xj_in4 (List.mem_of_getElem? (i := 147) rfl) rfl), (xj_sel (q := (⟨"ThreePhaseGroupModel", "opens", "(I)Z"⟩, 27)) (List.mem_of_getElem? (i := 72) rfl))⟩
theorem mb_T_proposes : xj_MB m_T_proposes 1 := ⟨(xj_in4 (List.mem_of_getElem? (i := 152) rfl) rfl), (xj_in1 (List.mem_of_getElem? (i := 8) rfl) rfl), ⟨by decide +kernel, by decide +kernel⟩, by decide +kernel⟩
theorem mv_T_proposes : xj_MV m_T_proposes 1 := ⟨mb_T_proposes, (xj_in4 (List.mem_of_getElem? (i := 151) rfl) rfl), (xj_sel (q := (⟨"ThreePhaseGroupModel", "proposes", "(I)Z"⟩, 27)) (List.mem_of_getElem? (i := 73) rfl))⟩
theorem mb_T_pump : xj_MB m_T_pump 2 := ⟨(xj_in4 (List.mem_of_getElem? (i := 157) rfl) rfl), (xj_in1 (List.mem_of_getElem? (i := 8) rfl) rfl), ⟨by decide +kernel, by decide +kernel⟩, by decide +kernel⟩
theorem mv_T_pump : xj_MV m_T_pump 2 := ⟨mb_T_pump, (xj_in4 (List.mem_of_getElem? (i := 155) rfl) rfl), (xj_in4 (List.mem_of_getElem? (i := 156) rfl) rfl)⟩
theorem mb_T_tick : xj_MB m_T_tick 1 := ⟨(xj_in4 (List.mem_of_getElem? (i := 161) rfl) rfl), (xj_in1 (List.mem_of_getElem? (i := 8) rfl) rfl), ⟨by decide +kernel, by decide +kernel⟩, by decide +kernel⟩
theorem mv_T_tick : xj_MV m_T_tick 1 := ⟨mb_T_tick, (xj_in4 (List.mem_of_getElem? (i := 159) rfl) rfl), (xj_in4 (List.mem_of_getElem? (i := 160) rfl) rfl)⟩
theorem mb_T_corrupt : xj_MB m_T_corrupt 1 := ⟨(xj_in4 (List.mem_of_getElem? (i := 165) rfl) rfl), (xj_in1 (List.mem_of_getElem? (i := 8) rfl) rfl), ⟨by decide +kernel, by decide +kernel⟩, by decide +kernel⟩
theorem mv_T_corrupt : xj_MV m_T_corrupt 1 := ⟨mb_T_corrupt, (xj_in4 (List.mem_of_getElem? (i := 163) rfl) rfl), (xj_in4 (List.mem_of_getElem? (i := 164) rfl) rfl)⟩
theorem mb_T_forge : xj_MB m_T_forge 4 := ⟨(xj_in4 (List.mem_of_getElem? (i := 169) rfl) rfl), (xj_in1 (List.mem_of_getElem? (i := 8) rfl) rfl), ⟨by decide +kernel, by decide +kernel⟩, by decide +kernel⟩
theorem mv_T_forge : xj_MV m_T_forge 4 := ⟨mb_T_forge, (xj_in4 (List.mem_of_getElem? (i := 167) rfl) rfl), (xj_in4 (List.mem_of_getElem? (i := 168) rfl) rfl)⟩
theorem mb_T_forgeOne : xj_MB m_T_forgeOne 4 := ⟨(xj_in4 (List.mem_of_getElem? (i := 173) rfl) rfl), (xj_in1 (List.mem_of_getElem? (i := 8) rfl) rfl), ⟨by decide +kernel, by decide +kernel⟩, by decide +kernel⟩
theorem mv_T_forgeOne : xj_MV m_T_forgeOne 4 := ⟨mb_T_forgeOne, (xj_in4 (List.mem_of_getElem? (i := 172) rfl) rfl), (xj_sel (q := (⟨"ThreePhaseGroupModel", "forgeOne", "(IIJI)I"⟩, 27)) (List.mem_of_getElem? (i := 74) rfl))⟩
theorem mb_T_forgeCheckpoint : xj_MB m_T_forgeCheckpoint 2 := ⟨(xj_in4 (List.mem_of_getElem? (i := 177) rfl) rfl), (xj_in1 (List.mem_of_getElem? (i := 8) rfl) rfl), ⟨by decide +kernel, by decide +kernel⟩, by decide +kernel⟩
theorem mv_T_forgeCheckpoint : xj_MV m_T_forgeCheckpoint 2 := ⟨mb_T_forgeCheckpoint, (xj_in4 (List.mem_of_getElem? (i := 175) rfl) rfl), (xj_in4 (List.mem_of_getElem? (i := 176) rfl) rfl)⟩
theorem mb_T_messages : xj_MB m_T_messages 0 := ⟨(xj_in4 (List.mem_of_getElem? (i := 181) rfl) rfl), (xj_in1 (List.mem_of_getElem? (i := 8) rfl) rfl), ⟨by decide +kernel, by decide +kernel⟩, by decide +kernel⟩
theorem mv_T_messages : xj_MV m_T_messages 0 := ⟨mb_T_messages, (xj_in4 (List.mem_of_getElem? (i := 179) rfl) rfl), (xj_in4 (List.mem_of_getElem? (i := 180) rfl) rfl)⟩
theorem mb_T_look : xj_MB m_T_look 2 := ⟨(xj_in4 (List.mem_of_getElem? (i := 185) rfl) rfl), (xj_in1 (List.mem_of_getElem? (i := 8) rfl) rfl), ⟨by decide +kernel, by decide +kernel⟩, by decide +kernel⟩
theorem mv_T_look : xj_MV m_T_look 2 := ⟨mb_T_look, (xj_in4 (List.mem_of_getElem? (i := 183) rfl) rfl), (xj_in4 (List.mem_of_getElem? (i := 184) rfl) rfl)⟩
theorem mb_T_mark : xj_MB m_T_mark 1 := ⟨(xj_in4 (List.mem_of_getElem? (i := 189) rfl) rfl), (xj_in1 (List.mem_of_getElem? (i := 8) rfl) rfl), ⟨by decide +kernel, by decide +kernel⟩, by decide +kernel⟩
theorem mv_T_mark : xj_MV m_T_mark 1 := ⟨mb_T_mark, (xj_in4 (List.mem_of_getElem? (i := 187) rfl) rfl), (xj_in4 (List.mem_of_getElem? (i := 188) rfl) rfl)⟩
theorem mb_T_view : xj_MB m_T_view 1 := ⟨(xj_in4 (List.mem_of_getElem? (i := 193) rfl) rfl), (xj_in1 (List.mem_of_getElem? (i := 8) rfl) rfl), ⟨by decide +kernel, by decide +kernel⟩, by decide +kernel⟩
theorem mv_T_view : xj_MV m_T_view 1 := ⟨mb_T_view, (xj_in4 (List.mem_of_getElem? (i := 191) rfl) rfl), (xj_in4 (List.mem_of_getElem? (i := 192) rfl) rfl)⟩
theorem mb_T_executed : xj_MB m_T_executed 1 := ⟨(xj_in4 (List.mem_of_getElem? (i := 197) rfl) rfl), (xj_in1 (List.mem_of_getElem? (i := 8) rfl) rfl), ⟨by decide +kernel, by decide +kernel⟩, by decide +kernel⟩
theorem mv_T_executed : xj_MV m_T_executed 1 := ⟨mb_T_executed, (xj_in4 (List.mem_of_getElem? (i := 195) rfl) rfl), (xj_in4 (List.mem_of_getElem? (i := 196) rfl) rfl)⟩
theorem mb_T_stable : xj_MB m_T_stable 1 := ⟨(xj_in4 (List.mem_of_getElem? (i := 201) rfl) rfl), (xj_in1 (List.mem_of_getElem? (i := 8) rfl) rfl), ⟨by decide +kernel, by decide +kernel⟩, by decide +kernel⟩
theorem mv_T_stable : xj_MV m_T_stable 1 := ⟨mb_T_stable, (xj_in4 (List.mem_of_getElem? (i := 199) rfl) rfl), (xj_in4 (List.mem_of_getElem? (i := 200) rfl) rfl)⟩
theorem mb_T_state : xj_MB m_T_state 1 := ⟨(xj_in4 (List.mem_of_getElem? (i := 205) rfl) rfl), (xj_in1 (List.mem_of_getElem? (i := 8) rfl) rfl), ⟨by decide +kernel, by decide +kernel⟩, by decide +kernel⟩
theorem mv_T_state : xj_MV m_T_state 1 := ⟨mb_T_state, (xj_in4 (List.mem_of_getElem? (i := 203) rfl) rfl), (xj_in4 (List.mem_of_getElem? (i := 204) rfl) rfl)⟩
theorem mb_T_slot : xj_MB m_T_slot 2 := ⟨(xj_in4 (List.mem_of_getElem? (i := 209) rfl) rfl), (xj_in1 (List.mem_of_getElem? (i := 8) rfl) rfl), ⟨by decide +kernel, by decide +kernel⟩, by decide +kernel⟩
theorem mv_T_slot : xj_MV m_T_slot 2 := ⟨mb_T_slot, (xj_in4 (List.mem_of_getElem? (i := 207) rfl) rfl), (xj_in4 (List.mem_of_getElem? (i := 208) rfl) rfl)⟩
theorem mb_T_ordered : xj_MB m_T_ordered 2 := ⟨(xj_in4 (List.mem_of_getElem? (i := 213) rfl) rfl), (xj_in1 (List.mem_of_getElem? (i := 8) rfl) rfl), ⟨by decide +kernel, by decide +kernel⟩, by decide +kernel⟩
theorem mv_T_ordered : xj_MV m_T_ordered 2 := ⟨mb_T_ordered, (xj_in4 (List.mem_of_getElem? (i := 211) rfl) rfl), (xj_in4 (List.mem_of_getElem? (i := 212) rfl) rfl)⟩
theorem mb_T_timer : xj_MB m_T_timer 1 := ⟨(xj_in4 (List.mem_of_getElem? (i := 217) rfl) rfl), (xj_in1 (List.mem_of_getElem? (i := 8) rfl) rfl), ⟨by decide +kernel, by decide +kernel⟩, by decide +kernel⟩
theorem mv_T_timer : xj_MV m_T_timer 1 := ⟨mb_T_timer, (xj_in4 (List.mem_of_getElem? (i := 215) rfl) rfl), (xj_in4 (List.mem_of_getElem? (i := 216) rfl) rfl)⟩
theorem mb_T_outstanding : xj_MB m_T_outstanding 1 := ⟨(xj_in4 (List.mem_of_getElem? (i := 221) rfl) rfl), (xj_in1 (List.mem_of_getElem? (i := 8) rfl) rfl), ⟨by decide +kernel, by decide +kernel⟩, by decide +kernel⟩
theorem mv_T_outstanding : xj_MV m_T_outstanding 1 := ⟨mb_T_outstanding, (xj_in4 (List.mem_of_getElem? (i := 219) rfl) rfl), (xj_in4 (List.mem_of_getElem? (i := 220) rfl) rfl)⟩
theorem mb_T_answer : xj_MB m_T_answer 1 := ⟨(xj_in4 (List.mem_of_getElem? (i := 225) rfl) rfl), (xj_in1 (List.mem_of_getElem? (i := 8) rfl) rfl), ⟨by decide +kernel, by decide +kernel⟩, by decide +kernel⟩
theorem mv_T_answer : xj_MV m_T_answer 1 := ⟨mb_T_answer, (xj_in4 (List.mem_of_getElem? (i := 223) rfl) rfl), (xj_in4 (List.mem_of_getElem? (i := 224) rfl) rfl)⟩
theorem nw_L : Cond.initialized "ThreePhaseGroupLaw" ∈ xj_GW := (xj_in1 (List.mem_of_getElem? (i := 0) rfl) rfl)
theorem nw_G : Cond.initialized "ThreePhaseGroup" ∈ xj_GW := (xj_in1 (List.mem_of_getElem? (i := 1) rfl) rfl)
theorem nw_B : Cond.initialized "ThreePhaseGroup$Board" ∈ xj_GW := (xj_in1 (List.mem_of_getElem? (i := 2) rfl) rfl)
theorem nw_R : Cond.initialized "ThreePhaseGroup$Replica" ∈ xj_GW := (xj_in1 (List.mem_of_getElem? (i := 3) rfl) rfl)
theorem nw_N : Cond.initialized "ThreePhaseGroup$Numbers" ∈ xj_GW := (xj_in1 (List.mem_of_getElem? (i := 4) rfl) rfl)
theorem nw_S : Cond.initialized "ThreePhaseGroup$Slot" ∈ xj_GW := (xj_in1 (List.mem_of_getElem? (i := 5) rfl) rfl)
theorem nw_JA : Cond.initialized "java/util/Arrays" ∈ xj_GW := (xj_in1 (List.mem_of_getElem? (i := 6) rfl) rfl)
theorem nw_C : Cond.initialized "ThreePhaseGroup$Client" ∈ xj_GW := (xj_in1 (List.mem_of_getElem? (i := 7) rfl) rfl)
theorem nw_T : Cond.initialized "ThreePhaseGroupModel" ∈ xj_GW := (xj_in1 (List.mem_of_getElem? (i := 8) rfl) rfl)
theorem nw_V : Cond.initialized "ThreePhaseGroup$Service" ∈ xj_GW := (xj_in1 (List.mem_of_getElem? (i := 9) rfl) rfl)
theorem nw_JM : Cond.initialized "java/lang/Math" ∈ xj_GW := (xj_in1 (List.mem_of_getElem? (i := 10) rfl) rfl)
theorem nw_JI : Cond.initialized "java/lang/Integer" ∈ xj_GW := (xj_in1 (List.mem_of_getElem? (i := 11) rfl) rfl)
theorem cw_L_7 : Cond.classLink "ThreePhaseGroupLaw" 7 "ThreePhaseGroup" ∈ xj_GW := (xj_in1 (List.mem_of_getElem? (i := 12) rfl) rfl)
theorem iw_G : Cond.instantiable "ThreePhaseGroup" 5 ∈ xj_GW := (xj_in1 (List.mem_of_getElem? (i := 13) rfl) rfl)
theorem lk_L_9 : xj_LK "ThreePhaseGroupLaw" 9 m_G_init.1 := Or.inl (xj_in1 (List.mem_of_getElem? (i := 14) rfl) rfl)
theorem lk_G_3 : xj_LK "ThreePhaseGroup" 3 m_JO_init.1 := Or.inl (xj_in1 (List.mem_of_getElem? (i := 17) rfl) rfl)
theorem cw_G_9 : Cond.classLink "ThreePhaseGroup" 9 "ThreePhaseGroup$Board" ∈ xj_GW := (xj_in1 (List.mem_of_getElem? (i := 20) rfl) rfl)
theorem iw_B : Cond.instantiable "ThreePhaseGroup$Board" 8 ∈ xj_GW := (xj_in1 (List.mem_of_getElem? (i := 21) rfl) rfl)
theorem lk_G_11 : xj_LK "ThreePhaseGroup" 11 m_B_init.1 := Or.inr ⟨_, (xj_nn1 (List.mem_of_getElem? (i := 22) rfl) rfl)⟩
theorem lk_B_3 : xj_LK "ThreePhaseGroup$Board" 3 m_JO_init.1 := Or.inl (xj_in1 (List.mem_of_getElem? (i := 25) rfl) rfl)
theorem fw_B_9 : Cond.fieldLink "ThreePhaseGroup$Board" 9 "ThreePhaseGroup$Board" "kind" "[I" ∈ xj_GW := (xj_in1 (List.mem_of_getElem? (i := 26) rfl) rfl)
theorem fl_B_9 : xj_FL "ThreePhaseGroup$Board" 9 "ThreePhaseGroup$Board" "kind" "[I" := Or.inl fw_B_9
theorem fw_C_40 : Cond.fieldLink "ThreePhaseGroup$Client" 40 "ThreePhaseGroup$Board" "kind" "[I" ∈ xj_GW := (xj_in1 (List.mem_of_getElem? (i := 27) rfl) rfl)
theorem fl_C_40 : xj_FL "ThreePhaseGroup$Client" 40 "ThreePhaseGroup$Board" "kind" "[I" := Or.inl fw_C_40
theorem fw_R_104 : Cond.fieldLink "ThreePhaseGroup$Replica" 104 "ThreePhaseGroup$Board" "kind" "[I" ∈ xj_GW := (xj_in1 (List.mem_of_getElem? (i := 28) rfl) rfl)
theorem fl_R_104 : xj_FL "ThreePhaseGroup$Replica" 104 "ThreePhaseGroup$Board" "kind" "[I" := Or.inl fw_R_104
theorem fw_G_96 : Cond.fieldLink "ThreePhaseGroup" 96 "ThreePhaseGroup$Board" "kind" "[I" ∈ xj_GW := (xj_in1 (List.mem_of_getElem? (i := 29) rfl) rfl)
theorem fl_G_96 : xj_FL "ThreePhaseGroup" 96 "ThreePhaseGroup$Board" "kind" "[I" := Or.inl fw_G_96
theorem fw_B_15 : Cond.fieldLink "ThreePhaseGroup$Board" 15 "ThreePhaseGroup$Board" "sender" "[I" ∈ xj_GW := (xj_in1 (List.mem_of_getElem? (i := 30) rfl) rfl)
theorem fl_B_15 : xj_FL "ThreePhaseGroup$Board" 15 "ThreePhaseGroup$Board" "sender" "[I" := Or.inl fw_B_15
theorem fw_C_46 : Cond.fieldLink "ThreePhaseGroup$Client" 46 "ThreePhaseGroup$Board" "sender" "[I" ∈ xj_GW := (xj_in1 (List.mem_of_getElem? (i := 31) rfl) rfl)
theorem fl_C_46 : xj_FL "ThreePhaseGroup$Client" 46 "ThreePhaseGroup$Board" "sender" "[I" := Or.inl fw_C_46
theorem fw_R_76 : Cond.fieldLink "ThreePhaseGroup$Replica" 76 "ThreePhaseGroup$Board" "sender" "[I" ∈ xj_GW := (xj_in1 (List.mem_of_getElem? (i := 32) rfl) rfl)
theorem fl_R_76 : xj_FL "ThreePhaseGroup$Replica" 76 "ThreePhaseGroup$Board" "sender" "[I" := Or.inl fw_R_76
theorem fw_G_99 : Cond.fieldLink "ThreePhaseGroup" 99 "ThreePhaseGroup$Board" "sender" "[I" ∈ xj_GW := (xj_in1 (List.mem_of_getElem? (i := 33) rfl) rfl)
theorem fl_G_99 : xj_FL "ThreePhaseGroup" 99 "ThreePhaseGroup$Board" "sender" "[I" := Or.inl fw_G_99
theorem fw_B_18 : Cond.fieldLink "ThreePhaseGroup$Board" 18 "ThreePhaseGroup$Board" "a" "[I" ∈ xj_GW := (xj_in1 (List.mem_of_getElem? (i := 34) rfl) rfl)
theorem fl_B_18 : xj_FL "ThreePhaseGroup$Board" 18 "ThreePhaseGroup$Board" "a" "[I" := Or.inl fw_B_18
theorem fw_C_49 : Cond.fieldLink "ThreePhaseGroup$Client" 49 "ThreePhaseGroup$Board" "a" "[I" ∈ xj_GW := (xj_in1 (List.mem_of_getElem? (i := 35) rfl) rfl)
theorem fl_C_49 : xj_FL "ThreePhaseGroup$Client" 49 "ThreePhaseGroup$Board" "a" "[I" := Or.inl fw_C_49
theorem fw_R_81 : Cond.fieldLink "ThreePhaseGroup$Replica" 81 "ThreePhaseGroup$Board" "a" "[I" ∈ xj_GW := (xj_in1 (List.mem_of_getElem? (i := 36) rfl) rfl)
theorem fl_R_81 : xj_FL "ThreePhaseGroup$Replica" 81 "ThreePhaseGroup$Board" "a" "[I" := Or.inl fw_R_81
theorem fw_G_102 : Cond.fieldLink "ThreePhaseGroup" 102 "ThreePhaseGroup$Board" "a" "[I" ∈ xj_GW := (xj_in1 (List.mem_of_getElem? (i := 37) rfl) rfl)
theorem fl_G_102 : xj_FL "ThreePhaseGroup" 102 "ThreePhaseGroup$Board" "a" "[I" := Or.inl fw_G_102
theorem fw_B_21 : Cond.fieldLink "ThreePhaseGroup$Board" 21 "ThreePhaseGroup$Board" "b" "[J" ∈ xj_GW := (xj_in1 (List.mem_of_getElem? (i := 38) rfl) rfl)
theorem fl_B_21 : xj_FL "ThreePhaseGroup$Board" 21 "ThreePhaseGroup$Board" "b" "[J" := Or.inl fw_B_21
theorem fw_C_52 : Cond.fieldLink "ThreePhaseGroup$Client" 52 "ThreePhaseGroup$Board" "b" "[J" ∈ xj_GW := (xj_in1 (List.mem_of_getElem? (i := 39) rfl) rfl)
theorem fl_C_52 : xj_FL "ThreePhaseGroup$Client" 52 "ThreePhaseGroup$Board" "b" "[J" := Or.inl fw_C_52
theorem fw_R_131 : Cond.fieldLink "ThreePhaseGroup$Replica" 131 "ThreePhaseGroup$Board" "b" "[J" ∈ xj_GW := (xj_in1 (List.mem_of_getElem? (i := 40) rfl) rfl)
theorem fl_R_131 : xj_FL "ThreePhaseGroup$Replica" 131 "ThreePhaseGroup$Board" "b" "[J" := Or.inl fw_R_131
theorem fw_G_105 : Cond.fieldLink "ThreePhaseGroup" 105 "ThreePhaseGroup$Board" "b" "[J" ∈ xj_GW := (xj_in1 (List.mem_of_getElem? (i := 41) rfl) rfl)
theorem fl_G_105 : xj_FL "ThreePhaseGroup" 105 "ThreePhaseGroup$Board" "b" "[J" := Or.inl fw_G_105
theorem fw_B_25 : Cond.fieldLink "ThreePhaseGroup$Board" 25 "ThreePhaseGroup$Board" "c" "[I" ∈ xj_GW := (xj_in1 (List.mem_of_getElem? (i := 42) rfl) rfl)
theorem fl_B_25 : xj_FL "ThreePhaseGroup$Board" 25 "ThreePhaseGroup$Board" "c" "[I" := Or.inl fw_B_25
theorem fw_C_55 : Cond.fieldLink "ThreePhaseGroup$Client" 55 "ThreePhaseGroup$Board" "c" "[I" ∈ xj_GW := (xj_in1 (List.mem_of_getElem? (i := 43) rfl) rfl)
theorem fl_C_55 : xj_FL "ThreePhaseGroup$Client" 55 "ThreePhaseGroup$Board" "c" "[I" := Or.inl fw_C_55
theorem fw_G_109 : Cond.fieldLink "ThreePhaseGroup" 109 "ThreePhaseGroup$Board" "c" "[I" ∈ xj_GW := (xj_in1 (List.mem_of_getElem? (i := 44) rfl) rfl)
theorem fl_G_109 : xj_FL "ThreePhaseGroup" 109 "ThreePhaseGroup$Board" "c" "[I" := Or.inl fw_G_109
theorem fw_R_139 : Cond.fieldLink "ThreePhaseGroup$Replica" 139 "ThreePhaseGroup$Board" "c" "[I" ∈ xj_GW := (xj_in1 (List.mem_of_getElem? (i := 45) rfl) rfl)
theorem fl_R_139 : xj_FL "ThreePhaseGroup$Replica" 139 "ThreePhaseGroup$Board" "c" "[I" := Or.inl fw_R_139
theorem fw_B_28 : Cond.fieldLink "ThreePhaseGroup$Board" 28 "ThreePhaseGroup$Board" "valid" "[Z" ∈ xj_GW := (xj_in1 (List.mem_of_getElem? (i := 46) rfl) rfl)
theorem fl_B_28 : xj_FL "ThreePhaseGroup$Board" 28 "ThreePhaseGroup$Board" "valid" "[Z" := Or.inl fw_B_28
theorem fw_G_112 : Cond.fieldLink "ThreePhaseGroup" 112 "ThreePhaseGroup$Board" "valid" "[Z" ∈ xj_GW := (xj_in1 (List.mem_of_getElem? (i := 47) rfl) rfl)
theorem fl_G_112 : xj_FL "ThreePhaseGroup" 112 "ThreePhaseGroup$Board" "valid" "[Z" := Or.inl fw_G_112
theorem fw_R_164 : Cond.fieldLink "ThreePhaseGroup$Replica" 164 "ThreePhaseGroup$Board" "valid" "[Z" ∈ xj_GW := (xj_in1 (List.mem_of_getElem? (i := 48) rfl) rfl)
theorem fl_R_164 : xj_FL "ThreePhaseGroup$Replica" 164 "ThreePhaseGroup$Board" "valid" "[Z" := Or.inl fw_R_164
theorem fw_B_32 : Cond.fieldLink "ThreePhaseGroup$Board" 32 "ThreePhaseGroup$Board" "size" "I" ∈ xj_GW := (xj_in1 (List.mem_of_getElem? (i := 49) rfl) rfl)
theorem fl_B_32 : xj_FL "ThreePhaseGroup$Board" 32 "ThreePhaseGroup$Board" "size" "I" := Or.inl fw_B_32
theorem fw_G_91 : Cond.fieldLink "ThreePhaseGroup" 91 "ThreePhaseGroup$Board" "size" "I" ∈ xj_GW := (xj_in1 (List.mem_of_getElem? (i := 50) rfl) rfl)
theorem fl_G_91 : xj_FL "ThreePhaseGroup" 91 "ThreePhaseGroup$Board" "size" "I" := Or.inl fw_G_91
theorem fw_B_36 : Cond.fieldLink "ThreePhaseGroup$Board" 36 "ThreePhaseGroup$Board" "judged" "I" ∈ xj_GW := (xj_in1 (List.mem_of_getElem? (i := 51) rfl) rfl)
theorem fl_B_36 : xj_FL "ThreePhaseGroup$Board" 36 "ThreePhaseGroup$Board" "judged" "I" := Or.inl fw_B_36
theorem aw_int : Cond.arrayClass .int ∈ xj_GW := (xj_in1 (List.mem_of_getElem? (i := 69) rfl) rfl)
theorem aw_long : Cond.arrayClass .long ∈ xj_GW := (xj_in1 (List.mem_of_getElem? (i := 70) rfl) rfl)
theorem aw_boolean : Cond.arrayClass .boolean ∈ xj_GW := (xj_in1 (List.mem_of_getElem? (i := 71) rfl) rfl)
theorem cw_G_16 : Cond.classLink "ThreePhaseGroup" 16 "ThreePhaseGroup$Replica" ∈ xj_GW := (xj_in1 (List.mem_of_getElem? (i := 72) rfl) rfl)
theorem ow_R : Cond.arrayOver (.object "ThreePhaseGroup$Replica") ∈ xj_NW := (xj_nn1 (List.mem_of_getElem? (i := 73) rfl) rfl)
theorem cw_G_22 : Cond.classLink "ThreePhaseGroup" 22 "ThreePhaseGroup$Client" ∈ xj_GW := (xj_in1 (List.mem_of_getElem? (i := 74) rfl) rfl)
theorem ow_C : Cond.arrayOver (.object "ThreePhaseGroup$Client") ∈ xj_NW := (xj_nn1 (List.mem_of_getElem? (i := 75) rfl) rfl)
theorem iw_R : Cond.instantiable "ThreePhaseGroup$Replica" 14 ∈ xj_GW := (xj_in1 (List.mem_of_getElem? (i := 76) rfl) rfl)
theorem lk_G_36 : xj_LK "ThreePhaseGroup" 36 m_R_init.1 := Or.inl (xj_in1 (List.mem_of_getElem? (i := 77) rfl) rfl)
theorem lk_R_3 : xj_LK "ThreePhaseGroup$Replica" 3 m_JO_init.1 := Or.inl (xj_in1 (List.mem_of_getElem? (i := 80) rfl) rfl)
theorem cw_R_9 : Cond.classLink "ThreePhaseGroup$Replica" 9 "ThreePhaseGroup$Slot" ∈ xj_GW := (xj_in1 (List.mem_of_getElem? (i := 81) rfl) rfl)
theorem ow_S : Cond.arrayOver (.object "ThreePhaseGroup$Slot") ∈ xj_NW := (xj_nn1 (List.mem_of_getElem? (i := 82) rfl) rfl)
theorem cw_R_17 : Cond.classLink "ThreePhaseGroup$Replica" 17 "ThreePhaseGroup$Numbers" ∈ xj_GW := (xj_in1 (List.mem_of_getElem? (i := 83) rfl) rfl)
theorem iw_N : Cond.instantiable "ThreePhaseGroup$Numbers" 2 ∈ xj_GW := (xj_in1 (List.mem_of_getElem? (i := 84) rfl) rfl)
theorem lk_R_19 : xj_LK "ThreePhaseGroup$Replica" 19 m_N_init.1 := Or.inr ⟨_, (xj_nn1 (List.mem_of_getElem? (i := 85) rfl) rfl)⟩
theorem lk_N_3 : xj_LK "ThreePhaseGroup$Numbers" 3 m_JO_init.1 := Or.inl (xj_in1 (List.mem_of_getElem? (i := 88) rfl) rfl)
theorem fw_N_9 : Cond.fieldLink "ThreePhaseGroup$Numbers" 9 "ThreePhaseGroup$Numbers" "at" "[I" ∈ xj_GW := (xj_in1 (List.mem_of_getElem? (i := 89) rfl) rfl)
theorem fl_N_9 : xj_FL "ThreePhaseGroup$Numbers" 9 "ThreePhaseGroup$Numbers" "at" "[I" := Or.inl fw_N_9
theorem fw_R_93 : Cond.fieldLink "ThreePhaseGroup$Replica" 93 "ThreePhaseGroup$Numbers" "at" "[I" ∈ xj_GW := (xj_in1 (List.mem_of_getElem? (i := 90) rfl) rfl)
theorem fl_R_93 : xj_FL "ThreePhaseGroup$Replica" 93 "ThreePhaseGroup$Numbers" "at" "[I" := Or.inl fw_R_93
theorem fw_N_15 : Cond.fieldLink "ThreePhaseGroup$Numbers" 15 "ThreePhaseGroup$Numbers" "size" "I" ∈ xj_GW := (xj_in1 (List.mem_of_getElem? (i := 91) rfl) rfl)
theorem fl_N_15 : xj_FL "ThreePhaseGroup$Numbers" 15 "ThreePhaseGroup$Numbers" "size" "I" := Or.inl fw_N_15
theorem fw_R_90 : Cond.fieldLink "ThreePhaseGroup$Replica" 90 "ThreePhaseGroup$Numbers" "size" "I" ∈ xj_GW := (xj_in1 (List.mem_of_getElem? (i := 92) rfl) rfl)
theorem fl_R_90 : xj_FL "ThreePhaseGroup$Replica" 90 "ThreePhaseGroup$Numbers" "size" "I" := Or.inl fw_R_90
theorem iw_S : Cond.instantiable "ThreePhaseGroup$Slot" 5 ∈ xj_GW := (xj_in1 (List.mem_of_getElem? (i := 98) rfl) rfl)
theorem lk_R_65 : xj_LK "ThreePhaseGroup$Replica" 65 m_S_init.1 := Or.inl (xj_in1 (List.mem_of_getElem? (i := 99) rfl) rfl)
theorem lk_S_3 : xj_LK "ThreePhaseGroup$Slot" 3 m_JO_init.1 := Or.inl (xj_in1 (List.mem_of_getElem? (i := 102) rfl) rfl)
theorem lk_S_25 : xj_LK "ThreePhaseGroup$Slot" 25 m_S_forgetView.1 := Or.inl (xj_in1 (List.mem_of_getElem? (i := 103) rfl) rfl)
theorem kl_S_31 : Cond.constantLong "ThreePhaseGroup$Slot" 31 (1099511627776) ∈ xj_GW := (xj_in1 (List.mem_of_getElem? (i := 107) rfl) rfl)
theorem fw_S_9 : Cond.fieldLink "ThreePhaseGroup$Slot" 9 "ThreePhaseGroup$Slot" "prepares" "[J" ∈ xj_GW := (xj_in1 (List.mem_of_getElem? (i := 108) rfl) rfl)
theorem fl_S_9 : xj_FL "ThreePhaseGroup$Slot" 9 "ThreePhaseGroup$Slot" "prepares" "[J" := Or.inl fw_S_9
theorem fw_R_156 : Cond.fieldLink "ThreePhaseGroup$Replica" 156 "ThreePhaseGroup$Slot" "prepares" "[J" ∈ xj_GW := (xj_in1 (List.mem_of_getElem? (i := 109) rfl) rfl)
theorem fl_R_156 : xj_FL "ThreePhaseGroup$Replica" 156 "ThreePhaseGroup$Slot" "prepares" "[J" := Or.inl fw_R_156
theorem fw_S_15 : Cond.fieldLink "ThreePhaseGroup$Slot" 15 "ThreePhaseGroup$Slot" "commits" "[J" ∈ xj_GW := (xj_in1 (List.mem_of_getElem? (i := 110) rfl) rfl)
theorem fl_S_15 : xj_FL "ThreePhaseGroup$Slot" 15 "ThreePhaseGroup$Slot" "commits" "[J" := Or.inl fw_S_15
theorem fw_R_159 : Cond.fieldLink "ThreePhaseGroup$Replica" 159 "ThreePhaseGroup$Slot" "commits" "[J" ∈ xj_GW := (xj_in1 (List.mem_of_getElem? (i := 111) rfl) rfl)
theorem fl_R_159 : xj_FL "ThreePhaseGroup$Replica" 159 "ThreePhaseGroup$Slot" "commits" "[J" := Or.inl fw_R_159
theorem fw_S_28 : Cond.fieldLink "ThreePhaseGroup$Slot" 28 "ThreePhaseGroup$Slot" "accepted" "I" ∈ xj_GW := (xj_in1 (List.mem_of_getElem? (i := 112) rfl) rfl)
theorem fl_S_28 : xj_FL "ThreePhaseGroup$Slot" 28 "ThreePhaseGroup$Slot" "accepted" "I" := Or.inl fw_S_28
theorem fw_R_149 : Cond.fieldLink "ThreePhaseGroup$Replica" 149 "ThreePhaseGroup$Slot" "accepted" "I" ∈ xj_GW := (xj_in1 (List.mem_of_getElem? (i := 113) rfl) rfl)
theorem fl_R_149 : xj_FL "ThreePhaseGroup$Replica" 149 "ThreePhaseGroup$Slot" "accepted" "I" := Or.inl fw_R_149
theorem fw_G_150 : Cond.fieldLink "ThreePhaseGroup" 150 "ThreePhaseGroup$Slot" "accepted" "I" ∈ xj_GW := (xj_in1 (List.mem_of_getElem? (i := 114) rfl) rfl)
theorem fl_G_150 : xj_FL "ThreePhaseGroup" 150 "ThreePhaseGroup$Slot" "accepted" "I" := Or.inl fw_G_150
theorem fw_S_18 : Cond.fieldLink "ThreePhaseGroup$Slot" 18 "ThreePhaseGroup$Slot" "decided" "I" ∈ xj_GW := (xj_in1 (List.mem_of_getElem? (i := 115) rfl) rfl)
theorem fl_S_18 : xj_FL "ThreePhaseGroup$Slot" 18 "ThreePhaseGroup$Slot" "decided" "I" := Or.inl fw_S_18
theorem fw_G_147 : Cond.fieldLink "ThreePhaseGroup" 147 "ThreePhaseGroup$Slot" "decided" "I" ∈ xj_GW := (xj_in1 (List.mem_of_getElem? (i := 116) rfl) rfl)
theorem fl_G_147 : xj_FL "ThreePhaseGroup" 147 "ThreePhaseGroup$Slot" "decided" "I" := Or.inl fw_G_147
theorem fw_R_223 : Cond.fieldLink "ThreePhaseGroup$Replica" 223 "ThreePhaseGroup$Slot" "decided" "I" ∈ xj_GW := (xj_in1 (List.mem_of_getElem? (i := 117) rfl) rfl)
theorem fl_R_223 : xj_FL "ThreePhaseGroup$Replica" 223 "ThreePhaseGroup$Slot" "decided" "I" := Or.inl fw_R_223
theorem fw_S_22 : Cond.fieldLink "ThreePhaseGroup$Slot" 22 "ThreePhaseGroup$Slot" "claim" "I" ∈ xj_GW := (xj_in1 (List.mem_of_getElem? (i := 118) rfl) rfl)
theorem fl_S_22 : xj_FL "ThreePhaseGroup$Slot" 22 "ThreePhaseGroup$Slot" "claim" "I" := Or.inl fw_S_22
theorem fw_R_220 : Cond.fieldLink "ThreePhaseGroup$Replica" 220 "ThreePhaseGroup$Slot" "claim" "I" ∈ xj_GW := (xj_in1 (List.mem_of_getElem? (i := 119) rfl) rfl)
theorem fl_R_220 : xj_FL "ThreePhaseGroup$Replica" 220 "ThreePhaseGroup$Slot" "claim" "I" := Or.inl fw_R_220
theorem lk_R_66 : xj_LK "ThreePhaseGroup$Replica" 66 m_JA_fillI.1 := Or.inl (xj_in1 (List.mem_of_getElem? (i := 131) rfl) rfl)
theorem fw_R_58 : Cond.fieldLink "ThreePhaseGroup$Replica" 58 "ThreePhaseGroup$Replica" "self" "I" ∈ xj_GW := (xj_in1 (List.mem_of_getElem? (i := 134) rfl) rfl)
theorem fl_R_58 : xj_FL "ThreePhaseGroup$Replica" 58 "ThreePhaseGroup$Replica" "self" "I" := Or.inl fw_R_58
theorem fw_R_61 : Cond.fieldLink "ThreePhaseGroup$Replica" 61 "ThreePhaseGroup$Replica" "board" "LThreePhaseGroup$Board;" ∈ xj_GW := (xj_in1 (List.mem_of_getElem? (i := 135) rfl) rfl)
theorem fl_R_61 : xj_FL "ThreePhaseGroup$Replica" 61 "ThreePhaseGroup$Replica" "board" "LThreePhaseGroup$Board;" := Or.inl fw_R_61
theorem fw_R_11 : Cond.fieldLink "ThreePhaseGroup$Replica" 11 "ThreePhaseGroup$Replica" "slots" "[LThreePhaseGroup$Slot;" ∈ xj_GW := (xj_in1 (List.mem_of_getElem? (i := 136) rfl) rfl)
theorem fl_R_11 : xj_FL "ThreePhaseGroup$Replica" 11 "ThreePhaseGroup$Replica" "slots" "[LThreePhaseGroup$Slot;" := Or.inl fw_R_11
theorem fw_R_20 : Cond.fieldLink "ThreePhaseGroup$Replica" 20 "ThreePhaseGroup$Replica" "known" "LThreePhaseGroup$Numbers;" ∈ xj_GW := (xj_in1 (List.mem_of_getElem? (i := 137) rfl) rfl)
theorem fl_R_20 : xj_FL "ThreePhaseGroup$Replica" 20 "ThreePhaseGroup$Replica" "known" "LThreePhaseGroup$Numbers;" := Or.inl fw_R_20
theorem fw_R_24 : Cond.fieldLink "ThreePhaseGroup$Replica" 24 "ThreePhaseGroup$Replica" "checkpoints" "LThreePhaseGroup$Numbers;" ∈ xj_GW := (xj_in1 (List.mem_of_getElem? (i := 138) rfl) rfl)
theorem fl_R_24 : xj_FL "ThreePhaseGroup$Replica" 24 "ThreePhaseGroup$Replica" "checkpoints" "LThreePhaseGroup$Numbers;" := Or.inl fw_R_24
theorem fw_R_27 : Cond.fieldLink "ThreePhaseGroup$Replica" 27 "ThreePhaseGroup$Replica" "viewChanges" "[I" ∈ xj_GW := (xj_in1 (List.mem_of_getElem? (i := 139) rfl) rfl)
theorem fl_R_27 : xj_FL "ThreePhaseGroup$Replica" 27 "ThreePhaseGroup$Replica" "viewChanges" "[I" := Or.inl fw_R_27
theorem fw_R_31 : Cond.fieldLink "ThreePhaseGroup$Replica" 31 "ThreePhaseGroup$Replica" "view" "I" ∈ xj_GW := (xj_in1 (List.mem_of_getElem? (i := 140) rfl) rfl)
theorem fl_R_31 : xj_FL "ThreePhaseGroup$Replica" 31 "ThreePhaseGroup$Replica" "view" "I" := Or.inl fw_R_31
theorem fw_G_116 : Cond.fieldLink "ThreePhaseGroup" 116 "ThreePhaseGroup$Replica" "view" "I" ∈ xj_GW := (xj_in1 (List.mem_of_getElem? (i := 141) rfl) rfl)
theorem fl_G_116 : xj_FL "ThreePhaseGroup" 116 "ThreePhaseGroup$Replica" "view" "I" := Or.inl fw_G_116
theorem fw_R_35 : Cond.fieldLink "ThreePhaseGroup$Replica" 35 "ThreePhaseGroup$Replica" "changing" "Z" ∈ xj_GW := (xj_in1 (List.mem_of_getElem? (i := 142) rfl) rfl)
theorem fl_R_35 : xj_FL "ThreePhaseGroup$Replica" 35 "ThreePhaseGroup$Replica" "changing" "Z" := Or.inl fw_R_35
theorem fw_G_119 : Cond.fieldLink "ThreePhaseGroup" 119 "ThreePhaseGroup$Replica" "changing" "Z" ∈ xj_GW := (xj_in1 (List.mem_of_getElem? (i := 143) rfl) rfl)
theorem fl_G_119 : xj_FL "ThreePhaseGroup" 119 "ThreePhaseGroup$Replica" "changing" "Z" := Or.inl fw_G_119
theorem fw_R_39 : Cond.fieldLink "ThreePhaseGroup$Replica" 39 "ThreePhaseGroup$Replica" "stable" "I" ∈ xj_GW := (xj_in1 (List.mem_of_getElem? (i := 144) rfl) rfl)
theorem fl_R_39 : xj_FL "ThreePhaseGroup$Replica" 39 "ThreePhaseGroup$Replica" "stable" "I" := Or.inl fw_R_39
theorem fw_G_126 : Cond.fieldLink "ThreePhaseGroup" 126 "ThreePhaseGroup$Replica" "stable" "I" ∈ xj_GW := (xj_in1 (List.mem_of_getElem? (i := 145) rfl) rfl)
theorem fl_G_126 : xj_FL "ThreePhaseGroup" 126 "ThreePhaseGroup$Replica" "stable" "I" := Or.inl fw_G_126
theorem fw_R_42 : Cond.fieldLink "ThreePhaseGroup$Replica" 42 "ThreePhaseGroup$Replica" "executed" "I" ∈ xj_GW := (xj_in1 (List.mem_of_getElem? (i := 146) rfl) rfl)
theorem fl_R_42 : xj_FL "ThreePhaseGroup$Replica" 42 "ThreePhaseGroup$Replica" "executed" "I" := Or.inl fw_R_42
theorem fw_G_123 : Cond.fieldLink "ThreePhaseGroup" 123 "ThreePhaseGroup$Replica" "executed" "I" ∈ xj_GW := (xj_in1 (List.mem_of_getElem? (i := 147) rfl) rfl)
theorem fl_G_123 : xj_FL "ThreePhaseGroup" 123 "ThreePhaseGroup$Replica" "executed" "I" := Or.inl fw_G_123
theorem fw_R_45 : Cond.fieldLink "ThreePhaseGroup$Replica" 45 "ThreePhaseGroup$Replica" "state" "J" ∈ xj_GW := (xj_in1 (List.mem_of_getElem? (i := 148) rfl) rfl)
theorem fl_R_45 : xj_FL "ThreePhaseGroup$Replica" 45 "ThreePhaseGroup$Replica" "state" "J" := Or.inl fw_R_45
theorem fw_G_129 : Cond.fieldLink "ThreePhaseGroup" 129 "ThreePhaseGroup$Replica" "state" "J" ∈ xj_GW := (xj_in1 (List.mem_of_getElem? (i := 149) rfl) rfl)
theorem fl_G_129 : xj_FL "ThreePhaseGroup" 129 "ThreePhaseGroup$Replica" "state" "J" := Or.inl fw_G_129
theorem fw_R_49 : Cond.fieldLink "ThreePhaseGroup$Replica" 49 "ThreePhaseGroup$Replica" "timer" "I" ∈ xj_GW := (xj_in1 (List.mem_of_getElem? (i := 150) rfl) rfl)
theorem fl_R_49 : xj_FL "ThreePhaseGroup$Replica" 49 "ThreePhaseGroup$Replica" "timer" "I" := Or.inl fw_R_49
theorem fw_G_75 : Cond.fieldLink "ThreePhaseGroup" 75 "ThreePhaseGroup$Replica" "timer" "I" ∈ xj_GW := (xj_in1 (List.mem_of_getElem? (i := 151) rfl) rfl)
theorem fl_G_75 : xj_FL "ThreePhaseGroup" 75 "ThreePhaseGroup$Replica" "timer" "I" := Or.inl fw_G_75
theorem fw_R_52 : Cond.fieldLink "ThreePhaseGroup$Replica" 52 "ThreePhaseGroup$Replica" "span" "I" ∈ xj_GW := (xj_in1 (List.mem_of_getElem? (i := 152) rfl) rfl)
theorem fl_R_52 : xj_FL "ThreePhaseGroup$Replica" 52 "ThreePhaseGroup$Replica" "span" "I" := Or.inl fw_R_52
theorem fw_R_55 : Cond.fieldLink "ThreePhaseGroup$Replica" 55 "ThreePhaseGroup$Replica" "renewing" "Z" ∈ xj_GW := (xj_in1 (List.mem_of_getElem? (i := 153) rfl) rfl)
theorem fl_R_55 : xj_FL "ThreePhaseGroup$Replica" 55 "ThreePhaseGroup$Replica" "renewing" "Z" := Or.inl fw_R_55
theorem iw_C : Cond.instantiable "ThreePhaseGroup$Client" 6 ∈ xj_GW := (xj_in1 (List.mem_of_getElem? (i := 183) rfl) rfl)
theorem lk_G_39 : xj_LK "ThreePhaseGroup" 39 m_C_init.1 := Or.inl (xj_in1 (List.mem_of_getElem? (i := 184) rfl) rfl)
theorem lk_C_3 : xj_LK "ThreePhaseGroup$Client" 3 m_JO_init.1 := Or.inl (xj_in1 (List.mem_of_getElem? (i := 187) rfl) rfl)
theorem fw_C_25 : Cond.fieldLink "ThreePhaseGroup$Client" 25 "ThreePhaseGroup$Client" "self" "I" ∈ xj_GW := (xj_in1 (List.mem_of_getElem? (i := 188) rfl) rfl)
theorem fl_C_25 : xj_FL "ThreePhaseGroup$Client" 25 "ThreePhaseGroup$Client" "self" "I" := Or.inl fw_C_25
theorem fw_C_28 : Cond.fieldLink "ThreePhaseGroup$Client" 28 "ThreePhaseGroup$Client" "board" "LThreePhaseGroup$Board;" ∈ xj_GW := (xj_in1 (List.mem_of_getElem? (i := 189) rfl) rfl)
theorem fl_C_28 : xj_FL "ThreePhaseGroup$Client" 28 "ThreePhaseGroup$Client" "board" "LThreePhaseGroup$Board;" := Or.inl fw_C_28
theorem fw_C_9 : Cond.fieldLink "ThreePhaseGroup$Client" 9 "ThreePhaseGroup$Client" "replies" "[J" ∈ xj_GW := (xj_in1 (List.mem_of_getElem? (i := 190) rfl) rfl)
theorem fl_C_9 : xj_FL "ThreePhaseGroup$Client" 9 "ThreePhaseGroup$Client" "replies" "[J" := Or.inl fw_C_9
theorem fw_C_15 : Cond.fieldLink "ThreePhaseGroup$Client" 15 "ThreePhaseGroup$Client" "submitted" "I" ∈ xj_GW := (xj_in1 (List.mem_of_getElem? (i := 191) rfl) rfl)
theorem fl_C_15 : xj_FL "ThreePhaseGroup$Client" 15 "ThreePhaseGroup$Client" "submitted" "I" := Or.inl fw_C_15
theorem fw_C_19 : Cond.fieldLink "ThreePhaseGroup$Client" 19 "ThreePhaseGroup$Client" "outstanding" "I" ∈ xj_GW := (xj_in1 (List.mem_of_getElem? (i := 192) rfl) rfl)
theorem fl_C_19 : xj_FL "ThreePhaseGroup$Client" 19 "ThreePhaseGroup$Client" "outstanding" "I" := Or.inl fw_C_19
theorem fw_G_48 : Cond.fieldLink "ThreePhaseGroup" 48 "ThreePhaseGroup$Client" "outstanding" "I" ∈ xj_GW := (xj_in1 (List.mem_of_getElem? (i := 193) rfl) rfl)
theorem fl_G_48 : xj_FL "ThreePhaseGroup" 48 "ThreePhaseGroup$Client" "outstanding" "I" := Or.inl fw_G_48
theorem fw_C_22 : Cond.fieldLink "ThreePhaseGroup$Client" 22 "ThreePhaseGroup$Client" "latestAnswer" "I" ∈ xj_GW := (xj_in1 (List.mem_of_getElem? (i := 194) rfl) rfl)
theorem fl_C_22 : xj_FL "ThreePhaseGroup$Client" 22 "ThreePhaseGroup$Client" "latestAnswer" "I" := Or.inl fw_C_22
theorem fw_G_157 : Cond.fieldLink "ThreePhaseGroup" 157 "ThreePhaseGroup$Client" "latestAnswer" "I" ∈ xj_GW := (xj_in1 (List.mem_of_getElem? (i := 195) rfl) rfl)
theorem fl_G_157 : xj_FL "ThreePhaseGroup" 157 "ThreePhaseGroup$Client" "latestAnswer" "I" := Or.inl fw_G_157
theorem fw_G_12 : Cond.fieldLink "ThreePhaseGroup" 12 "ThreePhaseGroup" "board" "LThreePhaseGroup$Board;" ∈ xj_GW := (xj_in1 (List.mem_of_getElem? (i := 209) rfl) rfl)
theorem fl_G_12 : xj_FL "ThreePhaseGroup" 12 "ThreePhaseGroup" "board" "LThreePhaseGroup$Board;" := Or.inl fw_G_12
theorem fw_G_18 : Cond.fieldLink "ThreePhaseGroup" 18 "ThreePhaseGroup" "replicas" "[LThreePhaseGroup$Replica;" ∈ xj_GW := (xj_in1 (List.mem_of_getElem? (i := 210) rfl) rfl)
theorem fl_G_18 : xj_FL "ThreePhaseGroup" 18 "ThreePhaseGroup" "replicas" "[LThreePhaseGroup$Replica;" := Or.inl fw_G_18
theorem fw_G_24 : Cond.fieldLink "ThreePhaseGroup" 24 "ThreePhaseGroup" "clients" "[LThreePhaseGroup$Client;" ∈ xj_GW := (xj_in1 (List.mem_of_getElem? (i := 211) rfl) rfl)
theorem fl_G_24 : xj_FL "ThreePhaseGroup" 24 "ThreePhaseGroup" "clients" "[LThreePhaseGroup$Client;" := Or.inl fw_G_24
theorem fw_G_28 : Cond.fieldLink "ThreePhaseGroup" 28 "ThreePhaseGroup" "marks" "[I" ∈ xj_GW := (xj_in1 (List.mem_of_getElem? (i := 212) rfl) rfl)
theorem fl_G_28 : xj_FL "ThreePhaseGroup" 28 "ThreePhaseGroup" "marks" "[I" := Or.inl fw_G_28
theorem fw_G_32 : Cond.fieldLink "ThreePhaseGroup" 32 "ThreePhaseGroup" "faulty" "I" ∈ xj_GW := (xj_in1 (List.mem_of_getElem? (i := 213) rfl) rfl)
theorem fl_G_32 : xj_FL "ThreePhaseGroup" 32 "ThreePhaseGroup" "faulty" "I" := Or.inl fw_G_32
theorem lk_L_13 : xj_LK "ThreePhaseGroupLaw" 13 m_G_submit.1 := Or.inl (xj_in1 (List.mem_of_getElem? (i := 225) rfl) rfl)
theorem lk_G_40 : xj_LK "ThreePhaseGroup" 40 m_G_isClient.1 := Or.inl (xj_in1 (List.mem_of_getElem? (i := 229) rfl) rfl)
theorem lk_G_44 : xj_LK "ThreePhaseGroup" 44 m_G_isOperation.1 := Or.inl (xj_in1 (List.mem_of_getElem? (i := 232) rfl) rfl)
theorem lk_G_51 : xj_LK "ThreePhaseGroup" 51 m_B_isFull.1 := Or.inl (xj_in1 (List.mem_of_getElem? (i := 235) rfl) rfl)
theorem lk_G_55 : xj_LK "ThreePhaseGroup" 55 m_C_openNext.1 := Or.inl (xj_in1 (List.mem_of_getElem? (i := 239) rfl) rfl)
theorem kl_C_32 : Cond.constantLong "ThreePhaseGroup$Client" 32 (1099511627776) ∈ xj_GW := (xj_in2 (List.mem_of_getElem? (i := 3) rfl) rfl)
theorem lk_C_34 : xj_LK "ThreePhaseGroup$Client" 34 m_JA_fillJ.1 := Or.inl (xj_in2 (List.mem_of_getElem? (i := 4) rfl) rfl)
theorem lk_G_58 : xj_LK "ThreePhaseGroup" 58 m_B_post.1 := Or.inl (xj_in2 (List.mem_of_getElem? (i := 7) rfl) rfl)
theorem lk_L_18 : xj_LK "ThreePhaseGroupLaw" 18 m_G_deliver.1 := Or.inl (xj_in2 (List.mem_of_getElem? (i := 11) rfl) rfl)
theorem lk_G_62 : xj_LK "ThreePhaseGroup" 62 m_B_has.1 := Or.inl (xj_in2 (List.mem_of_getElem? (i := 15) rfl) rfl)
theorem lk_G_65 : xj_LK "ThreePhaseGroup" 65 m_G_isParty.1 := Or.inl (xj_in2 (List.mem_of_getElem? (i := 19) rfl) rfl)
theorem lk_G_68 : xj_LK "ThreePhaseGroup" 68 m_G_give.1 := Or.inl (xj_in2 (List.mem_of_getElem? (i := 22) rfl) rfl)
theorem lk_G_162 : xj_LK "ThreePhaseGroup" 162 m_C_takes.1 := Or.inl (xj_in2 (List.mem_of_getElem? (i := 26) rfl) rfl)
theorem lk_C_58 : xj_LK "ThreePhaseGroup$Client" 58 m_C_countReplies.1 := Or.inl (xj_in2 (List.mem_of_getElem? (i := 30) rfl) rfl)
theorem lk_G_165 : xj_LK "ThreePhaseGroup" 165 m_R_takes.1 := Or.inl (xj_in2 (List.mem_of_getElem? (i := 34) rfl) rfl)
theorem lk_R_107 : xj_LK "ThreePhaseGroup$Replica" 107 m_R_takesRequest.1 := Or.inl (xj_in2 (List.mem_of_getElem? (i := 38) rfl) rfl)
theorem lk_R_125 : xj_LK "ThreePhaseGroup$Replica" 125 m_N_has.1 := Or.inl (xj_in2 (List.mem_of_getElem? (i := 42) rfl) rfl)
theorem lk_R_96 : xj_LK "ThreePhaseGroup$Replica" 96 m_R_wouldWait.1 := Or.inl (xj_in2 (List.mem_of_getElem? (i := 46) rfl) rfl)
theorem lk_R_84 : xj_LK "ThreePhaseGroup$Replica" 84 m_V_timestampOf.1 := Or.inl (xj_in2 (List.mem_of_getElem? (i := 50) rfl) rfl)
theorem lk_R_128 : xj_LK "ThreePhaseGroup$Replica" 128 m_R_learn.1 := Or.inl (xj_in2 (List.mem_of_getElem? (i := 53) rfl) rfl)
theorem lk_R_100 : xj_LK "ThreePhaseGroup$Replica" 100 m_N_add.1 := Or.inl (xj_in2 (List.mem_of_getElem? (i := 57) rfl) rfl)
theorem lk_N_19 : xj_LK "ThreePhaseGroup$Numbers" 19 m_N_has.1 := Or.inl (xj_in2 (List.mem_of_getElem? (i := 61) rfl) rfl)
theorem lk_R_110 : xj_LK "ThreePhaseGroup$Replica" 110 m_R_takesPrePrepare.1 := Or.inl (xj_in2 (List.mem_of_getElem? (i := 62) rfl) rfl)
theorem lk_R_142 : xj_LK "ThreePhaseGroup$Replica" 142 m_R_isOfThisView.1 := Or.inl (xj_in2 (List.mem_of_getElem? (i := 66) rfl) rfl)
theorem lk_R_135 : xj_LK "ThreePhaseGroup$Replica" 135 m_R_inWindow.1 := Or.inl (xj_in2 (List.mem_of_getElem? (i := 70) rfl) rfl)
theorem lk_R_72 : xj_LK "ThreePhaseGroup$Replica" 72 m_G_primaryOf.1 := Or.inr ⟨_, (xj_nn2 (List.mem_of_getElem? (i := 74) rfl) rfl)⟩
theorem lk_R_145 : xj_LK "ThreePhaseGroup$Replica" 145 m_R_slotAt.1 := Or.inl (xj_in2 (List.mem_of_getElem? (i := 77) rfl) rfl)
theorem lk_R_152 : xj_LK "ThreePhaseGroup$Replica" 152 m_B_hasRequestBelow.1 := Or.inl (xj_in2 (List.mem_of_getElem? (i := 81) rfl) rfl)
theorem lk_R_113 : xj_LK "ThreePhaseGroup$Replica" 113 m_R_takesPhase.1 := Or.inl (xj_in2 (List.mem_of_getElem? (i := 85) rfl) rfl)
theorem kl_R_162 : Cond.constantLong "ThreePhaseGroup$Replica" 162 (1099511627776) ∈ xj_GW := (xj_in2 (List.mem_of_getElem? (i := 89) rfl) rfl)
theorem lk_R_116 : xj_LK "ThreePhaseGroup$Replica" 116 m_R_takesCheckpoint.1 := Or.inl (xj_in2 (List.mem_of_getElem? (i := 90) rfl) rfl)
theorem lk_R_119 : xj_LK "ThreePhaseGroup$Replica" 119 m_R_takesViewChange.1 := Or.inl (xj_in2 (List.mem_of_getElem? (i := 94) rfl) rfl)
theorem lk_R_168 : xj_LK "ThreePhaseGroup$Replica" 168 m_R_isAhead.1 := Or.inl (xj_in2 (List.mem_of_getElem? (i := 98) rfl) rfl)
theorem lk_R_122 : xj_LK "ThreePhaseGroup$Replica" 122 m_R_takesNewView.1 := Or.inl (xj_in2 (List.mem_of_getElem? (i := 102) rfl) rfl)
theorem lk_R_171 : xj_LK "ThreePhaseGroup$Replica" 171 m_R_enter.1 := Or.inl (xj_in2 (List.mem_of_getElem? (i := 106) rfl) rfl)
theorem lk_R_283 : xj_LK "ThreePhaseGroup$Replica" 283 m_R_moveTo.1 := Or.inl (xj_in2 (List.mem_of_getElem? (i := 110) rfl) rfl)
theorem lk_R_277 : xj_LK "ThreePhaseGroup$Replica" 277 m_S_forgetView.1 := Or.inl (xj_in2 (List.mem_of_getElem? (i := 114) rfl) rfl)
theorem lk_R_286 : xj_LK "ThreePhaseGroup$Replica" 286 m_B_startOf.1 := Or.inl (xj_in2 (List.mem_of_getElem? (i := 115) rfl) rfl)
theorem lk_B_61 : xj_LK "ThreePhaseGroup$Board" 61 m_B_voteOf.1 := Or.inl (xj_in2 (List.mem_of_getElem? (i := 119) rfl) rfl)
theorem lk_B_83 : xj_LK "ThreePhaseGroup$Board" 83 m_JM_max.1 := Or.inl (xj_in2 (List.mem_of_getElem? (i := 122) rfl) rfl)
theorem lk_R_289 : xj_LK "ThreePhaseGroup$Replica" 289 m_B_certificate.1 := Or.inl (xj_in2 (List.mem_of_getElem? (i := 125) rfl) rfl)
theorem lk_B_73 : xj_LK "ThreePhaseGroup$Board" 73 m_B_countCheckpoints.1 := Or.inl (xj_in2 (List.mem_of_getElem? (i := 129) rfl) rfl)
theorem lk_B_64 : xj_LK "ThreePhaseGroup$Board" 64 m_JI_bitCount.1 := Or.inl (xj_in2 (List.mem_of_getElem? (i := 133) rfl) rfl)
theorem ki_JI_265 : Cond.constant "java/lang/Integer" 265 (1431655765) ∈ xj_GW := (xj_in2 (List.mem_of_getElem? (i := 136) rfl) rfl)
theorem ki_JI_266 : Cond.constant "java/lang/Integer" 266 (858993459) ∈ xj_GW := (xj_in2 (List.mem_of_getElem? (i := 137) rfl) rfl)
theorem ki_JI_267 : Cond.constant "java/lang/Integer" 267 (252645135) ∈ xj_GW := (xj_in2 (List.mem_of_getElem? (i := 138) rfl) rfl)
theorem lk_R_250 : xj_LK "ThreePhaseGroup$Replica" 250 m_R_settle.1 := Or.inl (xj_in2 (List.mem_of_getElem? (i := 139) rfl) rfl)
theorem lk_R_280 : xj_LK "ThreePhaseGroup$Replica" 280 m_S_forgetProofs.1 := Or.inl (xj_in2 (List.mem_of_getElem? (i := 143) rfl) rfl)
theorem lk_G_81 : xj_LK "ThreePhaseGroup" 81 m_R_followRules.1 := Or.inl (xj_in2 (List.mem_of_getElem? (i := 147) rfl) rfl)
theorem ki_R_177 : Cond.constant "ThreePhaseGroup$Replica" 177 (100000) ∈ xj_GW := (xj_in2 (List.mem_of_getElem? (i := 151) rfl) rfl)
theorem lk_R_178 : xj_LK "ThreePhaseGroup$Replica" 178 m_R_prepareNext.1 := Or.inl (xj_in2 (List.mem_of_getElem? (i := 152) rfl) rfl)
theorem lk_R_210 : xj_LK "ThreePhaseGroup$Replica" 210 m_R_isPrimary.1 := Or.inl (xj_in2 (List.mem_of_getElem? (i := 156) rfl) rfl)
theorem lk_R_213 : xj_LK "ThreePhaseGroup$Replica" 213 m_B_post.1 := Or.inl (xj_in2 (List.mem_of_getElem? (i := 160) rfl) rfl)
theorem lk_R_182 : xj_LK "ThreePhaseGroup$Replica" 182 m_R_commitNext.1 := Or.inl (xj_in2 (List.mem_of_getElem? (i := 161) rfl) rfl)
theorem lk_R_217 : xj_LK "ThreePhaseGroup$Replica" 217 m_S_countPrepares.1 := Or.inl (xj_in2 (List.mem_of_getElem? (i := 165) rfl) rfl)
theorem lk_S_33 : xj_LK "ThreePhaseGroup$Slot" 33 m_S_countAccepted.1 := Or.inl (xj_in2 (List.mem_of_getElem? (i := 169) rfl) rfl)
theorem lk_R_185 : xj_LK "ThreePhaseGroup$Replica" 185 m_R_decideNext.1 := Or.inl (xj_in2 (List.mem_of_getElem? (i := 173) rfl) rfl)
theorem lk_R_226 : xj_LK "ThreePhaseGroup$Replica" 226 m_S_countCommits.1 := Or.inl (xj_in2 (List.mem_of_getElem? (i := 177) rfl) rfl)
theorem lk_R_188 : xj_LK "ThreePhaseGroup$Replica" 188 m_R_executeNext.1 := Or.inl (xj_in2 (List.mem_of_getElem? (i := 181) rfl) rfl)
theorem lk_R_229 : xj_LK "ThreePhaseGroup$Replica" 229 m_R_execute.1 := Or.inl (xj_in2 (List.mem_of_getElem? (i := 185) rfl) rfl)
theorem lk_R_232 : xj_LK "ThreePhaseGroup$Replica" 232 m_V_valueOf.1 := Or.inl (xj_in2 (List.mem_of_getElem? (i := 189) rfl) rfl)
theorem lk_R_235 : xj_LK "ThreePhaseGroup$Replica" 235 m_V_valueAfter.1 := Or.inl (xj_in2 (List.mem_of_getElem? (i := 192) rfl) rfl)
theorem lk_R_239 : xj_LK "ThreePhaseGroup$Replica" 239 m_V_withValue.1 := Or.inl (xj_in2 (List.mem_of_getElem? (i := 195) rfl) rfl)
theorem kl_V_11 : Cond.constantLong "ThreePhaseGroup$Service" 11 (15) ∈ xj_GW := (xj_in2 (List.mem_of_getElem? (i := 198) rfl) rfl)
theorem lk_V_13 : xj_LK "ThreePhaseGroup$Service" 13 m_V_withBits.1 := Or.inl (xj_in2 (List.mem_of_getElem? (i := 199) rfl) rfl)
theorem kl_V_19 : Cond.constantLong "ThreePhaseGroup$Service" 19 (-1) ∈ xj_GW := (xj_in2 (List.mem_of_getElem? (i := 202) rfl) rfl)
theorem lk_R_243 : xj_LK "ThreePhaseGroup$Replica" 243 m_V_withResult.1 := Or.inl (xj_in2 (List.mem_of_getElem? (i := 203) rfl) rfl)
theorem kl_V_17 : Cond.constantLong "ThreePhaseGroup$Service" 17 (4095) ∈ xj_GW := (xj_in2 (List.mem_of_getElem? (i := 206) rfl) rfl)
theorem lk_R_191 : xj_LK "ThreePhaseGroup$Replica" 191 m_R_settleNext.1 := Or.inl (xj_in2 (List.mem_of_getElem? (i := 207) rfl) rfl)
theorem lk_R_247 : xj_LK "ThreePhaseGroup$Replica" 247 m_R_countNotedLike.1 := Or.inl (xj_in2 (List.mem_of_getElem? (i := 211) rfl) rfl)
theorem lk_R_254 : xj_LK "ThreePhaseGroup$Replica" 254 m_JI_bitCount.1 := Or.inl (xj_in2 (List.mem_of_getElem? (i := 215) rfl) rfl)
theorem lk_R_194 : xj_LK "ThreePhaseGroup$Replica" 194 m_R_joinChange.1 := Or.inl (xj_in2 (List.mem_of_getElem? (i := 216) rfl) rfl)
theorem lk_R_259 : xj_LK "ThreePhaseGroup$Replica" 259 m_JM_min.1 := Or.inl (xj_in2 (List.mem_of_getElem? (i := 220) rfl) rfl)
theorem lk_R_174 : xj_LK "ThreePhaseGroup$Replica" 174 m_R_begin.1 := Or.inl (xj_in2 (List.mem_of_getElem? (i := 223) rfl) rfl)
theorem lk_R_197 : xj_LK "ThreePhaseGroup$Replica" 197 m_R_openView.1 := Or.inl (xj_in2 (List.mem_of_getElem? (i := 227) rfl) rfl)
theorem lk_R_265 : xj_LK "ThreePhaseGroup$Replica" 265 m_R_votesForView.1 := Or.inl (xj_in2 (List.mem_of_getElem? (i := 231) rfl) rfl)
theorem lk_R_268 : xj_LK "ThreePhaseGroup$Replica" 268 m_B_ordersDue.1 := Or.inl (xj_in2 (List.mem_of_getElem? (i := 235) rfl) rfl)
theorem lk_B_88 : xj_LK "ThreePhaseGroup$Board" 88 m_B_startOf.1 := Or.inl (xj_in2 (List.mem_of_getElem? (i := 239) rfl) rfl)
theorem lk_B_91 : xj_LK "ThreePhaseGroup$Board" 91 m_B_greatestClaimant.1 := Or.inl (xj_in3 (List.mem_of_getElem? (i := 0) rfl) rfl)
theorem lk_B_53 : xj_LK "ThreePhaseGroup$Board" 53 m_B_claimFor.1 := Or.inl (xj_in3 (List.mem_of_getElem? (i := 4) rfl) rfl)
theorem lk_B_57 : xj_LK "ThreePhaseGroup$Board" 57 m_B_backing.1 := Or.inl (xj_in3 (List.mem_of_getElem? (i := 8) rfl) rfl)
theorem lk_B_76 : xj_LK "ThreePhaseGroup$Board" 76 m_G_primaryOf.1 := Or.inr ⟨_, (xj_nn3 (List.mem_of_getElem? (i := 12) rfl) rfl)⟩
theorem lk_B_79 : xj_LK "ThreePhaseGroup$Board" 79 m_B_isPrepare.1 := Or.inl (xj_in3 (List.mem_of_getElem? (i := 13) rfl) rfl)
theorem lk_R_200 : xj_LK "ThreePhaseGroup$Replica" 200 m_R_orderNext.1 := Or.inl (xj_in3 (List.mem_of_getElem? (i := 17) rfl) rfl)
theorem lk_R_271 : xj_LK "ThreePhaseGroup$Replica" 271 m_R_leastUnordered.1 := Or.inl (xj_in3 (List.mem_of_getElem? (i := 21) rfl) rfl)
theorem lk_R_274 : xj_LK "ThreePhaseGroup$Replica" 274 m_R_isAccepted.1 := Or.inl (xj_in3 (List.mem_of_getElem? (i := 25) rfl) rfl)
theorem lk_R_203 : xj_LK "ThreePhaseGroup$Replica" 203 m_R_setTimer.1 := Or.inl (xj_in3 (List.mem_of_getElem? (i := 29) rfl) rfl)
theorem lk_R_206 : xj_LK "ThreePhaseGroup$Replica" 206 m_R_countWaiting.1 := Or.inl (xj_in3 (List.mem_of_getElem? (i := 33) rfl) rfl)
theorem lk_G_84 : xj_LK "ThreePhaseGroup" 84 m_B_judgeNew.1 := Or.inl (xj_in3 (List.mem_of_getElem? (i := 37) rfl) rfl)
theorem lk_B_39 : xj_LK "ThreePhaseGroup$Board" 39 m_B_isValidViewChange.1 := Or.inl (xj_in3 (List.mem_of_getElem? (i := 41) rfl) rfl)
theorem lk_B_46 : xj_LK "ThreePhaseGroup$Board" 46 m_B_isChangedView.1 := Or.inl (xj_in3 (List.mem_of_getElem? (i := 45) rfl) rfl)
theorem lk_B_49 : xj_LK "ThreePhaseGroup$Board" 49 m_B_certificate.1 := Or.inl (xj_in3 (List.mem_of_getElem? (i := 48) rfl) rfl)
theorem lk_B_43 : xj_LK "ThreePhaseGroup$Board" 43 m_B_isValidNewView.1 := Or.inl (xj_in3 (List.mem_of_getElem? (i := 49) rfl) rfl)
theorem lk_B_70 : xj_LK "ThreePhaseGroup$Board" 70 m_B_ordersDue.1 := Or.inl (xj_in3 (List.mem_of_getElem? (i := 53) rfl) rfl)
theorem lk_L_23 : xj_LK "ThreePhaseGroupLaw" 23 m_G_pump.1 := Or.inl (xj_in3 (List.mem_of_getElem? (i := 54) rfl) rfl)
theorem lk_L_28 : xj_LK "ThreePhaseGroupLaw" 28 m_G_tick.1 := Or.inl (xj_in3 (List.mem_of_getElem? (i := 58) rfl) rfl)
theorem lk_G_72 : xj_LK "ThreePhaseGroup" 72 m_G_isReplica.1 := Or.inl (xj_in3 (List.mem_of_getElem? (i := 62) rfl) rfl)
theorem lk_G_78 : xj_LK "ThreePhaseGroup" 78 m_R_stepClock.1 := Or.inl (xj_in3 (List.mem_of_getElem? (i := 65) rfl) rfl)
theorem lk_L_33 : xj_LK "ThreePhaseGroupLaw" 33 m_G_corrupt.1 := Or.inl (xj_in3 (List.mem_of_getElem? (i := 69) rfl) rfl)
theorem lk_L_37 : xj_LK "ThreePhaseGroupLaw" 37 m_G_forge.1 := Or.inl (xj_in3 (List.mem_of_getElem? (i := 73) rfl) rfl)
theorem lk_G_87 : xj_LK "ThreePhaseGroup" 87 m_G_postForged.1 := Or.inl (xj_in3 (List.mem_of_getElem? (i := 77) rfl) rfl)
theorem lk_L_43 : xj_LK "ThreePhaseGroupLaw" 43 m_G_forgeCheckpoint.1 := Or.inl (xj_in3 (List.mem_of_getElem? (i := 81) rfl) rfl)
theorem lk_L_48 : xj_LK "ThreePhaseGroupLaw" 48 m_G_messages.1 := Or.inl (xj_in3 (List.mem_of_getElem? (i := 85) rfl) rfl)
theorem lk_L_53 : xj_LK "ThreePhaseGroupLaw" 53 m_G_look.1 := Or.inl (xj_in3 (List.mem_of_getElem? (i := 89) rfl) rfl)
theorem kl_G_94 : Cond.constantLong "ThreePhaseGroup" 94 (-1) ∈ xj_GW := (xj_in3 (List.mem_of_getElem? (i := 93) rfl) rfl)
theorem lk_L_58 : xj_LK "ThreePhaseGroupLaw" 58 m_G_mark.1 := Or.inl (xj_in3 (List.mem_of_getElem? (i := 94) rfl) rfl)
theorem lk_L_63 : xj_LK "ThreePhaseGroupLaw" 63 m_G_view.1 := Or.inl (xj_in3 (List.mem_of_getElem? (i := 98) rfl) rfl)
theorem lk_L_67 : xj_LK "ThreePhaseGroupLaw" 67 m_G_executed.1 := Or.inl (xj_in3 (List.mem_of_getElem? (i := 102) rfl) rfl)
theorem lk_L_71 : xj_LK "ThreePhaseGroupLaw" 71 m_G_stable.1 := Or.inl (xj_in3 (List.mem_of_getElem? (i := 106) rfl) rfl)
theorem lk_L_75 : xj_LK "ThreePhaseGroupLaw" 75 m_G_state.1 := Or.inl (xj_in3 (List.mem_of_getElem? (i := 110) rfl) rfl)
theorem lk_L_80 : xj_LK "ThreePhaseGroupLaw" 80 m_G_slot.1 := Or.inl (xj_in3 (List.mem_of_getElem? (i := 114) rfl) rfl)
theorem lk_G_133 : xj_LK "ThreePhaseGroup" 133 m_R_inWindow.1 := Or.inl (xj_in3 (List.mem_of_getElem? (i := 118) rfl) rfl)
theorem lk_G_137 : xj_LK "ThreePhaseGroup" 137 m_R_slotAt.1 := Or.inl (xj_in3 (List.mem_of_getElem? (i := 119) rfl) rfl)
theorem lk_G_141 : xj_LK "ThreePhaseGroup" 141 m_S_summary.1 := Or.inl (xj_in3 (List.mem_of_getElem? (i := 120) rfl) rfl)
theorem lk_S_37 : xj_LK "ThreePhaseGroup$Slot" 37 m_S_countPrepares.1 := Or.inl (xj_in3 (List.mem_of_getElem? (i := 124) rfl) rfl)
theorem lk_S_41 : xj_LK "ThreePhaseGroup$Slot" 41 m_S_countCommits.1 := Or.inl (xj_in3 (List.mem_of_getElem? (i := 125) rfl) rfl)
theorem lk_L_84 : xj_LK "ThreePhaseGroupLaw" 84 m_G_ordered.1 := Or.inl (xj_in3 (List.mem_of_getElem? (i := 126) rfl) rfl)
theorem lk_L_88 : xj_LK "ThreePhaseGroupLaw" 88 m_G_timer.1 := Or.inl (xj_in3 (List.mem_of_getElem? (i := 130) rfl) rfl)
theorem lk_L_92 : xj_LK "ThreePhaseGroupLaw" 92 m_G_waiting.1 := Or.inl (xj_in3 (List.mem_of_getElem? (i := 134) rfl) rfl)
theorem lk_G_153 : xj_LK "ThreePhaseGroup" 153 m_R_countWaiting.1 := Or.inl (xj_in3 (List.mem_of_getElem? (i := 138) rfl) rfl)
theorem lk_L_96 : xj_LK "ThreePhaseGroupLaw" 96 m_G_outstanding.1 := Or.inl (xj_in3 (List.mem_of_getElem? (i := 139) rfl) rfl)
theorem lk_L_100 : xj_LK "ThreePhaseGroupLaw" 100 m_G_answer.1 := Or.inl (xj_in3 (List.mem_of_getElem? (i := 143) rfl) rfl)
theorem cw_L_10 : Cond.classLink "ThreePhaseGroupLaw" 10 "ThreePhaseGroupModel" ∈ xj_GW := (xj_in3 (List.mem_of_getElem? (i := 147) rfl) rfl)
theorem iw_T : Cond.instantiable "ThreePhaseGroupModel" 27 ∈ xj_GW := (xj_in3 (List.mem_of_getElem? (i := 148) rfl) rfl)
theorem lk_L_12 : xj_LK "ThreePhaseGroupLaw" 12 m_T_init.1 := Or.inl (xj_in3 (List.mem_of_getElem? (i := 149) rfl) rfl)
theorem lk_T_1 : xj_LK "ThreePhaseGroupModel" 1 m_JO_init.1 := Or.inl (xj_in3 (List.mem_of_getElem? (i := 152) rfl) rfl)
theorem fw_T_88 : Cond.fieldLink "ThreePhaseGroupModel" 88 "ThreePhaseGroupModel" "count" "I" ∈ xj_GW := (xj_in3 (List.mem_of_getElem? (i := 153) rfl) rfl)
theorem fl_T_88 : xj_FL "ThreePhaseGroupModel" 88 "ThreePhaseGroupModel" "count" "I" := Or.inl fw_T_88
theorem fw_T_7 : Cond.fieldLink "ThreePhaseGroupModel" 7 "ThreePhaseGroupModel" "kind" "[I" ∈ xj_GW := (xj_in3 (List.mem_of_getElem? (i := 154) rfl) rfl)
theorem fl_T_7 : xj_FL "ThreePhaseGroupModel" 7 "ThreePhaseGroupModel" "kind" "[I" := Or.inl fw_T_7
theorem fw_T_13 : Cond.fieldLink "ThreePhaseGroupModel" 13 "ThreePhaseGroupModel" "from" "[I" ∈ xj_GW := (xj_in3 (List.mem_of_getElem? (i := 155) rfl) rfl)
theorem fl_T_13 : xj_FL "ThreePhaseGroupModel" 13 "ThreePhaseGroupModel" "from" "[I" := Or.inl fw_T_13
theorem fw_T_16 : Cond.fieldLink "ThreePhaseGroupModel" 16 "ThreePhaseGroupModel" "a" "[I" ∈ xj_GW := (xj_in3 (List.mem_of_getElem? (i := 156) rfl) rfl)
theorem fl_T_16 : xj_FL "ThreePhaseGroupModel" 16 "ThreePhaseGroupModel" "a" "[I" := Or.inl fw_T_16
theorem fw_T_19 : Cond.fieldLink "ThreePhaseGroupModel" 19 "ThreePhaseGroupModel" "b" "[J" ∈ xj_GW := (xj_in3 (List.mem_of_getElem? (i := 157) rfl) rfl)
theorem fl_T_19 : xj_FL "ThreePhaseGroupModel" 19 "ThreePhaseGroupModel" "b" "[J" := Or.inl fw_T_19
theorem fw_T_23 : Cond.fieldLink "ThreePhaseGroupModel" 23 "ThreePhaseGroupModel" "c" "[I" ∈ xj_GW := (xj_in3 (List.mem_of_getElem? (i := 158) rfl) rfl)
theorem fl_T_23 : xj_FL "ThreePhaseGroupModel" 23 "ThreePhaseGroupModel" "c" "[I" := Or.inl fw_T_23
theorem fw_T_26 : Cond.fieldLink "ThreePhaseGroupModel" 26 "ThreePhaseGroupModel" "forged" "[Z" ∈ xj_GW := (xj_in3 (List.mem_of_getElem? (i := 159) rfl) rfl)
theorem fl_T_26 : xj_FL "ThreePhaseGroupModel" 26 "ThreePhaseGroupModel" "forged" "[Z" := Or.inl fw_T_26
theorem fw_T_30 : Cond.fieldLink "ThreePhaseGroupModel" 30 "ThreePhaseGroupModel" "noted" "[Z" ∈ xj_GW := (xj_in3 (List.mem_of_getElem? (i := 160) rfl) rfl)
theorem fl_T_30 : xj_FL "ThreePhaseGroupModel" 30 "ThreePhaseGroupModel" "noted" "[Z" := Or.inl fw_T_30
theorem fw_T_33 : Cond.fieldLink "ThreePhaseGroupModel" 33 "ThreePhaseGroupModel" "known" "[Z" ∈ xj_GW := (xj_in3 (List.mem_of_getElem? (i := 161) rfl) rfl)
theorem fl_T_33 : xj_FL "ThreePhaseGroupModel" 33 "ThreePhaseGroupModel" "known" "[Z" := Or.inl fw_T_33
theorem fw_T_36 : Cond.fieldLink "ThreePhaseGroupModel" 36 "ThreePhaseGroupModel" "view" "[I" ∈ xj_GW := (xj_in3 (List.mem_of_getElem? (i := 162) rfl) rfl)
theorem fl_T_36 : xj_FL "ThreePhaseGroupModel" 36 "ThreePhaseGroupModel" "view" "[I" := Or.inl fw_T_36
theorem fw_T_39 : Cond.fieldLink "ThreePhaseGroupModel" 39 "ThreePhaseGroupModel" "changing" "[Z" ∈ xj_GW := (xj_in3 (List.mem_of_getElem? (i := 163) rfl) rfl)
theorem fl_T_39 : xj_FL "ThreePhaseGroupModel" 39 "ThreePhaseGroupModel" "changing" "[Z" := Or.inl fw_T_39
theorem fw_T_42 : Cond.fieldLink "ThreePhaseGroupModel" 42 "ThreePhaseGroupModel" "h" "[I" ∈ xj_GW := (xj_in3 (List.mem_of_getElem? (i := 164) rfl) rfl)
theorem fl_T_42 : xj_FL "ThreePhaseGroupModel" 42 "ThreePhaseGroupModel" "h" "[I" := Or.inl fw_T_42
theorem fw_T_45 : Cond.fieldLink "ThreePhaseGroupModel" 45 "ThreePhaseGroupModel" "e" "[I" ∈ xj_GW := (xj_in3 (List.mem_of_getElem? (i := 165) rfl) rfl)
theorem fl_T_45 : xj_FL "ThreePhaseGroupModel" 45 "ThreePhaseGroupModel" "e" "[I" := Or.inl fw_T_45
theorem fw_T_48 : Cond.fieldLink "ThreePhaseGroupModel" 48 "ThreePhaseGroupModel" "state" "[J" ∈ xj_GW := (xj_in3 (List.mem_of_getElem? (i := 166) rfl) rfl)
theorem fl_T_48 : xj_FL "ThreePhaseGroupModel" 48 "ThreePhaseGroupModel" "state" "[J" := Or.inl fw_T_48
theorem fw_T_51 : Cond.fieldLink "ThreePhaseGroupModel" 51 "ThreePhaseGroupModel" "span" "[I" ∈ xj_GW := (xj_in3 (List.mem_of_getElem? (i := 167) rfl) rfl)
theorem fl_T_51 : xj_FL "ThreePhaseGroupModel" 51 "ThreePhaseGroupModel" "span" "[I" := Or.inl fw_T_51
theorem fw_T_54 : Cond.fieldLink "ThreePhaseGroupModel" 54 "ThreePhaseGroupModel" "timer" "[I" ∈ xj_GW := (xj_in3 (List.mem_of_getElem? (i := 168) rfl) rfl)
theorem fl_T_54 : xj_FL "ThreePhaseGroupModel" 54 "ThreePhaseGroupModel" "timer" "[I" := Or.inl fw_T_54
theorem fw_T_57 : Cond.fieldLink "ThreePhaseGroupModel" 57 "ThreePhaseGroupModel" "accepted" "[I" ∈ xj_GW := (xj_in3 (List.mem_of_getElem? (i := 169) rfl) rfl)
theorem fl_T_57 : xj_FL "ThreePhaseGroupModel" 57 "ThreePhaseGroupModel" "accepted" "[I" := Or.inl fw_T_57
theorem fw_T_60 : Cond.fieldLink "ThreePhaseGroupModel" 60 "ThreePhaseGroupModel" "decided" "[I" ∈ xj_GW := (xj_in3 (List.mem_of_getElem? (i := 170) rfl) rfl)
theorem fl_T_60 : xj_FL "ThreePhaseGroupModel" 60 "ThreePhaseGroupModel" "decided" "[I" := Or.inl fw_T_60
theorem fw_T_63 : Cond.fieldLink "ThreePhaseGroupModel" 63 "ThreePhaseGroupModel" "certified" "[I" ∈ xj_GW := (xj_in3 (List.mem_of_getElem? (i := 171) rfl) rfl)
theorem fl_T_63 : xj_FL "ThreePhaseGroupModel" 63 "ThreePhaseGroupModel" "certified" "[I" := Or.inl fw_T_63
theorem fw_T_66 : Cond.fieldLink "ThreePhaseGroupModel" 66 "ThreePhaseGroupModel" "certView" "[I" ∈ xj_GW := (xj_in3 (List.mem_of_getElem? (i := 172) rfl) rfl)
theorem fl_T_66 : xj_FL "ThreePhaseGroupModel" 66 "ThreePhaseGroupModel" "certView" "[I" := Or.inl fw_T_66
theorem fw_T_69 : Cond.fieldLink "ThreePhaseGroupModel" 69 "ThreePhaseGroupModel" "faulty" "I" ∈ xj_GW := (xj_in3 (List.mem_of_getElem? (i := 173) rfl) rfl)
theorem fl_T_69 : xj_FL "ThreePhaseGroupModel" 69 "ThreePhaseGroupModel" "faulty" "I" := Or.inl fw_T_69
theorem fw_T_138 : Cond.fieldLink "ThreePhaseGroupModel" 138 "ThreePhaseGroupModel" "afresh" "Z" ∈ xj_GW := (xj_in3 (List.mem_of_getElem? (i := 174) rfl) rfl)
theorem fl_T_138 : xj_FL "ThreePhaseGroupModel" 138 "ThreePhaseGroupModel" "afresh" "Z" := Or.inl fw_T_138
theorem fw_T_73 : Cond.fieldLink "ThreePhaseGroupModel" 73 "ThreePhaseGroupModel" "stamp" "[I" ∈ xj_GW := (xj_in3 (List.mem_of_getElem? (i := 175) rfl) rfl)
theorem fl_T_73 : xj_FL "ThreePhaseGroupModel" 73 "ThreePhaseGroupModel" "stamp" "[I" := Or.inl fw_T_73
theorem fw_T_76 : Cond.fieldLink "ThreePhaseGroupModel" 76 "ThreePhaseGroupModel" "open" "[I" ∈ xj_GW := (xj_in3 (List.mem_of_getElem? (i := 176) rfl) rfl)
theorem fl_T_76 : xj_FL "ThreePhaseGroupModel" 76 "ThreePhaseGroupModel" "open" "[I" := Or.inl fw_T_76
theorem fw_T_79 : Cond.fieldLink "ThreePhaseGroupModel" 79 "ThreePhaseGroupModel" "reply" "[I" ∈ xj_GW := (xj_in3 (List.mem_of_getElem? (i := 177) rfl) rfl)
theorem fl_T_79 : xj_FL "ThreePhaseGroupModel" 79 "ThreePhaseGroupModel" "reply" "[I" := Or.inl fw_T_79
theorem fw_T_82 : Cond.fieldLink "ThreePhaseGroupModel" 82 "ThreePhaseGroupModel" "taken" "[Z" ∈ xj_GW := (xj_in3 (List.mem_of_getElem? (i := 178) rfl) rfl)
theorem fl_T_82 : xj_FL "ThreePhaseGroupModel" 82 "ThreePhaseGroupModel" "taken" "[Z" := Or.inl fw_T_82
theorem fw_T_85 : Cond.fieldLink "ThreePhaseGroupModel" 85 "ThreePhaseGroupModel" "mark" "[I" ∈ xj_GW := (xj_in3 (List.mem_of_getElem? (i := 179) rfl) rfl)
theorem fl_T_85 : xj_FL "ThreePhaseGroupModel" 85 "ThreePhaseGroupModel" "mark" "[I" := Or.inl fw_T_85
theorem lk_L_95 : xj_LK "ThreePhaseGroupLaw" 95 m_T_waiting.1 := Or.inl (xj_in3 (List.mem_of_getElem? (i := 235) rfl) rfl)
theorem lk_T_95 : xj_LK "ThreePhaseGroupModel" 95 m_T_outside.1 := Or.inl (xj_in3 (List.mem_of_getElem? (i := 239) rfl) rfl)
theorem lk_T_131 : xj_LK "ThreePhaseGroupModel" 131 m_T_waits.1 := Or.inl (xj_in4 (List.mem_of_getElem? (i := 2) rfl) rfl)
theorem kl_T_107 : Cond.constantLong "ThreePhaseGroupModel" 107 (255) ∈ xj_GW := (xj_in4 (List.mem_of_getElem? (i := 6) rfl) rfl)
theorem lk_L_17 : xj_LK "ThreePhaseGroupLaw" 17 m_T_submit.1 := Or.inl (xj_in4 (List.mem_of_getElem? (i := 7) rfl) rfl)
theorem lk_T_179 : xj_LK "ThreePhaseGroupModel" 179 m_T_send.1 := Or.inl (xj_in4 (List.mem_of_getElem? (i := 11) rfl) rfl)
theorem lk_L_22 : xj_LK "ThreePhaseGroupLaw" 22 m_T_deliver.1 := Or.inl (xj_in4 (List.mem_of_getElem? (i := 15) rfl) rfl)
theorem lk_T_229 : xj_LK "ThreePhaseGroupModel" 229 m_T_give.1 := Or.inl (xj_in4 (List.mem_of_getElem? (i := 19) rfl) rfl)
theorem lk_T_135 : xj_LK "ThreePhaseGroupModel" 135 m_T_answered.1 := Or.inl (xj_in4 (List.mem_of_getElem? (i := 23) rfl) rfl)
theorem lk_T_142 : xj_LK "ThreePhaseGroupModel" 142 m_T_takes.1 := Or.inl (xj_in4 (List.mem_of_getElem? (i := 27) rfl) rfl)
theorem lk_T_149 : xj_LK "ThreePhaseGroupModel" 149 m_T_window.1 := Or.inl (xj_in4 (List.mem_of_getElem? (i := 31) rfl) rfl)
theorem lk_T_153 : xj_LK "ThreePhaseGroupModel" 153 m_T_takesRequest.1 := Or.inl (xj_in4 (List.mem_of_getElem? (i := 35) rfl) rfl)
theorem lk_T_156 : xj_LK "ThreePhaseGroupModel" 156 m_T_takesOrder.1 := Or.inl (xj_in4 (List.mem_of_getElem? (i := 39) rfl) rfl)
theorem lk_T_159 : xj_LK "ThreePhaseGroupModel" 159 m_T_notes.1 := Or.inl (xj_in4 (List.mem_of_getElem? (i := 43) rfl) rfl)
theorem lk_T_115 : xj_LK "ThreePhaseGroupModel" 115 m_T_goodChange.1 := Or.inl (xj_in4 (List.mem_of_getElem? (i := 47) rfl) rfl)
theorem lk_T_99 : xj_LK "ThreePhaseGroupModel" 99 m_T_proof.1 := Or.inl (xj_in4 (List.mem_of_getElem? (i := 51) rfl) rfl)
theorem lk_T_91 : xj_LK "ThreePhaseGroupModel" 91 m_T_senders.1 := Or.inl (xj_in4 (List.mem_of_getElem? (i := 55) rfl) rfl)
theorem lk_T_103 : xj_LK "ThreePhaseGroupModel" 103 m_T_backing.1 := Or.inl (xj_in4 (List.mem_of_getElem? (i := 59) rfl) rfl)
theorem lk_T_163 : xj_LK "ThreePhaseGroupModel" 163 m_T_takesChange.1 := Or.inl (xj_in4 (List.mem_of_getElem? (i := 63) rfl) rfl)
theorem lk_T_166 : xj_LK "ThreePhaseGroupModel" 166 m_T_goodNew.1 := Or.inl (xj_in4 (List.mem_of_getElem? (i := 67) rfl) rfl)
theorem kl_T_109 : Cond.constantLong "ThreePhaseGroupModel" 109 (16777215) ∈ xj_GW := (xj_in4 (List.mem_of_getElem? (i := 71) rfl) rfl)
theorem lk_T_111 : xj_LK "ThreePhaseGroupModel" 111 m_T_vote.1 := Or.inl (xj_in4 (List.mem_of_getElem? (i := 72) rfl) rfl)
theorem lk_T_119 : xj_LK "ThreePhaseGroupModel" 119 m_T_orders.1 := Or.inl (xj_in4 (List.mem_of_getElem? (i := 76) rfl) rfl)
theorem lk_T_125 : xj_LK "ThreePhaseGroupModel" 125 m_T_start.1 := Or.inl (xj_in4 (List.mem_of_getElem? (i := 80) rfl) rfl)
theorem lk_T_128 : xj_LK "ThreePhaseGroupModel" 128 m_T_claim.1 := Or.inl (xj_in4 (List.mem_of_getElem? (i := 84) rfl) rfl)
theorem kl_T_123 : Cond.constantLong "ThreePhaseGroupModel" 123 (3) ∈ xj_GW := (xj_in4 (List.mem_of_getElem? (i := 88) rfl) rfl)
theorem lk_T_169 : xj_LK "ThreePhaseGroupModel" 169 m_T_enters.1 := Or.inl (xj_in4 (List.mem_of_getElem? (i := 89) rfl) rfl)
theorem lk_T_172 : xj_LK "ThreePhaseGroupModel" 172 m_T_dropAccepted.1 := Or.inl (xj_in4 (List.mem_of_getElem? (i := 93) rfl) rfl)
theorem lk_T_175 : xj_LK "ThreePhaseGroupModel" 175 m_T_settles.1 := Or.inl (xj_in4 (List.mem_of_getElem? (i := 97) rfl) rfl)
theorem lk_T_145 : xj_LK "ThreePhaseGroupModel" 145 m_T_rules.1 := Or.inl (xj_in4 (List.mem_of_getElem? (i := 101) rfl) rfl)
theorem lk_T_183 : xj_LK "ThreePhaseGroupModel" 183 m_T_phases.1 := Or.inl (xj_in4 (List.mem_of_getElem? (i := 105) rfl) rfl)
theorem lk_T_204 : xj_LK "ThreePhaseGroupModel" 204 m_T_phase.1 := Or.inl (xj_in4 (List.mem_of_getElem? (i := 109) rfl) rfl)
theorem lk_T_208 : xj_LK "ThreePhaseGroupModel" 208 m_T_sent.1 := Or.inl (xj_in4 (List.mem_of_getElem? (i := 113) rfl) rfl)
theorem lk_T_211 : xj_LK "ThreePhaseGroupModel" 211 m_T_heard.1 := Or.inl (xj_in4 (List.mem_of_getElem? (i := 117) rfl) rfl)
theorem lk_T_186 : xj_LK "ThreePhaseGroupModel" 186 m_T_executes.1 := Or.inl (xj_in4 (List.mem_of_getElem? (i := 121) rfl) rfl)
theorem lk_T_214 : xj_LK "ThreePhaseGroupModel" 214 m_T_serves.1 := Or.inl (xj_in4 (List.mem_of_getElem? (i := 125) rfl) rfl)
theorem kl_T_218 : Cond.constantLong "ThreePhaseGroupModel" 218 (15) ∈ xj_GW := (xj_in4 (List.mem_of_getElem? (i := 129) rfl) rfl)
theorem kl_T_220 : Cond.constantLong "ThreePhaseGroupModel" 220 (2) ∈ xj_GW := (xj_in4 (List.mem_of_getElem? (i := 130) rfl) rfl)
theorem kl_T_222 : Cond.constantLong "ThreePhaseGroupModel" 222 (-1) ∈ xj_GW := (xj_in4 (List.mem_of_getElem? (i := 131) rfl) rfl)
theorem kl_T_224 : Cond.constantLong "ThreePhaseGroupModel" 224 (4095) ∈ xj_GW := (xj_in4 (List.mem_of_getElem? (i := 132) rfl) rfl)
theorem lk_T_189 : xj_LK "ThreePhaseGroupModel" 189 m_T_truncates.1 := Or.inl (xj_in4 (List.mem_of_getElem? (i := 133) rfl) rfl)
theorem lk_T_192 : xj_LK "ThreePhaseGroupModel" 192 m_T_joins.1 := Or.inl (xj_in4 (List.mem_of_getElem? (i := 137) rfl) rfl)
theorem lk_T_226 : xj_LK "ThreePhaseGroupModel" 226 m_T_begins.1 := Or.inl (xj_in4 (List.mem_of_getElem? (i := 141) rfl) rfl)
theorem lk_T_195 : xj_LK "ThreePhaseGroupModel" 195 m_T_opens.1 := Or.inl (xj_in4 (List.mem_of_getElem? (i := 145) rfl) rfl)
theorem lk_T_198 : xj_LK "ThreePhaseGroupModel" 198 m_T_proposes.1 := Or.inl (xj_in4 (List.mem_of_getElem? (i := 149) rfl) rfl)
theorem lk_T_201 : xj_LK "ThreePhaseGroupModel" 201 m_T_waiting.1 := Or.inl (xj_in4 (List.mem_of_getElem? (i := 153) rfl) rfl)
theorem lk_L_27 : xj_LK "ThreePhaseGroupLaw" 27 m_T_pump.1 := Or.inl (xj_in4 (List.mem_of_getElem? (i := 154) rfl) rfl)
theorem lk_L_32 : xj_LK "ThreePhaseGroupLaw" 32 m_T_tick.1 := Or.inl (xj_in4 (List.mem_of_getElem? (i := 158) rfl) rfl)
theorem lk_L_36 : xj_LK "ThreePhaseGroupLaw" 36 m_T_corrupt.1 := Or.inl (xj_in4 (List.mem_of_getElem? (i := 162) rfl) rfl)
theorem lk_L_40 : xj_LK "ThreePhaseGroupLaw" 40 m_T_forge.1 := Or.inl (xj_in4 (List.mem_of_getElem? (i := 166) rfl) rfl)
theorem lk_T_232 : xj_LK "ThreePhaseGroupModel" 232 m_T_forgeOne.1 := Or.inl (xj_in4 (List.mem_of_getElem? (i := 170) rfl) rfl)
theorem lk_L_47 : xj_LK "ThreePhaseGroupLaw" 47 m_T_forgeCheckpoint.1 := Or.inl (xj_in4 (List.mem_of_getElem? (i := 174) rfl) rfl)
theorem lk_L_52 : xj_LK "ThreePhaseGroupLaw" 52 m_T_messages.1 := Or.inl (xj_in4 (List.mem_of_getElem? (i := 178) rfl) rfl)
theorem lk_L_57 : xj_LK "ThreePhaseGroupLaw" 57 m_T_look.1 := Or.inl (xj_in4 (List.mem_of_getElem? (i := 182) rfl) rfl)
theorem lk_L_62 : xj_LK "ThreePhaseGroupLaw" 62 m_T_mark.1 := Or.inl (xj_in4 (List.mem_of_getElem? (i := 186) rfl) rfl)
theorem lk_L_66 : xj_LK "ThreePhaseGroupLaw" 66 m_T_view.1 := Or.inl (xj_in4 (List.mem_of_getElem? (i := 190) rfl) rfl)
theorem lk_L_70 : xj_LK "ThreePhaseGroupLaw" 70 m_T_executed.1 := Or.inl (xj_in4 (List.mem_of_getElem? (i := 194) rfl) rfl)
theorem lk_L_74 : xj_LK "ThreePhaseGroupLaw" 74 m_T_stable.1 := Or.inl (xj_in4 (List.mem_of_getElem? (i := 198) rfl) rfl)
theorem lk_L_79 : xj_LK "ThreePhaseGroupLaw" 79 m_T_state.1 := Or.inl (xj_in4 (List.mem_of_getElem? (i := 202) rfl) rfl)
theorem lk_L_83 : xj_LK "ThreePhaseGroupLaw" 83 m_T_slot.1 := Or.inl (xj_in4 (List.mem_of_getElem? (i := 206) rfl) rfl)
theorem lk_L_87 : xj_LK "ThreePhaseGroupLaw" 87 m_T_ordered.1 := Or.inl (xj_in4 (List.mem_of_getElem? (i := 210) rfl) rfl)
theorem lk_L_91 : xj_LK "ThreePhaseGroupLaw" 91 m_T_timer.1 := Or.inl (xj_in4 (List.mem_of_getElem? (i := 214) rfl) rfl)
theorem lk_L_99 : xj_LK "ThreePhaseGroupLaw" 99 m_T_outstanding.1 := Or.inl (xj_in4 (List.mem_of_getElem? (i := 218) rfl) rfl)
theorem lk_L_103 : xj_LK "ThreePhaseGroupLaw" 103 m_T_answer.1 := Or.inl (xj_in4 (List.mem_of_getElem? (i := 222) rfl) rfl)
theorem kl_L_41 : Cond.constantLong "ThreePhaseGroupLaw" 41 (4294967295) ∈ xj_GW := (xj_in4 (List.mem_of_getElem? (i := 226) rfl) rfl)
theorem cf_G : xj_CF 0 "ThreePhaseGroup" xj_T0 5 xj_t0 := by
  refine ⟨rfl, fun v hv => ?_, by decide +kernel, by decide +kernel⟩
  obtain ⟨k, hk, rfl⟩ := List.mem_map.mp hv
  have hk2 : k < 5 := List.mem_range.mp hk
  match k, hk2 with
  | 0, _ => exact (xj_in1 (List.mem_of_getElem? (i := 214) rfl) rfl)
  | 1, _ => exact (xj_in1 (List.mem_of_getElem? (i := 216) rfl) rfl)
  | 2, _ => exact (xj_in1 (List.mem_of_getElem? (i := 218) rfl) rfl)
  | 3, _ => exact (xj_in1 (List.mem_of_getElem? (i := 220) rfl) rfl)
  | 4, _ => exact (xj_in1 (List.mem_of_getElem? (i := 222) rfl) rfl)
  | k + 5, h => omega
theorem cf_B : xj_CF 1 "ThreePhaseGroup$Board" xj_T1 8 xj_t1 := by
  refine ⟨rfl, fun v hv => ?_, by decide +kernel, by decide +kernel⟩
  obtain ⟨k, hk, rfl⟩ := List.mem_map.mp hv
  have hk2 : k < 8 := List.mem_range.mp hk
  match k, hk2 with
  | 0, _ => exact (xj_in1 (List.mem_of_getElem? (i := 52) rfl) rfl)
  | 1, _ => exact (xj_in1 (List.mem_of_getElem? (i := 54) rfl) rfl)
  | 2, _ => exact (xj_in1 (List.mem_of_getElem? (i := 56) rfl) rfl)
  | 3, _ => exact (xj_in1 (List.mem_of_getElem? (i := 58) rfl) rfl)
  | 4, _ => exact (xj_in1 (List.mem_of_getElem? (i := 60) rfl) rfl)
  | 5, _ => exact (xj_in1 (List.mem_of_getElem? (i := 62) rfl) rfl)
  | 6, _ => exact (xj_in1 (List.mem_of_getElem? (i := 64) rfl) rfl)
  | 7, _ => exact (xj_in1 (List.mem_of_getElem? (i := 66) rfl) rfl)
  | k + 8, h => omega
theorem cf_R : xj_CF 2 "ThreePhaseGroup$Replica" xj_T2 14 xj_t2 := by
  refine ⟨rfl, fun v hv => ?_, by decide +kernel, by decide +kernel⟩
  obtain ⟨k, hk, rfl⟩ := List.mem_map.mp hv
  have hk2 : k < 14 := List.mem_range.mp hk
  match k, hk2 with
  | 0, _ => exact (xj_in1 (List.mem_of_getElem? (i := 154) rfl) rfl)
  | 1, _ => exact (xj_in1 (List.mem_of_getElem? (i := 156) rfl) rfl)
  | 2, _ => exact (xj_in1 (List.mem_of_getElem? (i := 158) rfl) rfl)
  | 3, _ => exact (xj_in1 (List.mem_of_getElem? (i := 160) rfl) rfl)
  | 4, _ => exact (xj_in1 (List.mem_of_getElem? (i := 162) rfl) rfl)
  | 5, _ => exact (xj_in1 (List.mem_of_getElem? (i := 164) rfl) rfl)
  | 6, _ => exact (xj_in1 (List.mem_of_getElem? (i := 166) rfl) rfl)
  | 7, _ => exact (xj_in1 (List.mem_of_getElem? (i := 168) rfl) rfl)
  | 8, _ => exact (xj_in1 (List.mem_of_getElem? (i := 170) rfl) rfl)
  | 9, _ => exact (xj_in1 (List.mem_of_getElem? (i := 172) rfl) rfl)
  | 10, _ => exact (xj_in1 (List.mem_of_getElem? (i := 174) rfl) rfl)
  | 11, _ => exact (xj_in1 (List.mem_of_getElem? (i := 176) rfl) rfl)
  | 12, _ => exact (xj_in1 (List.mem_of_getElem? (i := 178) rfl) rfl)
  | 13, _ => exact (xj_in1 (List.mem_of_getElem? (i := 180) rfl) rfl)
  | k + 14, h => omega
theorem cf_S : xj_CF 3 "ThreePhaseGroup$Slot" xj_T3 5 xj_t3 := by
  refine ⟨rfl, fun v hv => ?_, by decide +kernel, by decide +kernel⟩
  obtain ⟨k, hk, rfl⟩ := List.mem_map.mp hv
  have hk2 : k < 5 := List.mem_range.mp hk
  match k, hk2 with
  | 0, _ => exact (xj_in1 (List.mem_of_getElem? (i := 120) rfl) rfl)
  | 1, _ => exact (xj_in1 (List.mem_of_getElem? (i := 122) rfl) rfl)
  | 2, _ => exact (xj_in1 (List.mem_of_getElem? (i := 124) rfl) rfl)
  | 3, _ => exact (xj_in1 (List.mem_of_getElem? (i := 126) rfl) rfl)
  | 4, _ => exact (xj_in1 (List.mem_of_getElem? (i := 128) rfl) rfl)
  | k + 5, h => omega
theorem cf_N : xj_CF 4 "ThreePhaseGroup$Numbers" xj_T4 2 xj_t4 := by
  refine ⟨rfl, fun v hv => ?_, by decide +kernel, by decide +kernel⟩
  obtain ⟨k, hk, rfl⟩ := List.mem_map.mp hv
  have hk2 : k < 2 := List.mem_range.mp hk
  match k, hk2 with
  | 0, _ => exact (xj_in1 (List.mem_of_getElem? (i := 93) rfl) rfl)
  | 1, _ => exact (xj_in1 (List.mem_of_getElem? (i := 95) rfl) rfl)
  | k + 2, h => omega
theorem cf_C : xj_CF 5 "ThreePhaseGroup$Client" xj_T5 6 xj_t5 := by
  refine ⟨rfl, fun v hv => ?_, by decide +kernel, by decide +kernel⟩
  obtain ⟨k, hk, rfl⟩ := List.mem_map.mp hv
  have hk2 : k < 6 := List.mem_range.mp hk
  match k, hk2 with
  | 0, _ => exact (xj_in1 (List.mem_of_getElem? (i := 196) rfl) rfl)
  | 1, _ => exact (xj_in1 (List.mem_of_getElem? (i := 198) rfl) rfl)
  | 2, _ => exact (xj_in1 (List.mem_of_getElem? (i := 200) rfl) rfl)
  | 3, _ => exact (xj_in1 (List.mem_of_getElem? (i := 202) rfl) rfl)
  | 4, _ => exact (xj_in1 (List.mem_of_getElem? (i := 204) rfl) rfl)
  | 5, _ => exact (xj_in1 (List.mem_of_getElem? (i := 206) rfl) rfl)
  | k + 6, h => omega
theorem cf_T : xj_CF 6 "ThreePhaseGroupModel" xj_T6 27 xj_t6 := by
  refine ⟨rfl, fun v hv => ?_, by decide +kernel, by decide +kernel⟩
  obtain ⟨k, hk, rfl⟩ := List.mem_map.mp hv
  have hk2 : k < 27 := List.mem_range.mp hk
  match k, hk2 with
  | 0, _ => exact (xj_in3 (List.mem_of_getElem? (i := 180) rfl) rfl)
  | 1, _ => exact (xj_in3 (List.mem_of_getElem? (i := 182) rfl) rfl)
  | 2, _ => exact (xj_in3 (List.mem_of_getElem? (i := 184) rfl) rfl)
  | 3, _ => exact (xj_in3 (List.mem_of_getElem? (i := 186) rfl) rfl)
  | 4, _ => exact (xj_in3 (List.mem_of_getElem? (i := 188) rfl) rfl)
  | 5, _ => exact (xj_in3 (List.mem_of_getElem? (i := 190) rfl) rfl)
  | 6, _ => exact (xj_in3 (List.mem_of_getElem? (i := 192) rfl) rfl)
  | 7, _ => exact (xj_in3 (List.mem_of_getElem? (i := 194) rfl) rfl)
  | 8, _ => exact (xj_in3 (List.mem_of_getElem? (i := 196) rfl) rfl)
  | 9, _ => exact (xj_in3 (List.mem_of_getElem? (i := 198) rfl) rfl)
  | 10, _ => exact (xj_in3 (List.mem_of_getElem? (i := 200) rfl) rfl)
  | 11, _ => exact (xj_in3 (List.mem_of_getElem? (i := 202) rfl) rfl)
  | 12, _ => exact (xj_in3 (List.mem_of_getElem? (i := 204) rfl) rfl)
  | 13, _ => exact (xj_in3 (List.mem_of_getElem? (i := 206) rfl) rfl)
  | 14, _ => exact (xj_in3 (List.mem_of_getElem? (i := 208) rfl) rfl)
  | 15, _ => exact (xj_in3 (List.mem_of_getElem? (i := 210) rfl) rfl)
  | 16, _ => exact (xj_in3 (List.mem_of_getElem? (i := 212) rfl) rfl)
  | 17, _ => exact (xj_in3 (List.mem_of_getElem? (i := 214) rfl) rfl)
  | 18, _ => exact (xj_in3 (List.mem_of_getElem? (i := 216) rfl) rfl)
  | 19, _ => exact (xj_in3 (List.mem_of_getElem? (i := 218) rfl) rfl)
  | 20, _ => exact (xj_in3 (List.mem_of_getElem? (i := 220) rfl) rfl)
  | 21, _ => exact (xj_in3 (List.mem_of_getElem? (i := 222) rfl) rfl)
  | 22, _ => exact (xj_in3 (List.mem_of_getElem? (i := 224) rfl) rfl)
  | 23, _ => exact (xj_in3 (List.mem_of_getElem? (i := 226) rfl) rfl)
  | 24, _ => exact (xj_in3 (List.mem_of_getElem? (i := 228) rfl) rfl)
  | 25, _ => exact (xj_in3 (List.mem_of_getElem? (i := 230) rfl) rfl)
  | 26, _ => exact (xj_in3 (List.mem_of_getElem? (i := 232) rfl) rfl)
  | k + 27, h => omega
