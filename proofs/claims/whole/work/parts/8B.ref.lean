/-! the reference: forging, and the calls that show -/
theorem c_T_forge (l : Launch) (G : xj_G) (v : xn_V) (T : pg_T) (hT : xt_T T v) (hG : pg_gi T) (k x y z : Int32) : xj_Mx l G 2 53 0 0 m_T_forge [.ref (xj_ad G (21, 0, 0)), .int k, .int x, .int y, .int z] (xn_W v) (xp_ti v (.int (pg_forge T k x y z).1) (pg_forge T k x y z).2) := by
  have hF4 : T.2.2.2.2 ≤ 4 := hG.1.2.2.1
  have hz2 := hG.2.1
  refine xj_Mx_of (by decide) (Nat.le_of_ble_eq_true rfl) (fun E hE C _ => ?_)
  subst hE
  replace C : xj_C E G prog_9_method_44_code "ThreePhaseGroupModel" 5 2 53 0 0 (some .int) := C
  show xn_X E G _ 0 0 0 [some (.ref (xj_ad G (21, 0, 0))), some (.int k), some (.int x), some (.int y), some (.int z)] [] v
  have bad : ¬ (¬ T.2.2.2.2 = 0 ∧ (1 ≤ k ∧ k ≤ 6) ∧ T.1.1 < 150) → xn_X E G (xj_R E G (xp_ti v (.int (pg_forge T k x y z).1) (pg_forge T k x y z).2) 0 0) 0 0 27 [some (.ref (xj_ad G (21, 0, 0))), some (.int k), some (.int x), some (.int y), some (.int z)] [] v := by
    intro h
    have e : pg_forge T k x y z = (-1, T) := by
      unfold pg_forge
      split
      · rename_i hk
        unfold pg_post
        rw [if_neg (fun g => h ⟨g.1, hk, g.2⟩)]
      · rfl
    rw [e]
    refine xj_iconst (v := -1) C a_T_forge_27 (by decide) ?_
    refine xj_goto C a_T_forge_28 rfl ?_
    exact xj_iret C a_T_forge_41 ⟨rfl, v, rfl, hT, xf_U.rf v⟩
  refine xj_aload_n C a_T_forge_0 rfl ?_
  refine xn_g_T_faulty C a_T_forge_1 fl_T_69 ?_
  refine xj_topi hT.2.2.2.2 ?_
  refine xj_if_lt C a_T_forge_4 rfl (fun h4 => ?_) (fun h4 => ?_)
  · rw [xp_fm_lt hF4] at h4
    exact bad (fun h => h.1 h4)
  · rw [xp_fm_lt hF4] at h4
    refine xj_iload_n C a_T_forge_7 rfl ?_
    refine xj_iconst (v := nI 1) C a_T_forge_8 (by decide) ?_
    refine xj_bipush (v := nI 6) C a_T_forge_9 (by decide) ?_
    refine xn_callS3i C a_T_forge_11 (c_T_outside _ _ v k (nI 1) (nI 6)) ms_T_outside lk_T_95 ⟨by decide, by decide⟩ rfl (Nat.le_of_ble_eq_true rfl) ⟨Nat.le_refl _, Nat.le_refl _⟩ ?_
    refine xj_if_ne C a_T_forge_14 rfl (fun h14 => ?_) (fun h14 => ?_)
    · rw [xp_b0, decide_eq_false_iff_not, Classical.not_not] at h14
      refine bad (fun h => ?_)
      rcases h14 with g | g
      · exact Int32.not_lt.mpr h.2.1.1 g
      · exact g h.2.1.2
    · rw [xp_b0, decide_eq_false_iff_not] at h14
      have h14 : 1 ≤ k ∧ k ≤ 6 := by
        rw [not_or, Classical.not_not] at h14
        exact ⟨Int32.not_lt.mp h14.1, h14.2⟩
      refine xj_aload_n C a_T_forge_17 rfl ?_
      refine xn_g_T_count C a_T_forge_18 fl_T_88 ?_
      refine xj_topi hT.1.z ?_
      refine xj_sipush (v := nI 150) C a_T_forge_21 (by decide) ?_
      refine xj_icmp_lt C a_T_forge_24 rfl (fun h24 => ?_) (fun h24 => ?_)
      · rw [nI_ltI (by omega) (by omega)] at h24
        obtain ⟨N, N1, rfl⟩ : ∃ N, N ≤ 6 ∧ k = nI N := by
          have hn0 : ¬ k < 0 := by
            have h1 : (1 : Int32).toInt = 1 := by decide
            have := h14.1
            rw [Int32.le_iff_toInt_le, h1] at this
            rw [Int32.lt_iff_toInt_lt, Int32.toInt_zero]
            omega
          exact nI_of2 (M := 6) (n := 6) (by decide) hn0 h14.2
        have hN1 : 1 ≤ N := by
          have := h14.1
          have this : nI 1 ≤ nI N := this
          rwa [nI_leI (by omega) (by omega)] at this
        have e : pg_forge T (nI N) x y z = pg_post T N x y.toInt64 z := by
          unfold pg_forge
          rw [if_pos h14, xp_un_n (by omega)]
        rw [e]
        refine xj_aload_n C a_T_forge_31 rfl ?_
        refine xj_iload_n C a_T_forge_32 rfl ?_
        refine xj_iload_n C a_T_forge_33 rfl ?_
        refine xj_iload_n C a_T_forge_34 rfl ?_
        refine xj_i2l C a_T_forge_35 ?_
        refine xj_iload C a_T_forge_36 rfl ?_
        refine xj_callV4 C a_T_forge_38 (c_T_forgeOne _ _ v T hT hG h4 h24 N (by omega) x y.toInt64 z) mv_T_forgeOne lk_T_232 ⟨rfl, rfl, rfl⟩ xj_ok21 ⟨by decide, by decide⟩ rfl (Nat.le_of_ble_eq_true rfl) ⟨Nat.le_refl _, Nat.le_refl _⟩ (fun a' w' hres => ?_)
        obtain ⟨rfl, v2, rfl, hX2⟩ := hres
        exact xj_iret C a_T_forge_41 ⟨rfl, v2, rfl, hX2⟩
      · rw [nI_ltI (by omega) (by omega)] at h24
        exact bad (fun h => h24 h.2.2)
theorem c_T_forgeCheckpoint (l : Launch) (G : xj_G) (v : xn_V) (T : pg_T) (hT : xt_T T v) (hG : pg_gi T) (x : Int32) (y : Int64) : xj_Mx l G 2 53 0 0 m_T_forgeCheckpoint [.ref (xj_ad G (21, 0, 0)), .int x, .long y] (xn_W v) (xp_ti v (.int (pg_post T 7 x y 0).1) (pg_post T 7 x y 0).2) := by
  have hF4 : T.2.2.2.2 ≤ 4 := hG.1.2.2.1
  have hz2 := hG.2.1
  refine xj_Mx_of (by decide) (Nat.le_of_ble_eq_true rfl) (fun E hE C _ => ?_)
  subst hE
  replace C : xj_C E G prog_9_method_45_code "ThreePhaseGroupModel" 4 2 53 0 0 (some .int) := C
  show xn_X E G _ 0 0 0 [some (.ref (xj_ad G (21, 0, 0))), some (.int x), some (.long y), none] [] v
  have bad : ¬ (¬ T.2.2.2.2 = 0 ∧ T.1.1 < 150) → xn_X E G (xj_R E G (xp_ti v (.int (pg_post T 7 x y 0).1) (pg_post T 7 x y 0).2) 0 0) 0 0 17 [some (.ref (xj_ad G (21, 0, 0))), some (.int x), some (.long y), none] [] v := by
    intro h
    have e : pg_post T 7 x y 0 = (-1, T) := by
      unfold pg_post
      rw [if_neg h]
    rw [e]
    refine xj_iconst (v := -1) C a_T_forgeCheckpoint_17 (by decide) ?_
    refine xj_goto C a_T_forgeCheckpoint_18 rfl ?_
    exact xj_iret C a_T_forgeCheckpoint_30 ⟨rfl, v, rfl, hT, xf_U.rf v⟩
  refine xj_aload_n C a_T_forgeCheckpoint_0 rfl ?_
  refine xn_g_T_faulty C a_T_forgeCheckpoint_1 fl_T_69 ?_
  refine xj_topi hT.2.2.2.2 ?_
  refine xj_if_lt C a_T_forgeCheckpoint_4 rfl (fun h4 => ?_) (fun h4 => ?_)
  · rw [xp_fm_lt hF4] at h4
    exact bad (fun h => h.1 h4)
  · rw [xp_fm_lt hF4] at h4
    refine xj_aload_n C a_T_forgeCheckpoint_7 rfl ?_
    refine xn_g_T_count C a_T_forgeCheckpoint_8 fl_T_88 ?_
    refine xj_topi hT.1.z ?_
    refine xj_sipush (v := nI 150) C a_T_forgeCheckpoint_11 (by decide) ?_
    refine xj_icmp_lt C a_T_forgeCheckpoint_14 rfl (fun h14 => ?_) (fun h14 => ?_)
    · rw [nI_ltI (by omega) (by omega)] at h14
      refine xj_aload_n C a_T_forgeCheckpoint_21 rfl ?_
      refine xj_bipush (v := nI 7) C a_T_forgeCheckpoint_22 (by decide) ?_
      refine xj_iload_n C a_T_forgeCheckpoint_24 rfl ?_
      refine xj_lload_n C a_T_forgeCheckpoint_25 rfl ?_
      refine xj_iconst (v := nI 0) C a_T_forgeCheckpoint_26 (by decide) ?_
      refine xj_callV4 C a_T_forgeCheckpoint_27 (c_T_forgeOne _ _ v T hT hG h4 h14 7 (by omega) x y 0) mv_T_forgeOne lk_T_232 ⟨rfl, rfl, rfl⟩ xj_ok21 ⟨by decide, by decide⟩ rfl (Nat.le_of_ble_eq_true rfl) ⟨Nat.le_refl _, Nat.le_refl _⟩ (fun a' w' hres => ?_)
      obtain ⟨rfl, v2, rfl, hX2⟩ := hres
      exact xj_iret C a_T_forgeCheckpoint_30 ⟨rfl, v2, rfl, hX2⟩
    · rw [nI_ltI (by omega) (by omega)] at h14
      exact bad (fun h => h14 h.2)
theorem c_T_messages (l : Launch) (G : xj_G) (v : xn_V) (T : pg_T) (hT : xt_T T v) : xn_M l G 0 0 m_T_messages [.ref (xj_ad G (21, 0, 0))] v (some (.int (nI T.1.1))) v := by
  refine xn_M_of (by decide) (Nat.le_of_ble_eq_true rfl) (fun E hE C => ?_)
  subst hE
  replace C : xj_C E G prog_9_method_46_code "ThreePhaseGroupModel" 1 0 0 0 0 (some .int) := C
  show xn_X E G _ 0 0 0 [some (.ref (xj_ad G (21, 0, 0)))] [] v
  refine xj_aload_n C a_T_messages_0 rfl ?_
  refine xn_g_T_count C a_T_messages_1 fl_T_88 ?_
  refine xj_topi hT.1.z ?_
  refine xj_iret C a_T_messages_4 ?_
  exact ⟨rfl, rfl⟩
theorem c_T_mark (l : Launch) (G : xj_G) (v : xn_V) (T : pg_T) (hT : xt_T T v) (p : Int32) : xn_M l G 1 22 m_T_mark [.ref (xj_ad G (21, 0, 0)), .int p] v (some (.int (if (xp_at 6 p).isSome = true then nI (T.2.2.2.1 (xp_un p)) else -1))) v := by
  refine xn_M_of (by decide) (Nat.le_of_ble_eq_true rfl) (fun E hE C => ?_)
  subst hE
  replace C : xj_C E G prog_9_method_48_code "ThreePhaseGroupModel" 2 1 22 0 0 (some .int) := C
  show xn_X E G _ 0 0 0 [some (.ref (xj_ad G (21, 0, 0))), some (.int p)] [] v
  refine xj_iload_n C a_T_mark_0 rfl ?_
  refine xj_iconst (v := nI 0) C a_T_mark_1 (by decide) ?_
  refine xj_iconst (v := nI 5) C a_T_mark_2 (by decide) ?_
  refine xn_callS3i C a_T_mark_3 (c_T_outside _ _ v p (nI 0) (nI 5)) ms_T_outside lk_T_95 ⟨by decide, by decide⟩ rfl (Nat.le_of_ble_eq_true rfl) ⟨Nat.le_refl _, Nat.le_refl _⟩ ?_
  refine xj_if_eq C a_T_mark_6 rfl (fun h6 => ?_) (fun h6 => ?_)
  · rw [xp_outI (n := 6) (by decide) (by omega)] at h6
    rw [if_pos h6]
    obtain ⟨q, hq, rfl, hq2⟩ := xp_isS (by decide) h6
    rw [hq2]
    refine xj_aload_n C a_T_mark_13 rfl ?_
    refine xn_g_T_mark C a_T_mark_14 fl_T_85 ?_
    refine xj_iload_n C a_T_mark_17 rfl ?_
    refine xn_ld_45 C a_T_mark_18 (by first | assumption | omega) ?_
    refine xj_topi (hT.2.2.2.1 q hq) ?_
    refine xj_iret C a_T_mark_19 ?_
    exact ⟨rfl, rfl⟩
  · rw [xp_outI (n := 6) (by decide) (by omega)] at h6
    rw [if_neg h6]
    refine xj_iconst (v := -1) C a_T_mark_9 (by decide) ?_
    refine xj_goto C a_T_mark_10 rfl ?_
    refine xj_iret C a_T_mark_19 ?_
    exact ⟨rfl, rfl⟩
theorem c_T_executed (l : Launch) (G : xj_G) (v : xn_V) (T : pg_T) (hT : xt_T T v) (r : Int32) : xn_M l G 1 22 m_T_executed [.ref (xj_ad G (21, 0, 0)), .int r] v (some (.int (pg_oR r (nI (pg_e (T.2.1 (xp_un r))))))) v := by
  unfold pg_oR
  refine xn_M_of (by decide) (Nat.le_of_ble_eq_true rfl) (fun E hE C => ?_)
  subst hE
  replace C : xj_C E G prog_9_method_50_code "ThreePhaseGroupModel" 2 1 22 0 0 (some .int) := C
  show xn_X E G _ 0 0 0 [some (.ref (xj_ad G (21, 0, 0))), some (.int r)] [] v
  refine xj_iload_n C a_T_executed_0 rfl ?_
  refine xj_iconst (v := nI 0) C a_T_executed_1 (by decide) ?_
  refine xj_iconst (v := nI 3) C a_T_executed_2 (by decide) ?_
  refine xn_callS3i C a_T_executed_3 (c_T_outside _ _ v r (nI 0) (nI 3)) ms_T_outside lk_T_95 ⟨by decide, by decide⟩ rfl (Nat.le_of_ble_eq_true rfl) ⟨Nat.le_refl _, Nat.le_refl _⟩ ?_
  refine xj_if_eq C a_T_executed_6 rfl (fun h6 => ?_) (fun h6 => ?_)
  · rw [xp_outI (n := 4) (by decide) (by omega)] at h6
    rw [if_pos h6]
    obtain ⟨q, hq, rfl, hq2⟩ := xp_isS (by decide) h6
    rw [hq2]
    refine xj_aload_n C a_T_executed_13 rfl ?_
    refine xn_g_T_e C a_T_executed_14 fl_T_45 ?_
    refine xj_iload_n C a_T_executed_17 rfl ?_
    refine xn_ld_33 C a_T_executed_18 (by first | assumption | omega) ?_
    refine xj_topi (hT.2.1 q hq).e ?_
    refine xj_iret C a_T_executed_19 ?_
    exact ⟨rfl, rfl⟩
  · rw [xp_outI (n := 4) (by decide) (by omega)] at h6
    rw [if_neg h6]
    refine xj_iconst (v := -1) C a_T_executed_9 (by decide) ?_
    refine xj_goto C a_T_executed_10 rfl ?_
    refine xj_iret C a_T_executed_19 ?_
    exact ⟨rfl, rfl⟩
theorem c_T_stable (l : Launch) (G : xj_G) (v : xn_V) (T : pg_T) (hT : xt_T T v) (r : Int32) : xn_M l G 1 22 m_T_stable [.ref (xj_ad G (21, 0, 0)), .int r] v (some (.int (pg_oR r (nI (pg_h (T.2.1 (xp_un r))))))) v := by
  unfold pg_oR
  refine xn_M_of (by decide) (Nat.le_of_ble_eq_true rfl) (fun E hE C => ?_)
  subst hE
  replace C : xj_C E G prog_9_method_51_code "ThreePhaseGroupModel" 2 1 22 0 0 (some .int) := C
  show xn_X E G _ 0 0 0 [some (.ref (xj_ad G (21, 0, 0))), some (.int r)] [] v
  refine xj_iload_n C a_T_stable_0 rfl ?_
  refine xj_iconst (v := nI 0) C a_T_stable_1 (by decide) ?_
  refine xj_iconst (v := nI 3) C a_T_stable_2 (by decide) ?_
  refine xn_callS3i C a_T_stable_3 (c_T_outside _ _ v r (nI 0) (nI 3)) ms_T_outside lk_T_95 ⟨by decide, by decide⟩ rfl (Nat.le_of_ble_eq_true rfl) ⟨Nat.le_refl _, Nat.le_refl _⟩ ?_
  refine xj_if_eq C a_T_stable_6 rfl (fun h6 => ?_) (fun h6 => ?_)
  · rw [xp_outI (n := 4) (by decide) (by omega)] at h6
    rw [if_pos h6]
    obtain ⟨q, hq, rfl, hq2⟩ := xp_isS (by decide) h6
    rw [hq2]
    refine xj_aload_n C a_T_stable_13 rfl ?_
    refine xn_g_T_h C a_T_stable_14 fl_T_42 ?_
    refine xj_iload_n C a_T_stable_17 rfl ?_
    refine xn_ld_32 C a_T_stable_18 (by first | assumption | omega) ?_
    refine xj_topi (hT.2.1 q hq).h ?_
    refine xj_iret C a_T_stable_19 ?_
    exact ⟨rfl, rfl⟩
  · rw [xp_outI (n := 4) (by decide) (by omega)] at h6
    rw [if_neg h6]
    refine xj_iconst (v := -1) C a_T_stable_9 (by decide) ?_
    refine xj_goto C a_T_stable_10 rfl ?_
    refine xj_iret C a_T_stable_19 ?_
    exact ⟨rfl, rfl⟩
theorem c_T_timer (l : Launch) (G : xj_G) (v : xn_V) (T : pg_T) (hT : xt_T T v) (r : Int32) : xn_M l G 1 22 m_T_timer [.ref (xj_ad G (21, 0, 0)), .int r] v (some (.int (pg_oR r (nI (pg_tm (T.2.1 (xp_un r))))))) v := by
  unfold pg_oR
  refine xn_M_of (by decide) (Nat.le_of_ble_eq_true rfl) (fun E hE C => ?_)
  subst hE
  replace C : xj_C E G prog_9_method_55_code "ThreePhaseGroupModel" 2 1 22 0 0 (some .int) := C
  show xn_X E G _ 0 0 0 [some (.ref (xj_ad G (21, 0, 0))), some (.int r)] [] v
  refine xj_iload_n C a_T_timer_0 rfl ?_
  refine xj_iconst (v := nI 0) C a_T_timer_1 (by decide) ?_
  refine xj_iconst (v := nI 3) C a_T_timer_2 (by decide) ?_
  refine xn_callS3i C a_T_timer_3 (c_T_outside _ _ v r (nI 0) (nI 3)) ms_T_outside lk_T_95 ⟨by decide, by decide⟩ rfl (Nat.le_of_ble_eq_true rfl) ⟨Nat.le_refl _, Nat.le_refl _⟩ ?_
  refine xj_if_eq C a_T_timer_6 rfl (fun h6 => ?_) (fun h6 => ?_)
  · rw [xp_outI (n := 4) (by decide) (by omega)] at h6
    rw [if_pos h6]
    obtain ⟨q, hq, rfl, hq2⟩ := xp_isS (by decide) h6
    rw [hq2]
    refine xj_aload_n C a_T_timer_13 rfl ?_
    refine xn_g_T_timer C a_T_timer_14 fl_T_54 ?_
    refine xj_iload_n C a_T_timer_17 rfl ?_
    refine xn_ld_36 C a_T_timer_18 (by first | assumption | omega) ?_
    refine xj_topi (hT.2.1 q hq).tm ?_
    refine xj_iret C a_T_timer_19 ?_
    exact ⟨rfl, rfl⟩
  · rw [xp_outI (n := 4) (by decide) (by omega)] at h6
    rw [if_neg h6]
    refine xj_iconst (v := -1) C a_T_timer_9 (by decide) ?_
    refine xj_goto C a_T_timer_10 rfl ?_
    refine xj_iret C a_T_timer_19 ?_
    exact ⟨rfl, rfl⟩
theorem c_T_state (l : Launch) (G : xj_G) (v : xn_V) (T : pg_T) (hT : xt_T T v) (r : Int32) : xn_M l G 1 22 m_T_state [.ref (xj_ad G (21, 0, 0)), .int r] v (some (.long (if (xp_at 4 r).isSome = true then (T.2.1 (xp_un r)).2 else -1))) v := by
  refine xn_M_of (by decide) (Nat.le_of_ble_eq_true rfl) (fun E hE C => ?_)
  subst hE
  replace C : xj_C E G prog_9_method_52_code "ThreePhaseGroupModel" 2 1 22 0 0 (some .long) := C
  show xn_X E G _ 0 0 0 [some (.ref (xj_ad G (21, 0, 0))), some (.int r)] [] v
  refine xj_iload_n C a_T_state_0 rfl ?_
  refine xj_iconst (v := nI 0) C a_T_state_1 (by decide) ?_
  refine xj_iconst (v := nI 3) C a_T_state_2 (by decide) ?_
  refine xn_callS3i C a_T_state_3 (c_T_outside _ _ v r (nI 0) (nI 3)) ms_T_outside lk_T_95 ⟨by decide, by decide⟩ rfl (Nat.le_of_ble_eq_true rfl) ⟨Nat.le_refl _, Nat.le_refl _⟩ ?_
  refine xj_if_eq C a_T_state_6 rfl (fun h6 => ?_) (fun h6 => ?_)
  · rw [xp_outI (n := 4) (by decide) (by omega)] at h6
    rw [if_pos h6]
    obtain ⟨q, hq, rfl, hq2⟩ := xp_isS (by decide) h6
    rw [hq2]
    refine xj_aload_n C a_T_state_15 rfl ?_
    refine xn_g_T_state C a_T_state_16 fl_T_48 ?_
    refine xj_iload_n C a_T_state_19 rfl ?_
    refine xn_ld_34 C a_T_state_20 (by first | assumption | omega) ?_
    refine xj_topl (hT.2.1 q hq).st ?_
    refine xj_lret C a_T_state_21 ?_
    exact ⟨rfl, rfl⟩
  · rw [xp_outI (n := 4) (by decide) (by omega)] at h6
    rw [if_neg h6]
    refine xj_ldc2 C a_T_state_9 kl_T_222 ?_
    refine xj_goto C a_T_state_12 rfl ?_
    refine xj_lret C a_T_state_21 ?_
    exact ⟨rfl, rfl⟩
theorem c_T_outstanding (l : Launch) (G : xj_G) (v : xn_V) (T : pg_T) (hT : xt_T T v) (k : Int32) : xn_M l G 1 22 m_T_outstanding [.ref (xj_ad G (21, 0, 0)), .int k] v (some (.int (if (xp_at 2 k).isSome = true then nI (pg_op (T.2.2.1 (xp_un k))) else -1))) v := by
  refine xn_M_of (by decide) (Nat.le_of_ble_eq_true rfl) (fun E hE C => ?_)
  subst hE
  replace C : xj_C E G prog_9_method_56_code "ThreePhaseGroupModel" 2 1 22 0 0 (some .int) := C
  show xn_X E G _ 0 0 0 [some (.ref (xj_ad G (21, 0, 0))), some (.int k)] [] v
  refine xj_iload_n C a_T_outstanding_0 rfl ?_
  refine xj_iconst (v := nI 0) C a_T_outstanding_1 (by decide) ?_
  refine xj_iconst (v := nI 1) C a_T_outstanding_2 (by decide) ?_
  refine xn_callS3i C a_T_outstanding_3 (c_T_outside _ _ v k (nI 0) (nI 1)) ms_T_outside lk_T_95 ⟨by decide, by decide⟩ rfl (Nat.le_of_ble_eq_true rfl) ⟨Nat.le_refl _, Nat.le_refl _⟩ ?_
  refine xj_if_eq C a_T_outstanding_6 rfl (fun h6 => ?_) (fun h6 => ?_)
  · rw [xp_outI (n := 2) (by decide) (by omega)] at h6
    rw [if_pos h6]
    obtain ⟨q, hq, rfl, hq2⟩ := xp_isS (by decide) h6
    rw [hq2]
    refine xj_aload_n C a_T_outstanding_13 rfl ?_
    refine xn_g_T_open C a_T_outstanding_14 fl_T_76 ?_
    refine xj_iload_n C a_T_outstanding_17 rfl ?_
    refine xn_ld_42 C a_T_outstanding_18 (by first | assumption | omega) ?_
    refine xj_topi (hT.2.2.1 q hq).2.1 ?_
    refine xj_iret C a_T_outstanding_19 ?_
    exact ⟨rfl, rfl⟩
  · rw [xp_outI (n := 2) (by decide) (by omega)] at h6
    rw [if_neg h6]
    refine xj_iconst (v := -1) C a_T_outstanding_9 (by decide) ?_
    refine xj_goto C a_T_outstanding_10 rfl ?_
    refine xj_iret C a_T_outstanding_19 ?_
    exact ⟨rfl, rfl⟩
theorem c_T_answer (l : Launch) (G : xj_G) (v : xn_V) (T : pg_T) (hT : xt_T T v) (k : Int32) : xn_M l G 1 22 m_T_answer [.ref (xj_ad G (21, 0, 0)), .int k] v (some (.int (if (xp_at 2 k).isSome = true then (T.2.2.1 (xp_un k)).2 else -1))) v := by
  refine xn_M_of (by decide) (Nat.le_of_ble_eq_true rfl) (fun E hE C => ?_)
  subst hE
  replace C : xj_C E G prog_9_method_57_code "ThreePhaseGroupModel" 2 1 22 0 0 (some .int) := C
  show xn_X E G _ 0 0 0 [some (.ref (xj_ad G (21, 0, 0))), some (.int k)] [] v
  refine xj_iload_n C a_T_answer_0 rfl ?_
  refine xj_iconst (v := nI 0) C a_T_answer_1 (by decide) ?_
  refine xj_iconst (v := nI 1) C a_T_answer_2 (by decide) ?_
  refine xn_callS3i C a_T_answer_3 (c_T_outside _ _ v k (nI 0) (nI 1)) ms_T_outside lk_T_95 ⟨by decide, by decide⟩ rfl (Nat.le_of_ble_eq_true rfl) ⟨Nat.le_refl _, Nat.le_refl _⟩ ?_
  refine xj_if_eq C a_T_answer_6 rfl (fun h6 => ?_) (fun h6 => ?_)
  · rw [xp_outI (n := 2) (by decide) (by omega)] at h6
    rw [if_pos h6]
    obtain ⟨q, hq, rfl, hq2⟩ := xp_isS (by decide) h6
    rw [hq2]
    refine xj_aload_n C a_T_answer_13 rfl ?_
    refine xn_g_T_reply C a_T_answer_14 fl_T_79 ?_
    refine xj_iload_n C a_T_answer_17 rfl ?_
    refine xn_ld_43 C a_T_answer_18 (by first | assumption | omega) ?_
    refine xj_topi (hT.2.2.1 q hq).2.2.1 ?_
    refine xj_iret C a_T_answer_19 ?_
    exact ⟨rfl, rfl⟩
  · rw [xp_outI (n := 2) (by decide) (by omega)] at h6
    rw [if_neg h6]
    refine xj_iconst (v := -1) C a_T_answer_9 (by decide) ?_
    refine xj_goto C a_T_answer_10 rfl ?_
    refine xj_iret C a_T_answer_19 ?_
    exact ⟨rfl, rfl⟩
theorem c_T_view (l : Launch) (G : xj_G) (v : xn_V) (T : pg_T) (hT : xt_T T v) (hG : pg_gi T) (r : Int32) : xn_M l G 1 22 m_T_view [.ref (xj_ad G (21, 0, 0)), .int r] v (some (.int (pg_view T r))) v := by
  unfold pg_view pg_oR
  have hz2 := hG.2.1
  refine xn_M_of (by decide) (Nat.le_of_ble_eq_true rfl) (fun E hE C => ?_)
  subst hE
  replace C : xj_C E G prog_9_method_49_code "ThreePhaseGroupModel" 2 1 22 0 0 (some .int) := C
  show xn_X E G _ 0 0 0 [some (.ref (xj_ad G (21, 0, 0))), some (.int r)] [] v
  refine xj_iload_n C a_T_view_0 rfl ?_
  refine xj_iconst (v := nI 0) C a_T_view_1 (by decide) ?_
  refine xj_iconst (v := nI 3) C a_T_view_2 (by decide) ?_
  refine xn_callS3i C a_T_view_3 (c_T_outside _ _ v r (nI 0) (nI 3)) ms_T_outside lk_T_95 ⟨by decide, by decide⟩ rfl (Nat.le_of_ble_eq_true rfl) ⟨Nat.le_refl _, Nat.le_refl _⟩ ?_
  refine xj_if_eq C a_T_view_6 rfl (fun h6 => ?_) (fun h6 => ?_)
  · rw [xp_outI (n := 4) (by decide) (by omega)] at h6
    rw [if_pos h6]
    obtain ⟨q, hq, rfl, hq2⟩ := xp_isS (by decide) h6
    rw [hq2]
    have hR := hT.2.1 q hq
    have hN : pg_num (T.2.1 q) := (hG.2.2.1 q hq).1.num (show T.1.1 ≤ 256 by omega)
    have hch := hN.2.1
    refine xj_aload_n C a_T_view_13 rfl ?_
    refine xn_g_T_changing C a_T_view_14 fl_T_39 ?_
    refine xj_iload_n C a_T_view_17 rfl ?_
    refine xn_ld_31 C a_T_view_18 (by first | assumption | omega) ?_
    refine xj_topi hR.ch ?_
    refine xj_if_eq C a_T_view_19 rfl (fun h19 => ?_) (fun h19 => ?_)
    · rw [xp_nz (by omega)] at h19
      refine xj_aload_n C a_T_view_34 rfl ?_
      refine xn_g_T_view C a_T_view_35 fl_T_36 ?_
      refine xj_iload_n C a_T_view_38 rfl ?_
      refine xn_ld_30 C a_T_view_39 (by first | assumption | omega) ?_
      refine xj_topi hR.vw ?_
      refine xj_iret C a_T_view_40 ?_
      refine ⟨?_, rfl⟩
      rw [if_pos h19]; rfl
    · rw [xp_nz (by omega)] at h19
      refine xj_aload_n C a_T_view_22 rfl ?_
      refine xn_g_T_view C a_T_view_23 fl_T_36 ?_
      refine xj_iload_n C a_T_view_26 rfl ?_
      refine xn_ld_30 C a_T_view_27 (by first | assumption | omega) ?_
      refine xj_topi hR.vw ?_
      refine xj_bipush (v := nI 16) C a_T_view_28 (by decide) ?_
      refine xj_iaddN C a_T_view_30 ?_
      refine xj_goto C a_T_view_31 rfl ?_
      refine xj_iret C a_T_view_40 ?_
      refine ⟨?_, rfl⟩
      rw [if_neg h19]
  · rw [xp_outI (n := 4) (by decide) (by omega)] at h6
    rw [if_neg h6]
    refine xj_iconst (v := -1) C a_T_view_9 (by decide) ?_
    refine xj_goto C a_T_view_10 rfl ?_
    refine xj_iret C a_T_view_40 ?_
    exact ⟨rfl, rfl⟩
