/-! the calls that show -/
def pg_look (T : pg_T) (m k : Int32) : Int64 :=
  if (xp_at T.1.1 m).isSome = true ∧ (xp_at 6 k).isSome = true then
    (if xp_un k = 0 then (nI (pg_k T.1 (xp_un m))).toInt64 else if xp_un k = 1 then (nI (pg_f T.1 (xp_un m))).toInt64 else if xp_un k = 2 then (pg_a T.1 (xp_un m)).toInt64 else if xp_un k = 3 then pg_b T.1 (xp_un m) else if xp_un k = 4 then (pg_c T.1 (xp_un m)).toInt64 else if pg_gc T.1 (xp_un m) || pg_gn T.1 (xp_un m) then 1 else 0)
  else -1
def pg_oR (r : Int32) (x : Int32) : Int32 := if (xp_at 4 r).isSome = true then x else -1
def pg_view (T : pg_T) (r : Int32) : Int32 := pg_oR r (nI (pg_vw (T.2.1 (xp_un r)) + (if pg_ch (T.2.1 (xp_un r)) = 0 then 0 else 16)))
def pg_slotv (S : pg_S) (r n : Nat) : Nat :=
  (if pg_de S.2 n = 0 then 0 else 4) + 1024 * pg_ct S.2 n + (if pg_ac S.2 n = 0 then 0 else 1 + (if pg_sent S.1 r 3 (pg_vw S.2) n then 2 else 0) + 8 * pg_hr S 2 (nI (pg_vw S.2)) (lN n) (nI (pg_ac S.2 n) - 2) + 64 * pg_hr S 3 (nI (pg_vw S.2)) (lN n) (nI (pg_ac S.2 n) - 2))
def pg_slot (T : pg_T) (r n : Int32) : Int32 := if (xp_at 4 r).isSome = true ∧ pg_win (T.2.1 (xp_un r)) n.toInt64 = true then nI (pg_slotv (pg_sR T (xp_un r)) (xp_un r) (xp_un n)) else -1
def pg_ordered (T : pg_T) (r n : Int32) : Int32 := if (xp_at 4 r).isSome = true ∧ pg_win (T.2.1 (xp_un r)) n.toInt64 = true then (if pg_de (T.2.1 (xp_un r)) (xp_un n) = 0 then nI (pg_ac (T.2.1 (xp_un r)) (xp_un n)) - 2 else nI (pg_de (T.2.1 (xp_un r)) (xp_un n)) - 2) else -2
theorem c_G_messages (l : Launch) (G : xj_G) (v : xn_V) (T : pg_T) (hT : xc_T T v) : xn_M l G 0 0 m_G_messages [.ref (xj_ad G (0, 0, 0))] v (some (.int (nI T.1.1))) v := by
  refine xn_M_of (by decide) (Nat.le_of_ble_eq_true rfl) (fun E hE C => ?_)
  subst hE
  replace C : xj_C E G prog_1_method_9_code "ThreePhaseGroup" 1 0 0 0 0 (some .int) := C
  show xn_X E G _ 0 0 0 [some (.ref (xj_ad G (0, 0, 0)))] [] v
  refine xj_aload_n C a_G_messages_0 rfl ?_
  refine xn_g_G_board C a_G_messages_1 fl_G_12 ?_
  refine xn_g_B_size C a_G_messages_4 fl_G_91 ?_
  refine xj_topi hT.1.1 ?_
  refine xj_iret C a_G_messages_7 ?_
  exact ⟨rfl, rfl⟩
theorem c_G_mark (l : Launch) (G : xj_G) (v : xn_V) (T : pg_T) (hT : xc_T T v) (p : Int32) : xn_M l G 1 20 m_G_mark [.ref (xj_ad G (0, 0, 0)), .int p] v (some (.int (if (xp_at 6 p).isSome = true then nI (T.2.2.2.1 (xp_un p)) else -1))) v := by
  refine xn_M_of (by decide) (Nat.le_of_ble_eq_true rfl) (fun E hE C => ?_)
  subst hE
  replace C : xj_C E G prog_1_method_11_code "ThreePhaseGroup" 2 1 20 0 0 (some .int) := C
  show xn_X E G _ 0 0 0 [some (.ref (xj_ad G (0, 0, 0))), some (.int p)] [] v
  refine xj_iload_n C a_G_mark_0 rfl ?_
  refine xn_callS1i C a_G_mark_1 (c_G_isParty _ _ v p) ms_G_isParty lk_G_65 ⟨by decide, by decide⟩ rfl (Nat.le_of_ble_eq_true rfl) ⟨Nat.le_refl _, Nat.le_refl _⟩ ?_
  refine xj_if_eq C a_G_mark_4 rfl (fun h4 => ?_) (fun h4 => ?_)
  · rw [xp_at_d 6 (by decide), xp_b0] at h4
    rw [if_neg (by rw [h4]; decide)]
    refine xj_iconst (v := -1) C a_G_mark_16 (by decide) ?_
    refine xj_iret C a_G_mark_17 ?_
    exact ⟨rfl, rfl⟩
  · rw [xp_at_d 6 (by decide), xp_b0] at h4
    have h4 : (xp_at 6 p).isSome = true := by rw [← Bool.not_eq_false]; exact h4
    rw [if_pos h4]
    obtain ⟨q, hq, rfl, hq2⟩ := xp_isS (by decide) h4
    rw [hq2]
    refine xj_aload_n C a_G_mark_7 rfl ?_
    refine xn_g_G_marks C a_G_mark_8 fl_G_28 ?_
    refine xj_iload_n C a_G_mark_11 rfl ?_
    refine xn_ld_10 C a_G_mark_12 (by first | assumption | omega) ?_
    refine xj_topi (hT.2.2.2.2.1 q hq) ?_
    refine xj_goto C a_G_mark_13 rfl ?_
    refine xj_iret C a_G_mark_17 ?_
    exact ⟨rfl, rfl⟩
theorem c_G_view (l : Launch) (G : xj_G) (v : xn_V) (T : pg_T) (hT : xc_T T v) (h0 : pg_g0 T) (r : Int32) : xn_M l G 1 20 m_G_view [.ref (xj_ad G (0, 0, 0)), .int r] v (some (.int (pg_view T r))) v := by
  refine xn_M_of (by decide) (Nat.le_of_ble_eq_true rfl) (fun E hE C => ?_)
  subst hE
  replace C : xj_C E G prog_1_method_12_code "ThreePhaseGroup" 2 1 20 0 0 (some .int) := C
  show xn_X E G _ 0 0 0 [some (.ref (xj_ad G (0, 0, 0))), some (.int r)] [] v
  unfold pg_view pg_oR
  refine xj_iload_n C a_G_view_0 rfl ?_
  refine xn_callS1i C a_G_view_1 (c_G_isReplica _ _ v r) ms_G_isReplica lk_G_72 ⟨by decide, by decide⟩ rfl (Nat.le_of_ble_eq_true rfl) ⟨Nat.le_refl _, Nat.le_refl _⟩ ?_
  refine xj_if_ne C a_G_view_4 rfl (fun h4 => ?_) (fun h4 => ?_)
  · rw [xp_at_d 4 (by decide), xp_b0] at h4
    have h4 : (xp_at 4 r).isSome = true := by rw [← Bool.not_eq_false]; exact h4
    rw [if_pos h4]
    obtain ⟨q, hq, rfl, hq2⟩ := xp_isS (by decide) h4
    rw [hq2]
    have hF := (hT.2.2.1 q hq).1
    obtain ⟨hvw, hch, -⟩ := (h0.1 q hq).2
    refine xj_aload_n C a_G_view_9 rfl ?_
    refine xn_g_G_replicas C a_G_view_10 fl_G_18 ?_
    refine xj_iload_n C a_G_view_13 rfl ?_
    refine xn_ld_8 C a_G_view_14 (by first | assumption | omega) ?_
    refine xn_g_R_view C a_G_view_15 fl_G_116 (by first | assumption | omega) ?_
    refine xj_topi hF.vw ?_
    refine xj_aload_n C a_G_view_18 rfl ?_
    refine xn_g_G_replicas C a_G_view_19 fl_G_18 ?_
    refine xj_iload_n C a_G_view_22 rfl ?_
    refine xn_ld_8 C a_G_view_23 (by first | assumption | omega) ?_
    refine xn_g_R_changing C a_G_view_24 fl_G_119 (by first | assumption | omega) ?_
    refine xj_topi hF.ch ?_
    refine xj_if_eq C a_G_view_27 rfl (fun h27 => ?_) (fun h27 => ?_)
    · have h27 : pg_ch (T.2.1 q) = 0 := by
        have h27 : nI (pg_ch (T.2.1 q)) = nI 0 := h27
        rwa [nI_eq (by omega) (by omega)] at h27
      rw [if_pos h27]
      refine xj_iconst (v := nI 0) C a_G_view_35 (by decide) ?_
      refine xj_iadd C a_G_view_36 ?_
      refine xj_topi (nI_add _ 0) ?_
      refine xj_iret C a_G_view_37 ?_
      exact ⟨rfl, rfl⟩
    · have h27 : ¬ pg_ch (T.2.1 q) = 0 := fun e => h27 (by show nI (pg_ch (T.2.1 q)) = 0; rw [e]; rfl)
      rw [if_neg h27]
      refine xj_bipush (v := nI 16) C a_G_view_30 (by decide) ?_
      refine xj_goto C a_G_view_32 rfl ?_
      refine xj_iadd C a_G_view_36 ?_
      refine xj_topi (nI_add _ 16) ?_
      refine xj_iret C a_G_view_37 ?_
      exact ⟨rfl, rfl⟩
  · rw [xp_at_d 4 (by decide), xp_b0] at h4
    rw [if_neg (by rw [h4]; decide)]
    refine xj_iconst (v := -1) C a_G_view_7 (by decide) ?_
    refine xj_iret C a_G_view_8 ?_
    exact ⟨rfl, rfl⟩
theorem c_G_executed (l : Launch) (G : xj_G) (v : xn_V) (T : pg_T) (hT : xc_T T v) (r : Int32) : xn_M l G 1 20 m_G_executed [.ref (xj_ad G (0, 0, 0)), .int r] v (some (.int (pg_oR r (nI (pg_e (T.2.1 (xp_un r))))))) v := by
  refine xn_M_of (by decide) (Nat.le_of_ble_eq_true rfl) (fun E hE C => ?_)
  subst hE
  replace C : xj_C E G prog_1_method_13_code "ThreePhaseGroup" 2 1 20 0 0 (some .int) := C
  show xn_X E G _ 0 0 0 [some (.ref (xj_ad G (0, 0, 0))), some (.int r)] [] v
  unfold pg_oR
  refine xj_iload_n C a_G_executed_0 rfl ?_
  refine xn_callS1i C a_G_executed_1 (c_G_isReplica _ _ v r) ms_G_isReplica lk_G_72 ⟨by decide, by decide⟩ rfl (Nat.le_of_ble_eq_true rfl) ⟨Nat.le_refl _, Nat.le_refl _⟩ ?_
  refine xj_if_eq C a_G_executed_4 rfl (fun h4 => ?_) (fun h4 => ?_)
  · rw [xp_at_d 4 (by decide), xp_b0] at h4
    rw [if_neg (by rw [h4]; decide)]
    refine xj_iconst (v := -1) C a_G_executed_19 (by decide) ?_
    refine xj_iret C a_G_executed_20 ?_
    exact ⟨rfl, rfl⟩
  · rw [xp_at_d 4 (by decide), xp_b0] at h4
    have h4 : (xp_at 4 r).isSome = true := by rw [← Bool.not_eq_false]; exact h4
    rw [if_pos h4]
    obtain ⟨q, hq, rfl, hq2⟩ := xp_isS (by decide) h4
    rw [hq2]
    refine xj_aload_n C a_G_executed_7 rfl ?_
    refine xn_g_G_replicas C a_G_executed_8 fl_G_18 ?_
    refine xj_iload_n C a_G_executed_11 rfl ?_
    refine xn_ld_8 C a_G_executed_12 (by first | assumption | omega) ?_
    refine xn_g_R_executed C a_G_executed_13 fl_G_123 (by first | assumption | omega) ?_
    refine xj_topi (hT.2.2.1 q hq).1.e ?_
    refine xj_goto C a_G_executed_16 rfl ?_
    refine xj_iret C a_G_executed_20 ?_
    exact ⟨rfl, rfl⟩
theorem c_G_stable (l : Launch) (G : xj_G) (v : xn_V) (T : pg_T) (hT : xc_T T v) (r : Int32) : xn_M l G 1 20 m_G_stable [.ref (xj_ad G (0, 0, 0)), .int r] v (some (.int (pg_oR r (nI (pg_h (T.2.1 (xp_un r))))))) v := by
  refine xn_M_of (by decide) (Nat.le_of_ble_eq_true rfl) (fun E hE C => ?_)
  subst hE
  replace C : xj_C E G prog_1_method_14_code "ThreePhaseGroup" 2 1 20 0 0 (some .int) := C
  show xn_X E G _ 0 0 0 [some (.ref (xj_ad G (0, 0, 0))), some (.int r)] [] v
  unfold pg_oR
  refine xj_iload_n C a_G_stable_0 rfl ?_
  refine xn_callS1i C a_G_stable_1 (c_G_isReplica _ _ v r) ms_G_isReplica lk_G_72 ⟨by decide, by decide⟩ rfl (Nat.le_of_ble_eq_true rfl) ⟨Nat.le_refl _, Nat.le_refl _⟩ ?_
  refine xj_if_eq C a_G_stable_4 rfl (fun h4 => ?_) (fun h4 => ?_)
  · rw [xp_at_d 4 (by decide), xp_b0] at h4
    rw [if_neg (by rw [h4]; decide)]
    refine xj_iconst (v := -1) C a_G_stable_19 (by decide) ?_
    refine xj_iret C a_G_stable_20 ?_
    exact ⟨rfl, rfl⟩
  · rw [xp_at_d 4 (by decide), xp_b0] at h4
    have h4 : (xp_at 4 r).isSome = true := by rw [← Bool.not_eq_false]; exact h4
    rw [if_pos h4]
    obtain ⟨q, hq, rfl, hq2⟩ := xp_isS (by decide) h4
    rw [hq2]
    refine xj_aload_n C a_G_stable_7 rfl ?_
    refine xn_g_G_replicas C a_G_stable_8 fl_G_18 ?_
    refine xj_iload_n C a_G_stable_11 rfl ?_
    refine xn_ld_8 C a_G_stable_12 (by first | assumption | omega) ?_
    refine xn_g_R_stable C a_G_stable_13 fl_G_126 (by first | assumption | omega) ?_
    refine xj_topi (hT.2.2.1 q hq).1.h ?_
    refine xj_goto C a_G_stable_16 rfl ?_
    refine xj_iret C a_G_stable_20 ?_
    exact ⟨rfl, rfl⟩
theorem c_G_timer (l : Launch) (G : xj_G) (v : xn_V) (T : pg_T) (hT : xc_T T v) (r : Int32) : xn_M l G 1 20 m_G_timer [.ref (xj_ad G (0, 0, 0)), .int r] v (some (.int (pg_oR r (nI (pg_tm (T.2.1 (xp_un r))))))) v := by
  refine xn_M_of (by decide) (Nat.le_of_ble_eq_true rfl) (fun E hE C => ?_)
  subst hE
  replace C : xj_C E G prog_1_method_18_code "ThreePhaseGroup" 2 1 20 0 0 (some .int) := C
  show xn_X E G _ 0 0 0 [some (.ref (xj_ad G (0, 0, 0))), some (.int r)] [] v
  unfold pg_oR
  refine xj_iload_n C a_G_timer_0 rfl ?_
  refine xn_callS1i C a_G_timer_1 (c_G_isReplica _ _ v r) ms_G_isReplica lk_G_72 ⟨by decide, by decide⟩ rfl (Nat.le_of_ble_eq_true rfl) ⟨Nat.le_refl _, Nat.le_refl _⟩ ?_
  refine xj_if_eq C a_G_timer_4 rfl (fun h4 => ?_) (fun h4 => ?_)
  · rw [xp_at_d 4 (by decide), xp_b0] at h4
    rw [if_neg (by rw [h4]; decide)]
    refine xj_iconst (v := -1) C a_G_timer_19 (by decide) ?_
    refine xj_iret C a_G_timer_20 ?_
    exact ⟨rfl, rfl⟩
  · rw [xp_at_d 4 (by decide), xp_b0] at h4
    have h4 : (xp_at 4 r).isSome = true := by rw [← Bool.not_eq_false]; exact h4
    rw [if_pos h4]
    obtain ⟨q, hq, rfl, hq2⟩ := xp_isS (by decide) h4
    rw [hq2]
    refine xj_aload_n C a_G_timer_7 rfl ?_
    refine xn_g_G_replicas C a_G_timer_8 fl_G_18 ?_
    refine xj_iload_n C a_G_timer_11 rfl ?_
    refine xn_ld_8 C a_G_timer_12 (by first | assumption | omega) ?_
    refine xn_g_R_timer C a_G_timer_13 fl_G_75 (by first | assumption | omega) ?_
    refine xj_topi (hT.2.2.1 q hq).1.tm ?_
    refine xj_goto C a_G_timer_16 rfl ?_
    refine xj_iret C a_G_timer_20 ?_
    exact ⟨rfl, rfl⟩
theorem c_G_state (l : Launch) (G : xj_G) (v : xn_V) (T : pg_T) (hT : xc_T T v) (r : Int32) : xn_M l G 1 20 m_G_state [.ref (xj_ad G (0, 0, 0)), .int r] v (some (.long (if (xp_at 4 r).isSome = true then (T.2.1 (xp_un r)).2 else -1))) v := by
  refine xn_M_of (by decide) (Nat.le_of_ble_eq_true rfl) (fun E hE C => ?_)
  subst hE
  replace C : xj_C E G prog_1_method_15_code "ThreePhaseGroup" 2 1 20 0 0 (some .long) := C
  show xn_X E G _ 0 0 0 [some (.ref (xj_ad G (0, 0, 0))), some (.int r)] [] v
  refine xj_iload_n C a_G_state_0 rfl ?_
  refine xn_callS1i C a_G_state_1 (c_G_isReplica _ _ v r) ms_G_isReplica lk_G_72 ⟨by decide, by decide⟩ rfl (Nat.le_of_ble_eq_true rfl) ⟨Nat.le_refl _, Nat.le_refl _⟩ ?_
  refine xj_if_eq C a_G_state_4 rfl (fun h4 => ?_) (fun h4 => ?_)
  · rw [xp_at_d 4 (by decide), xp_b0] at h4
    rw [if_neg (by rw [h4]; decide)]
    refine xj_ldc2 C a_G_state_19 kl_G_94 ?_
    refine xj_lret C a_G_state_22 ?_
    exact ⟨rfl, rfl⟩
  · rw [xp_at_d 4 (by decide), xp_b0] at h4
    have h4 : (xp_at 4 r).isSome = true := by rw [← Bool.not_eq_false]; exact h4
    rw [if_pos h4]
    obtain ⟨q, hq, rfl, hq2⟩ := xp_isS (by decide) h4
    rw [hq2]
    refine xj_aload_n C a_G_state_7 rfl ?_
    refine xn_g_G_replicas C a_G_state_8 fl_G_18 ?_
    refine xj_iload_n C a_G_state_11 rfl ?_
    refine xn_ld_8 C a_G_state_12 (by first | assumption | omega) ?_
    refine xn_g_R_state C a_G_state_13 fl_G_129 (by first | assumption | omega) ?_
    refine xj_topl (hT.2.2.1 q hq).1.st ?_
    refine xj_goto C a_G_state_16 rfl ?_
    refine xj_lret C a_G_state_22 ?_
    exact ⟨rfl, rfl⟩
theorem c_G_waiting (l : Launch) (G : xj_G) (v : xn_V) (T : pg_T) (hT : xc_T T v) (h0 : pg_g0 T) (r : Int32) : xn_M l G 3 66 m_G_waiting [.ref (xj_ad G (0, 0, 0)), .int r] v (some (.int (pg_oR r (nI (pg_wn (pg_sR T (xp_un r))))))) v := by
  refine xn_M_of (by decide) (Nat.le_of_ble_eq_true rfl) (fun E hE C => ?_)
  subst hE
  replace C : xj_C E G prog_1_method_19_code "ThreePhaseGroup" 2 3 66 0 0 (some .int) := C
  show xn_X E G _ 0 0 0 [some (.ref (xj_ad G (0, 0, 0))), some (.int r)] [] v
  unfold pg_oR
  refine xj_iload_n C a_G_waiting_0 rfl ?_
  refine xn_callS1i C a_G_waiting_1 (c_G_isReplica _ _ v r) ms_G_isReplica lk_G_72 ⟨by decide, by decide⟩ rfl (Nat.le_of_ble_eq_true rfl) ⟨Nat.le_refl _, Nat.le_refl _⟩ ?_
  refine xj_if_eq C a_G_waiting_4 rfl (fun h4 => ?_) (fun h4 => ?_)
  · rw [xp_at_d 4 (by decide), xp_b0] at h4
    rw [if_neg (by rw [h4]; decide)]
    refine xj_iconst (v := -1) C a_G_waiting_19 (by decide) ?_
    refine xj_iret C a_G_waiting_20 ?_
    exact ⟨rfl, rfl⟩
  · rw [xp_at_d 4 (by decide), xp_b0] at h4
    have h4 : (xp_at 4 r).isSome = true := by rw [← Bool.not_eq_false]; exact h4
    rw [if_pos h4]
    obtain ⟨q, hq, rfl, hq2⟩ := xp_isS (by decide) h4
    rw [hq2]
    have hR := hT.2.2.1 q hq
    obtain ⟨kl, hL, hkl⟩ := hR.2.1
    refine xj_aload_n C a_G_waiting_7 rfl ?_
    refine xn_g_G_replicas C a_G_waiting_8 fl_G_18 ?_
    refine xj_iload_n C a_G_waiting_11 rfl ?_
    refine xn_ld_8 C a_G_waiting_12 (by first | assumption | omega) ?_
    refine xn_callV0i C a_G_waiting_13 (c_R_countWaiting _ _ v q hq (pg_sR T q) hR.1 hT.1 kl hL hkl (h0.1 q hq).1) mv_R_countWaiting lk_G_153 ⟨rfl, rfl, rfl⟩ (xj_ok11 (by first | assumption | omega)) ⟨by decide, by decide⟩ rfl (Nat.le_of_ble_eq_true rfl) ⟨Nat.le_refl _, Nat.le_refl _⟩ ?_
    refine xj_goto C a_G_waiting_16 rfl ?_
    refine xj_iret C a_G_waiting_20 ?_
    exact ⟨rfl, rfl⟩
theorem c_G_outstanding (l : Launch) (G : xj_G) (v : xn_V) (T : pg_T) (hT : xc_T T v) (k : Int32) : xn_M l G 1 20 m_G_outstanding [.ref (xj_ad G (0, 0, 0)), .int k] v (some (.int (if (xp_at 2 k).isSome = true then nI (pg_op (T.2.2.1 (xp_un k))) else -1))) v := by
  refine xn_M_of (by decide) (Nat.le_of_ble_eq_true rfl) (fun E hE C => ?_)
  subst hE
  replace C : xj_C E G prog_1_method_20_code "ThreePhaseGroup" 2 1 20 0 0 (some .int) := C
  show xn_X E G _ 0 0 0 [some (.ref (xj_ad G (0, 0, 0))), some (.int k)] [] v
  refine xj_iload_n C a_G_outstanding_0 rfl ?_
  refine xn_callS1i C a_G_outstanding_1 (c_G_isClient _ _ v k) ms_G_isClient lk_G_40 ⟨by decide, by decide⟩ rfl (Nat.le_of_ble_eq_true rfl) ⟨Nat.le_refl _, Nat.le_refl _⟩ ?_
  refine xj_if_eq C a_G_outstanding_4 rfl (fun h4 => ?_) (fun h4 => ?_)
  · rw [xp_at_d 2 (by decide), xp_b0] at h4
    rw [if_neg (by rw [h4]; decide)]
    refine xj_iconst (v := -1) C a_G_outstanding_19 (by decide) ?_
    refine xj_iret C a_G_outstanding_20 ?_
    exact ⟨rfl, rfl⟩
  · rw [xp_at_d 2 (by decide), xp_b0] at h4
    have h4 : (xp_at 2 k).isSome = true := by rw [← Bool.not_eq_false]; exact h4
    rw [if_pos h4]
    obtain ⟨q, hq, rfl, hq2⟩ := xp_isS (by decide) h4
    rw [hq2]
    refine xj_aload_n C a_G_outstanding_7 rfl ?_
    refine xn_g_G_clients C a_G_outstanding_8 fl_G_24 ?_
    refine xj_iload_n C a_G_outstanding_11 rfl ?_
    refine xn_ld_9 C a_G_outstanding_12 (by first | assumption | omega) ?_
    refine xn_g_C_outstanding C a_G_outstanding_13 fl_G_48 (by first | assumption | omega) ?_
    refine xj_topi (hT.2.2.2.1 q hq).2.2.1 ?_
    refine xj_goto C a_G_outstanding_16 rfl ?_
    refine xj_iret C a_G_outstanding_20 ?_
    exact ⟨rfl, rfl⟩
theorem c_G_answer (l : Launch) (G : xj_G) (v : xn_V) (T : pg_T) (hT : xc_T T v) (k : Int32) : xn_M l G 1 20 m_G_answer [.ref (xj_ad G (0, 0, 0)), .int k] v (some (.int (if (xp_at 2 k).isSome = true then (T.2.2.1 (xp_un k)).2 else -1))) v := by
  refine xn_M_of (by decide) (Nat.le_of_ble_eq_true rfl) (fun E hE C => ?_)
  subst hE
  replace C : xj_C E G prog_1_method_21_code "ThreePhaseGroup" 2 1 20 0 0 (some .int) := C
  show xn_X E G _ 0 0 0 [some (.ref (xj_ad G (0, 0, 0))), some (.int k)] [] v
  refine xj_iload_n C a_G_answer_0 rfl ?_
  refine xn_callS1i C a_G_answer_1 (c_G_isClient _ _ v k) ms_G_isClient lk_G_40 ⟨by decide, by decide⟩ rfl (Nat.le_of_ble_eq_true rfl) ⟨Nat.le_refl _, Nat.le_refl _⟩ ?_
  refine xj_if_eq C a_G_answer_4 rfl (fun h4 => ?_) (fun h4 => ?_)
  · rw [xp_at_d 2 (by decide), xp_b0] at h4
    rw [if_neg (by rw [h4]; decide)]
    refine xj_iconst (v := -1) C a_G_answer_19 (by decide) ?_
    refine xj_iret C a_G_answer_20 ?_
    exact ⟨rfl, rfl⟩
  · rw [xp_at_d 2 (by decide), xp_b0] at h4
    have h4 : (xp_at 2 k).isSome = true := by rw [← Bool.not_eq_false]; exact h4
    rw [if_pos h4]
    obtain ⟨q, hq, rfl, hq2⟩ := xp_isS (by decide) h4
    rw [hq2]
    refine xj_aload_n C a_G_answer_7 rfl ?_
    refine xn_g_G_clients C a_G_answer_8 fl_G_24 ?_
    refine xj_iload_n C a_G_answer_11 rfl ?_
    refine xn_ld_9 C a_G_answer_12 (by first | assumption | omega) ?_
    refine xn_g_C_latestAnswer C a_G_answer_13 fl_G_157 (by first | assumption | omega) ?_
    refine xj_topi (hT.2.2.2.1 q hq).2.2.2.1 ?_
    refine xj_goto C a_G_answer_16 rfl ?_
    refine xj_iret C a_G_answer_20 ?_
    exact ⟨rfl, rfl⟩
theorem pg_win_i {R : pg_R} {x : Int32} (hN : pg_num R) (h : pg_win R x.toInt64 = true) : ∃ n, x = nI n ∧ pg_h R < n ∧ n ≤ pg_h R + 4 ∧ xp_un x = n := by
  have hh := hN.2.2.1
  obtain ⟨n, h1, h2, h3⟩ := pg_win_n hN h
  have : x = nI n := by
    rw [← nI_l (show n < 2 ^ 31 by omega)] at h1
    exact xp_toL h1
  exact ⟨n, this, h2, h3, by rw [this]; exact xp_un_n (by omega)⟩
theorem c_G_ordered (l : Launch) (G : xj_G) (v : xn_V) (T : pg_T) (hT : xc_T T v) (h0 : pg_g0 T) (r n : Int32) : xn_M l G 1 22 m_G_ordered [.ref (xj_ad G (0, 0, 0)), .int r, .int n] v (some (.int (pg_ordered T r n))) v := by
  refine xn_M_of (by decide) (Nat.le_of_ble_eq_true rfl) (fun E hE C => ?_)
  subst hE
  replace C : xj_C E G prog_1_method_17_code "ThreePhaseGroup" 4 1 22 0 0 (some .int) := C
  show xn_X E G _ 0 0 0 [some (.ref (xj_ad G (0, 0, 0))), some (.int r), some (.int n), none] [] v
  have bad : ¬ ((xp_at 4 r).isSome = true ∧ pg_win (T.2.1 (xp_un r)) n.toInt64 = true) → xn_X E G (xj_R E G (fun a' w' => a' = some (.int (pg_ordered T r n)) ∧ w' = xn_W v) 0 0) 0 0 21 [some (.ref (xj_ad G (0, 0, 0))), some (.int r), some (.int n), none] [] v := by
    intro h
    refine xj_bipush (v := -2) C a_G_ordered_21 (by decide) ?_
    refine xj_iret C a_G_ordered_23 ?_
    refine ⟨?_, rfl⟩
    unfold pg_ordered
    rw [if_neg h]
  refine xj_iload_n C a_G_ordered_0 rfl ?_
  refine xn_callS1i C a_G_ordered_1 (c_G_isReplica _ _ v r) ms_G_isReplica lk_G_72 ⟨by decide, by decide⟩ rfl (Nat.le_of_ble_eq_true rfl) ⟨Nat.le_refl _, Nat.le_refl _⟩ ?_
  refine xj_if_eq C a_G_ordered_4 rfl (fun h4 => ?_) (fun h4 => ?_)
  · rw [xp_at_d 4 (by decide), xp_b0] at h4
    exact bad (by rw [h4]; simp)
  · rw [xp_at_d 4 (by decide), xp_b0] at h4
    have h4 : (xp_at 4 r).isSome = true := by rw [← Bool.not_eq_false]; exact h4
    obtain ⟨q, hq, rfl, hq2⟩ := xp_isS (by decide) h4
    have hR := hT.2.2.1 q hq
    have hN : pg_num (T.2.1 q) := (h0.1 q hq).2
    refine xj_aload_n C a_G_ordered_7 rfl ?_
    refine xn_g_G_replicas C a_G_ordered_8 fl_G_18 ?_
    refine xj_iload_n C a_G_ordered_11 rfl ?_
    refine xn_ld_8 C a_G_ordered_12 (by first | assumption | omega) ?_
    refine xj_iload_n C a_G_ordered_13 rfl ?_
    refine xj_i2l C a_G_ordered_14 ?_
    refine xn_callV1i C a_G_ordered_15 (c_R_inWindow _ _ v q hq (T.2.1 q) hR.1 hN n.toInt64) mv_R_inWindow lk_G_133 ⟨rfl, rfl, rfl⟩ (xj_ok11 (by first | assumption | omega)) ⟨by decide, by decide⟩ rfl (Nat.le_of_ble_eq_true rfl) ⟨Nat.le_refl _, Nat.le_refl _⟩ ?_
    refine xj_if_ne C a_G_ordered_18 rfl (fun h18 => ?_) (fun h18 => ?_)
    · rw [xp_b0] at h18
      have h18 : pg_win (T.2.1 q) n.toInt64 = true := by rw [← Bool.not_eq_false]; exact h18
      obtain ⟨m, rfl, m1, m2, m3⟩ := pg_win_i hN h18
      have hh := hN.2.2.1
      have hac := hN.2.2.2.2.2.2.2 m
      have hl : (nI m).toInt64 = lN m := nI_l (by omega)
      have h44 : m % 4 < 4 := Nat.mod_lt _ (by decide)
      obtain ⟨a1, a2, a3, a4⟩ := hR.S (n := m) m1 m2
      have e : pg_ordered T (nI q) (nI m) = if pg_de (T.2.1 q) m = 0 then nI (pg_ac (T.2.1 q) m) - 2 else nI (pg_de (T.2.1 q) m) - 2 := by
        unfold pg_ordered
        rw [if_pos ⟨h4, by rw [hq2]; exact h18⟩, hq2, m3]
      rw [e]
      refine xj_aload_n C a_G_ordered_24 rfl ?_
      refine xn_g_G_replicas C a_G_ordered_25 fl_G_18 ?_
      refine xj_iload_n C a_G_ordered_28 rfl ?_
      refine xn_ld_8 C a_G_ordered_29 (by first | assumption | omega) ?_
      refine xj_iload_n C a_G_ordered_30 rfl ?_
      refine xj_i2l C a_G_ordered_31 ?_
      refine xj_topl hl ?_
      refine xn_callV1r C a_G_ordered_32 (c_R_slotAt _ _ v q m hq (by omega)) mv_R_slotAt lk_G_137 ⟨rfl, rfl, rfl⟩ (xj_ok11 (by first | assumption | omega)) ⟨by decide, by decide⟩ rfl (Nat.le_of_ble_eq_true rfl) ⟨Nat.le_refl _, Nat.le_refl _⟩ ?_
      refine xj_astore3 C a_G_ordered_35 rfl ?_
      refine xj_aload_n C a_G_ordered_36 rfl ?_
      refine xn_g_S_decided C a_G_ordered_37 fl_G_147 (by first | assumption | omega) (by first | assumption | omega) ?_
      refine xj_topi a2 ?_
      refine xj_bipush (v := -2) C a_G_ordered_40 (by decide) ?_
      refine xj_icmp_eq C a_G_ordered_42 rfl (fun h42 => ?_) (fun h42 => ?_)
      · have h42 : nI (pg_de (T.2.1 q) m) - 2 = -2 := h42
        rw [xp_acc (by omega)] at h42
        rw [if_pos h42]
        refine xj_aload_n C a_G_ordered_52 rfl ?_
        refine xn_g_S_accepted C a_G_ordered_53 fl_G_150 (by first | assumption | omega) (by first | assumption | omega) ?_
        refine xj_topi a1 ?_
        refine xj_iret C a_G_ordered_56 ?_
        exact ⟨rfl, rfl⟩
      · have h42 : ¬ nI (pg_de (T.2.1 q) m) - 2 = -2 := h42
        rw [xp_acc (by omega)] at h42
        rw [if_neg h42]
        refine xj_aload_n C a_G_ordered_45 rfl ?_
        refine xn_g_S_decided C a_G_ordered_46 fl_G_147 (by first | assumption | omega) (by first | assumption | omega) ?_
        refine xj_topi a2 ?_
        refine xj_goto C a_G_ordered_49 rfl ?_
        refine xj_iret C a_G_ordered_56 ?_
        exact ⟨rfl, rfl⟩
    · rw [xp_b0] at h18
      have h18 : pg_win (T.2.1 q) n.toInt64 = false := by simpa using h18
      exact bad (by rw [hq2, h18]; simp)
theorem xp_sm_eq {r : Nat} {S : pg_S} {n : Nat} {v : xn_V} (hS : xc_S r S n v) (hr : r < 4) (hN : pg_num S.2) (hO : pg_ow r S) (hU : pg_nu S) : xn_sm v r (n % 4) r = nI (pg_slotv S r n) := by
  obtain ⟨a1, a2, a3, a4⟩ := hS
  obtain ⟨n1, n2, n3⟩ := hN.2.2.2.2.2.2.2 n
  have hse := pg_sent_nv (k := 3) (n := n) hO (by decide)
  unfold xn_sm pg_slotv
  dsimp only
  rw [a1, a2, a3, (a4 r hr).2]
  simp only [xp_acc (show pg_ac S.2 n < 2 ^ 30 by omega), xp_acc (show pg_de S.2 n < 2 ^ 30 by omega)]
  have hn0 : (nI 0 - 2 : Int32) = -2 := by decide
  by_cases h0 : pg_ac S.2 n = 0
  · have e1 : xn_cp v r (n % 4) = 0 := by
      unfold xn_cp
      rw [xp_c4, a1, h0]
      simp [hn0]
    have e2 : xn_cc v r (n % 4) = 0 := by
      unfold xn_cc
      rw [xp_c4, a1, h0]
      simp [hn0]
    simp only [if_pos h0]
    rw [e1, e2, pk_mul, pk_mul, pk_mul, nI_add, nI_add]
    by_cases h1 : pg_de S.2 n = 0
    · simp only [if_pos h1]
      congr 1
      all_goals omega
    · simp only [if_neg h1]
      show nI _ + nI 4 = _
      rw [nI_add]
      congr 1
      omega
  · simp only [if_neg h0]
    rw [xn_cp_hr ⟨a1, a2, a3, a4⟩ hU h0 n1, xn_cc_hr ⟨a1, a2, a3, a4⟩ hU h0 n1, pk_mul, pk_mul, pk_mul, nI_add, nI_add]
    have e3 : (if pg_nv S 3 n r = 1099511627776 then nI 1 else nI 3) = nI (1 + (if pg_sent S.1 r 3 (pg_vw S.2) n = true then 2 else 0)) := by
      by_cases h2 : pg_sent S.1 r 3 (pg_vw S.2) n = true
      · rw [if_pos h2, if_neg (by rw [hse, h2]; decide)]
      · rw [if_neg h2, if_pos (by rw [hse]; simpa using h2)]
    rw [e3, nI_add]
    by_cases h1 : pg_de S.2 n = 0
    · simp only [if_pos h1]
      congr 1
      omega
    · simp only [if_neg h1]
      show nI _ + nI 4 = _
      rw [nI_add]
      congr 1
      omega
theorem c_G_slot (l : Launch) (G : xj_G) (v : xn_V) (T : pg_T) (hT : xc_T T v) (h0 : pg_g0 T) (hOU : ∀ r, r < 4 → pg_ow r (pg_sR T r) ∧ pg_nu (pg_sR T r)) (r n : Int32) : xn_M l G 3 65 m_G_slot [.ref (xj_ad G (0, 0, 0)), .int r, .int n] v (some (.int (pg_slot T r n))) v := by
  refine xn_M_of (by decide) (Nat.le_of_ble_eq_true rfl) (fun E hE C => ?_)
  subst hE
  replace C : xj_C E G prog_1_method_16_code "ThreePhaseGroup" 3 3 65 0 0 (some .int) := C
  show xn_X E G _ 0 0 0 [some (.ref (xj_ad G (0, 0, 0))), some (.int r), some (.int n)] [] v
  have bad : ¬ ((xp_at 4 r).isSome = true ∧ pg_win (T.2.1 (xp_un r)) n.toInt64 = true) → xn_X E G (xj_R E G (fun a' w' => a' = some (.int (pg_slot T r n)) ∧ w' = xn_W v) 0 0) 0 0 21 [some (.ref (xj_ad G (0, 0, 0))), some (.int r), some (.int n)] [] v := by
    intro h
    refine xj_iconst (v := -1) C a_G_slot_21 (by decide) ?_
    refine xj_iret C a_G_slot_22 ?_
    refine ⟨?_, rfl⟩
    unfold pg_slot
    rw [if_neg h]
  refine xj_iload_n C a_G_slot_0 rfl ?_
  refine xn_callS1i C a_G_slot_1 (c_G_isReplica _ _ v r) ms_G_isReplica lk_G_72 ⟨by decide, by decide⟩ rfl (Nat.le_of_ble_eq_true rfl) ⟨Nat.le_refl _, Nat.le_refl _⟩ ?_
  refine xj_if_eq C a_G_slot_4 rfl (fun h4 => ?_) (fun h4 => ?_)
  · rw [xp_at_d 4 (by decide), xp_b0] at h4
    exact bad (by rw [h4]; simp)
  · rw [xp_at_d 4 (by decide), xp_b0] at h4
    have h4 : (xp_at 4 r).isSome = true := by rw [← Bool.not_eq_false]; exact h4
    obtain ⟨q, hq, rfl, hq2⟩ := xp_isS (by decide) h4
    have hR := hT.2.2.1 q hq
    have hN : pg_num (T.2.1 q) := (h0.1 q hq).2
    refine xj_aload_n C a_G_slot_7 rfl ?_
    refine xn_g_G_replicas C a_G_slot_8 fl_G_18 ?_
    refine xj_iload_n C a_G_slot_11 rfl ?_
    refine xn_ld_8 C a_G_slot_12 (by first | assumption | omega) ?_
    refine xj_iload_n C a_G_slot_13 rfl ?_
    refine xj_i2l C a_G_slot_14 ?_
    refine xn_callV1i C a_G_slot_15 (c_R_inWindow _ _ v q hq (T.2.1 q) hR.1 hN n.toInt64) mv_R_inWindow lk_G_133 ⟨rfl, rfl, rfl⟩ (xj_ok11 (by first | assumption | omega)) ⟨by decide, by decide⟩ rfl (Nat.le_of_ble_eq_true rfl) ⟨Nat.le_refl _, Nat.le_refl _⟩ ?_
    refine xj_if_ne C a_G_slot_18 rfl (fun h18 => ?_) (fun h18 => ?_)
    · rw [xp_b0] at h18
      have h18 : pg_win (T.2.1 q) n.toInt64 = true := by rw [← Bool.not_eq_false]; exact h18
      obtain ⟨m, rfl, m1, m2, m3⟩ := pg_win_i hN h18
      have hh := hN.2.2.1
      have hl : (nI m).toInt64 = lN m := nI_l (by omega)
      have h44 : m % 4 < 4 := Nat.mod_lt _ (by decide)
      have e : pg_slot T (nI q) (nI m) = nI (pg_slotv (pg_sR T q) q m) := by
        unfold pg_slot
        rw [if_pos ⟨h4, by rw [hq2]; exact h18⟩, hq2, m3]
      rw [e]
      refine xj_aload_n C a_G_slot_23 rfl ?_
      refine xn_g_G_replicas C a_G_slot_24 fl_G_18 ?_
      refine xj_iload_n C a_G_slot_27 rfl ?_
      refine xn_ld_8 C a_G_slot_28 (by first | assumption | omega) ?_
      refine xj_iload_n C a_G_slot_29 rfl ?_
      refine xj_i2l C a_G_slot_30 ?_
      refine xj_topl hl ?_
      refine xn_callV1r C a_G_slot_31 (c_R_slotAt _ _ v q m hq (by omega)) mv_R_slotAt lk_G_137 ⟨rfl, rfl, rfl⟩ (xj_ok11 (by first | assumption | omega)) ⟨by decide, by decide⟩ rfl (Nat.le_of_ble_eq_true rfl) ⟨Nat.le_refl _, Nat.le_refl _⟩ ?_
      refine xj_iload_n C a_G_slot_34 rfl ?_
      refine xn_callV1i C a_G_slot_35 (c_S_summary _ _ v q (m % 4) q hq h44 hq) mv_S_summary lk_G_141 ⟨rfl, rfl, rfl⟩ (xj_ok13 (by first | assumption | omega) (by first | assumption | omega)) ⟨by decide, by decide⟩ rfl (Nat.le_of_ble_eq_true rfl) ⟨Nat.le_refl _, Nat.le_refl _⟩ ?_
      refine xj_iret C a_G_slot_38 ?_
      exact ⟨by rw [xp_sm_eq (hR.S m1 m2) hq hN (hOU q hq).1 (hOU q hq).2], rfl⟩
    · rw [xp_b0] at h18
      have h18 : pg_win (T.2.1 q) n.toInt64 = false := by simpa using h18
      exact bad (by rw [hq2, h18]; simp)
theorem c_G_look (l : Launch) (G : xj_G) (v : xn_V) (T : pg_T) (hT : xc_T T v) (m k : Int32) : xn_M l G 1 21 m_G_look [.ref (xj_ad G (0, 0, 0)), .int m, .int k] v (some (.long (pg_look T m k))) v := by
  have hz := hT.1.2.1
  refine xn_M_of (by decide) (Nat.le_of_ble_eq_true rfl) (fun E hE C => ?_)
  subst hE
  replace C : xj_C E G prog_1_method_10_code "ThreePhaseGroup" 3 1 21 0 0 (some .long) := C
  show xn_X E G _ 0 0 0 [some (.ref (xj_ad G (0, 0, 0))), some (.int m), some (.int k)] [] v
  refine xj_aload_n C a_G_look_0 rfl ?_
  refine xn_g_G_board C a_G_look_1 fl_G_12 ?_
  refine xj_iload_n C a_G_look_4 rfl ?_
  refine xn_callV1i C a_G_look_5 (c_B_has _ _ v m) mv_B_has lk_G_62 ⟨rfl, rfl, rfl⟩ xj_ok1 ⟨by decide, by decide⟩ rfl (Nat.le_of_ble_eq_true rfl) ⟨Nat.le_refl _, Nat.le_refl _⟩ ?_
  refine xj_if_ne C a_G_look_8 rfl (fun h8 => ?_) (fun h8 => ?_)
  · rw [xp_has hT, xp_b0] at h8
    have h8 : (xp_at T.1.1 m).isSome = true := by rw [← Bool.not_eq_false]; exact h8
    obtain ⟨i, hm, rfl, hi2⟩ := xp_isS (by omega) h8
    refine xj_iload_n C a_G_look_15 rfl ?_
    rcases xp_at_or 6 (by decide) k with ⟨hn, hk⟩ | ⟨q, hq, rfl, hs⟩
    · refine xj_tableOut (tgt := 128) C a_G_look_16 ?_ rfl ?_
      · rcases hk with h | h
        · left
          have := Int32.lt_iff_toInt_lt.mp h
          have h0 : (0 : Int32).toInt = 0 := by decide
          omega
        · right
          have := Int32.le_iff_toInt_le.mp h
          have h0 : (nI 6).toInt = 6 := by decide
          omega
      · refine xj_ldc2 C a_G_look_128 kl_G_94 ?_
        refine xj_lret C a_G_look_131 ?_
        refine ⟨?_, rfl⟩
        unfold pg_look
        rw [if_neg (by rw [hn]; simp)]
    · have e : pg_look T (nI i) (nI q) = if q = 0 then (nI (pg_k T.1 i)).toInt64 else if q = 1 then (nI (pg_f T.1 i)).toInt64 else if q = 2 then (pg_a T.1 i).toInt64 else if q = 3 then pg_b T.1 i else if q = 4 then (pg_c T.1 i).toInt64 else if pg_gc T.1 i || pg_gn T.1 i then 1 else 0 := by
        unfold pg_look
        rw [if_pos ⟨h8, by rw [hs]; rfl⟩, hi2, xp_un_n (by omega)]
      rw [e]
      have sw : ∀ (off tgt : Nat), (#[(40 : Int), 51, 62, 73, 83, 94])[q]? = some (off : Int) → 16 + off = tgt → ∀ Q, xn_X E G Q 0 0 tgt [some (.ref (xj_ad G (0, 0, 0))), some (.int (nI i)), some (.int (nI q))] [] v → xn_X E G Q 0 0 16 [some (.ref (xj_ad G (0, 0, 0))), some (.int (nI i)), some (.int (nI q))] [.int (nI q)] v := by
        intro off tgt ho ht Q kk
        have ti : (nI q).toInt = (q : Int) := nI_toInt (by omega)
        refine xj_tableIn C a_G_look_16 (by rw [ti]; omega) (by rw [ti]; omega) (off := (off : Int)) ?_ ?_ kk
        · rw [ti]
          have : ((q : Int) - 0).toNat = q := by omega
          rw [this]
          exact ho
        · omega
      rcases (show q = 0 ∨ q = 1 ∨ q = 2 ∨ q = 3 ∨ q = 4 ∨ q = 5 by omega) with rfl | rfl | rfl | rfl | rfl | rfl
      · refine sw 40 56 rfl rfl _ ?_
        refine xj_aload_n C a_G_look_56 rfl ?_
        refine xn_g_G_board C a_G_look_57 fl_G_12 ?_
        refine xn_g_B_kind C a_G_look_60 fl_G_96 ?_
        refine xj_iload_n C a_G_look_63 rfl ?_
        refine xn_ld_2 C a_G_look_64 (by first | assumption | omega) ?_
        refine xj_topi (hT.1.k hm) ?_
        refine xj_i2l C a_G_look_65 ?_
        refine xj_lret C a_G_look_66 ?_
        exact ⟨rfl, rfl⟩
      · refine sw 51 67 rfl rfl _ ?_
        refine xj_aload_n C a_G_look_67 rfl ?_
        refine xn_g_G_board C a_G_look_68 fl_G_12 ?_
        refine xn_g_B_sender C a_G_look_71 fl_G_99 ?_
        refine xj_iload_n C a_G_look_74 rfl ?_
        refine xn_ld_3 C a_G_look_75 (by first | assumption | omega) ?_
        refine xj_topi (hT.1.f hm) ?_
        refine xj_i2l C a_G_look_76 ?_
        refine xj_lret C a_G_look_77 ?_
        exact ⟨rfl, rfl⟩
      · refine sw 62 78 rfl rfl _ ?_
        refine xj_aload_n C a_G_look_78 rfl ?_
        refine xn_g_G_board C a_G_look_79 fl_G_12 ?_
        refine xn_g_B_a C a_G_look_82 fl_G_102 ?_
        refine xj_iload_n C a_G_look_85 rfl ?_
        refine xn_ld_4 C a_G_look_86 (by first | assumption | omega) ?_
        refine xj_topi (hT.1.a hm) ?_
        refine xj_i2l C a_G_look_87 ?_
        refine xj_lret C a_G_look_88 ?_
        exact ⟨rfl, rfl⟩
      · refine sw 73 89 rfl rfl _ ?_
        refine xj_aload_n C a_G_look_89 rfl ?_
        refine xn_g_G_board C a_G_look_90 fl_G_12 ?_
        refine xn_g_B_b C a_G_look_93 fl_G_105 ?_
        refine xj_iload_n C a_G_look_96 rfl ?_
        refine xn_ld_5 C a_G_look_97 (by first | assumption | omega) ?_
        refine xj_topl (hT.1.b hm) ?_
        refine xj_lret C a_G_look_98 ?_
        exact ⟨rfl, rfl⟩
      · refine sw 83 99 rfl rfl _ ?_
        refine xj_aload_n C a_G_look_99 rfl ?_
        refine xn_g_G_board C a_G_look_100 fl_G_12 ?_
        refine xn_g_B_c C a_G_look_103 fl_G_109 ?_
        refine xj_iload_n C a_G_look_106 rfl ?_
        refine xn_ld_6 C a_G_look_107 (by first | assumption | omega) ?_
        refine xj_topi (hT.1.c hm) ?_
        refine xj_i2l C a_G_look_108 ?_
        refine xj_lret C a_G_look_109 ?_
        exact ⟨rfl, rfl⟩
      · refine sw 94 110 rfl rfl _ ?_
        refine xj_aload_n C a_G_look_110 rfl ?_
        refine xn_g_G_board C a_G_look_111 fl_G_12 ?_
        refine xn_g_B_valid C a_G_look_114 fl_G_112 ?_
        refine xj_iload_n C a_G_look_117 rfl ?_
        refine xn_ld_7 C a_G_look_118 (by first | assumption | omega) ?_
        refine xj_topi (hT.val hm) ?_
        refine xj_if_eq C a_G_look_119 rfl (fun h119 => ?_) (fun h119 => ?_)
        · rw [xp_b0] at h119
          refine xj_lconst (v := lN 0) C a_G_look_126 (by decide) ?_
          refine xj_lret C a_G_look_127 ?_
          refine ⟨?_, rfl⟩
          rw [if_neg (by decide), if_neg (by decide), if_neg (by decide), if_neg (by decide), if_neg (by decide), h119]
          rfl
        · rw [xp_b0] at h119
          refine xj_lconst (v := lN 1) C a_G_look_122 (by decide) ?_
          refine xj_goto C a_G_look_123 rfl ?_
          refine xj_lret C a_G_look_127 ?_
          refine ⟨?_, rfl⟩
          have h119 : (pg_gc T.1 i || pg_gn T.1 i) = true := by rw [← Bool.not_eq_false]; exact h119
          rw [if_neg (by decide), if_neg (by decide), if_neg (by decide), if_neg (by decide), if_neg (by decide), if_pos h119]
          rfl
  · rw [xp_has hT, xp_b0] at h8
    have h8 : (xp_at T.1.1 m).isSome = false := by simpa using h8
    refine xj_ldc2 C a_G_look_11 kl_G_94 ?_
    refine xj_lret C a_G_look_14 ?_
    refine ⟨?_, rfl⟩
    unfold pg_look
    rw [if_neg (by rw [h8]; simp)]
