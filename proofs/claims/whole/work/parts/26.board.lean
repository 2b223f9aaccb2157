/-! claims, votes, orders -/
theorem c_B_voteOf (l : Launch) (G : xj_G) (v : xn_V) (y : Int64) (k : Nat) (hk : k < 3) : xn_M l G 0 0 m_B_voteOf [.int y.toInt32, .int (nI k)] v (some (.int (nI (pg_vt y k)))) v := by
  refine xn_M_of (by decide) (Nat.le_of_ble_eq_true rfl) (fun E hE C => ?_)
  subst hE
  replace C : xj_C E G prog_2_method_14_code "ThreePhaseGroup$Board" 2 0 0 0 0 (some .int) := C
  show xn_X E G _ 0 0 0 [some (.int y.toInt32), some (.int (nI k))] [] v
  refine xj_iload_n C a_B_voteOf_0 rfl ?_
  refine xj_bipush (v := nI 8) C a_B_voteOf_1 (by decide) ?_
  refine xj_iload_n C a_B_voteOf_3 rfl ?_
  refine xj_imul C a_B_voteOf_4 ?_
  refine xj_topi (pk_mul 8 k) ?_
  refine xj_iushr C a_B_voteOf_5 ?_
  refine xj_sipush (v := nI 255) C a_B_voteOf_6 (by decide) ?_
  refine xj_iand C a_B_voteOf_9 ?_
  refine xj_iret C a_B_voteOf_10 ?_
  refine ⟨?_, rfl⟩
  rw [show nI 255 = nI (2 ^ 8 - 1) from rfl, xb_iush _ (by omega) (by omega)]
  congr 3
  unfold pg_vt
  obtain ⟨m, hm, rfl⟩ := wb_of y
  rw [lN_i, xb_tn, wb_tn hm]
  rcases (show k = 0 ∨ k = 1 ∨ k = 2 by omega) with rfl | rfl | rfl <;> omega
theorem c_B_claimFor (l : Launch) (G : xj_G) (v : xn_V) (B : pg_B) (hB : xc_B B v) (x n p : Nat) (hx : x < B.1) (hp : pg_b B x = lN p) (hp2 : p < 1000) (hn : n < 1000) (hn0 : 0 < n) : xn_M l G 0 0 m_B_claimFor [.ref (xj_ad G (1, 0, 0)), .int (nI x), .int (nI n)] v (some (.int (nI (pg_cm B x n)))) v := by
  have hz := hB.2.1
  have hnb : pg_nb B x = p := by unfold pg_nb; rw [hp, pk_lT (by omega)]; rfl
  refine xn_M_of (by decide) (Nat.le_of_ble_eq_true rfl) (fun E hE C => ?_)
  subst hE
  replace C : xj_C E G prog_2_method_15_code "ThreePhaseGroup$Board" 4 0 0 0 0 (some .int) := C
  show xn_X E G _ 0 0 0 [some (.ref (xj_ad G (1, 0, 0))), some (.int (nI x)), some (.int (nI n)), none] [] v
  refine xj_iload_n C a_B_claimFor_0 rfl ?_
  refine xj_iconst (v := nI 1) C a_B_claimFor_1 (by decide) ?_
  refine xj_isub C a_B_claimFor_2 ?_
  refine xj_aload_n C a_B_claimFor_3 rfl ?_
  refine xn_g_B_b C a_B_claimFor_4 fl_B_21 ?_
  refine xj_iload_n C a_B_claimFor_7 rfl ?_
  refine xn_ld_5 C a_B_claimFor_8 (by first | assumption | omega) ?_
  refine xj_topl (hB.b (by omega)) ?_
  refine xj_topl hp ?_
  refine xj_l2i C a_B_claimFor_9 ?_
  refine xj_topi (lN_i p) ?_
  refine xj_isub C a_B_claimFor_10 ?_
  refine xj_topi (y := nI (n - 1) - nI p) (by rw [pk_sub (by omega)]) ?_
  refine xj_istore3 C a_B_claimFor_11 rfl ?_
  refine xj_iload_n C a_B_claimFor_12 rfl ?_
  refine xj_if_lt C a_B_claimFor_13 rfl (fun h13 => ?_) (fun h13 => ?_)
  · refine xj_iconst (v := nI 0) C a_B_claimFor_37 (by decide) ?_
    refine xj_iret C a_B_claimFor_38 ?_
    refine ⟨?_, rfl⟩
    have : ¬ (p < n) := by
      intro e
      have : nI (n - 1) - nI p = nI (n - 1 - p) := pk_sub (by omega)
      rw [this] at h13
      exact nI_pos (by omega) h13
    unfold pg_cm
    rw [hnb, if_neg (by omega)]
  · have hpn : p < n := by
      apply Classical.byContradiction
      intro e
      exact h13 (pk_sneg (by omega) (by omega))
    have e1 : nI (n - 1) - nI p = nI (n - 1 - p) := pk_sub (by omega)
    rw [e1]
    refine xj_iload_n C a_B_claimFor_16 rfl ?_
    refine xj_iconst (v := nI 4) C a_B_claimFor_17 (by decide) ?_
    refine xj_icmp_ge C a_B_claimFor_18 rfl (fun h18 => ?_) (fun h18 => ?_)
    · rw [nI_leI (by omega) (by omega)] at h18
      refine xj_iconst (v := nI 0) C a_B_claimFor_37 (by decide) ?_
      refine xj_iret C a_B_claimFor_38 ?_
      refine ⟨?_, rfl⟩
      unfold pg_cm
      rw [hnb, if_neg (by omega)]
    · rw [nI_leI (by omega) (by omega)] at h18
      refine xj_aload_n C a_B_claimFor_21 rfl ?_
      refine xn_g_B_c C a_B_claimFor_22 fl_B_25 ?_
      refine xj_iload_n C a_B_claimFor_25 rfl ?_
      refine xn_ld_6 C a_B_claimFor_26 (by first | assumption | omega) ?_
      refine xj_topi (hB.c (by omega)) ?_
      refine xj_iconst (v := nI 5) C a_B_claimFor_27 (by decide) ?_
      refine xj_iload_n C a_B_claimFor_28 rfl ?_
      refine xj_imul C a_B_claimFor_29 ?_
      refine xj_topi (pk_mul 5 _) ?_
      refine xj_iushr C a_B_claimFor_30 ?_
      refine xj_bipush (v := nI 31) C a_B_claimFor_31 (by decide) ?_
      refine xj_iand C a_B_claimFor_33 ?_
      refine xj_goto C a_B_claimFor_34 rfl ?_
      refine xj_iret C a_B_claimFor_38 ?_
      refine ⟨?_, rfl⟩
      unfold pg_cm
      rw [hnb, if_pos (by omega), show nI 31 = nI (2 ^ 5 - 1) from rfl, xb_iush _ (by omega) (by omega)]
      rfl
theorem c_B_startOf (l : Launch) (G : xj_G) (v : xn_V) (B : pg_B) (hB : xc_B B v) (y : Int64) (hy : ∀ k, k < 3 → pg_vt y k < B.1 ∧ ∃ p, p < 1000 ∧ pg_b B (pg_vt y k) = lN p) : xn_M l G 1 21 m_B_startOf [.ref (xj_ad G (1, 0, 0)), .int y.toInt32] v (some (.int (nI (pg_st B y)))) v := by
  have hz := hB.2.1
  have hnb : ∀ k, k < 3 → pg_nb B (pg_vt y k) < 1000 ∧ pg_b B (pg_vt y k) = lN (pg_nb B (pg_vt y k)) := by
    intro k hk
    obtain ⟨-, p, hp, e⟩ := hy k hk
    have : pg_nb B (pg_vt y k) = p := by unfold pg_nb; rw [e, pk_lT (by omega)]; rfl
    rw [this]
    exact ⟨hp, e⟩
  have h0 := hnb 0 (by omega)
  have h1 := hnb 1 (by omega)
  have h2 := hnb 2 (by omega)
  refine xn_M_of (by decide) (Nat.le_of_ble_eq_true rfl) (fun E hE C => ?_)
  subst hE
  replace C : xj_C E G prog_2_method_16_code "ThreePhaseGroup$Board" 4 1 21 0 0 (some .int) := C
  show xn_X E G _ 0 0 0 [some (.ref (xj_ad G (1, 0, 0))), some (.int y.toInt32), none, none] [] v
  refine xj_iconst (v := nI 0) C a_B_startOf_0 (by decide) ?_
  refine xj_istore2 C a_B_startOf_1 rfl ?_
  refine xj_iconst (v := nI 0) C a_B_startOf_2 (by decide) ?_
  refine xj_istore3 C a_B_startOf_3 rfl ?_
  have body : ∀ (k s : Nat), k < 3 → s < 1000 → xn_X E G (xj_R E G (fun a' w' => a' = some (.int (nI (pg_st B y))) ∧ w' = xn_W v) 0 0) 0 0 4 [some (.ref (xj_ad G (1, 0, 0))), some (.int y.toInt32), some (.int (nI (max s (pg_nb B (pg_vt y k))))), some (.int (nI (k + 1)))] [] v → xn_X E G (xj_R E G (fun a' w' => a' = some (.int (nI (pg_st B y))) ∧ w' = xn_W v) 0 0) 0 0 4 [some (.ref (xj_ad G (1, 0, 0))), some (.int y.toInt32), some (.int (nI s)), some (.int (nI k))] [] v := by
    intro k s hk hs kk
    have hv := (hy k hk).1
    have hq := hnb k hk
    refine xj_iload_n C a_B_startOf_4 rfl ?_
    refine xj_iconst (v := nI 3) C a_B_startOf_5 (by decide) ?_
    refine xj_icmp_ge C a_B_startOf_6 rfl (fun h6 => ?_) (fun h6 => ?_)
    · rw [nI_leI (by omega) (by omega)] at h6
      omega
    · refine xj_iload_n C a_B_startOf_9 rfl ?_
      refine xj_aload_n C a_B_startOf_10 rfl ?_
      refine xn_g_B_b C a_B_startOf_11 fl_B_21 ?_
      refine xj_iload_n C a_B_startOf_14 rfl ?_
      refine xj_iload_n C a_B_startOf_15 rfl ?_
      refine xn_callS2i C a_B_startOf_16 (c_B_voteOf _ _ v y k hk) ms_B_voteOf lk_B_61 ⟨by decide, by decide⟩ rfl (Nat.le_of_ble_eq_true rfl) ⟨Nat.le_refl _, Nat.le_refl _⟩ ?_
      refine xn_ld_5 C a_B_startOf_19 (by first | assumption | omega) ?_
      refine xj_topl (hB.b (by omega)) ?_
      refine xj_topl hq.2 ?_
      refine xj_l2i C a_B_startOf_20 ?_
      refine xj_topi (lN_i _) ?_
      refine xn_callS2i C a_B_startOf_21 (c_JM_max _ _ v _ _ (by omega) (by omega)) ms_JM_max lk_B_83 ⟨by decide, by decide⟩ rfl (Nat.le_of_ble_eq_true rfl) ⟨Nat.le_refl _, Nat.le_refl _⟩ ?_
      refine xj_istore2 C a_B_startOf_24 rfl ?_
      refine xj_iincN3 C a_B_startOf_25 rfl ?_
      refine xj_goto C a_B_startOf_28 rfl ?_
      exact kk
  refine body 0 0 (by omega) (by omega) (body 1 _ (by omega) (by omega) (body 2 _ (by omega) (by omega) ?_))
  refine xj_iload_n C a_B_startOf_4 rfl ?_
  refine xj_iconst (v := nI 3) C a_B_startOf_5 (by decide) ?_
  refine xj_icmp_ge C a_B_startOf_6 rfl (fun h6 => ?_) (fun h6 => ?_)
  · refine xj_iload_n C a_B_startOf_31 rfl ?_
    refine xj_iret C a_B_startOf_32 ?_
    exact ⟨by unfold pg_st; rw [Nat.zero_max], rfl⟩
  · exact absurd (Int32.le_refl _) h6
theorem c_B_greatestClaimant (l : Launch) (G : xj_G) (v : xn_V) (B : pg_B) (hB : xc_B B v) (y : Int64) (n : Nat) (hn : n < 1000) (hn0 : 0 < n) (hy : ∀ k, k < 3 → pg_vt y k < B.1 ∧ ∃ p, p < 1000 ∧ pg_b B (pg_vt y k) = lN p) : xn_M l G 1 23 m_B_greatestClaimant [.ref (xj_ad G (1, 0, 0)), .int y.toInt32, .int (nI n)] v (some (.int (if 0 < (pg_tp B y n 3).1 then nI (pg_tp B y n 3).2 else -2))) v := by
  have hz := hB.2.1
  have hcm : ∀ x, pg_cm B x n < 32 := by
    intro x
    unfold pg_cm
    split
    · exact Nat.mod_lt _ (by decide)
    · decide
  have htp : ∀ k, (pg_tp B y n k).1 < 32 := by
    intro k
    induction k with
    | zero => exact Nat.zero_lt_succ _
    | succ k ih =>
      unfold pg_tp
      split
      · exact hcm _
      · exact ih
  refine xn_M_of (by decide) (Nat.le_of_ble_eq_true rfl) (fun E hE C => ?_)
  subst hE
  replace C : xj_C E G prog_2_method_18_code "ThreePhaseGroup$Board" 7 1 23 0 0 (some .int) := C
  show xn_X E G _ 0 0 0 [some (.ref (xj_ad G (1, 0, 0))), some (.int y.toInt32), some (.int (nI n)), none, none, none, none] [] v
  refine xj_iconst (v := nI 0) C a_B_greatestClaimant_0 (by decide) ?_
  refine xj_istore3 C a_B_greatestClaimant_1 rfl ?_
  refine xj_bipush (v := -2) C a_B_greatestClaimant_2 (by decide) ?_
  refine xj_istore4 C a_B_greatestClaimant_4 rfl ?_
  refine xj_iconst (v := nI 0) C a_B_greatestClaimant_6 (by decide) ?_
  refine xj_istore5 C a_B_greatestClaimant_7 rfl ?_
  have body : ∀ k : Nat, k < 3 → (∀ z : Option Value, xn_X E G (xj_R E G (fun a' w' => a' = some (.int (if 0 < (pg_tp B y n 3).1 then nI (pg_tp B y n 3).2 else -2)) ∧ w' = xn_W v) 0 0) 0 0 9 [some (.ref (xj_ad G (1, 0, 0))), some (.int y.toInt32), some (.int (nI n)), some (.int (nI (pg_tp B y n (k + 1)).1)), some (.int (if 0 < (pg_tp B y n (k + 1)).1 then nI (pg_tp B y n (k + 1)).2 else -2)), some (.int (nI (k + 1))), z] [] v) → ∀ z : Option Value, xn_X E G (xj_R E G (fun a' w' => a' = some (.int (if 0 < (pg_tp B y n 3).1 then nI (pg_tp B y n 3).2 else -2)) ∧ w' = xn_W v) 0 0) 0 0 9 [some (.ref (xj_ad G (1, 0, 0))), some (.int y.toInt32), some (.int (nI n)), some (.int (nI (pg_tp B y n k).1)), some (.int (if 0 < (pg_tp B y n k).1 then nI (pg_tp B y n k).2 else -2)), some (.int (nI k)), z] [] v := by
    intro k hk kk z
    obtain ⟨hv, p, hp, he⟩ := hy k hk
    have hs : pg_tp B y n (k + 1) = if (pg_tp B y n k).1 < pg_cm B (pg_vt y k) n then (pg_cm B (pg_vt y k) n, pg_vt y k) else pg_tp B y n k := rfl
    have hc1 := hcm (pg_vt y k)
    have ht1 := htp k
    refine xj_iload C a_B_greatestClaimant_9 rfl ?_
    refine xj_iconst (v := nI 3) C a_B_greatestClaimant_11 (by decide) ?_
    refine xj_icmp_ge C a_B_greatestClaimant_12 rfl (fun h12 => ?_) (fun h12 => ?_)
    · rw [nI_leI (by omega) (by omega)] at h12
      omega
    · refine xj_iload_n C a_B_greatestClaimant_15 rfl ?_
      refine xj_iload C a_B_greatestClaimant_16 rfl ?_
      refine xn_callS2i C a_B_greatestClaimant_18 (c_B_voteOf _ _ v y k hk) ms_B_voteOf lk_B_61 ⟨by decide, by decide⟩ rfl (Nat.le_of_ble_eq_true rfl) ⟨Nat.le_refl _, Nat.le_refl _⟩ ?_
      refine xj_istore6 C a_B_greatestClaimant_21 rfl ?_
      refine xj_aload_n C a_B_greatestClaimant_23 rfl ?_
      refine xj_iload C a_B_greatestClaimant_24 rfl ?_
      refine xj_iload_n C a_B_greatestClaimant_26 rfl ?_
      refine xn_callV2i C a_B_greatestClaimant_27 (c_B_claimFor _ _ v B hB (pg_vt y k) n p hv he hp hn hn0) mv_B_claimFor lk_B_53 ⟨rfl, rfl, rfl⟩ xj_ok1 ⟨by decide, by decide⟩ rfl (Nat.le_of_ble_eq_true rfl) ⟨Nat.le_refl _, Nat.le_refl _⟩ ?_
      refine xj_iload_n C a_B_greatestClaimant_30 rfl ?_
      refine xj_icmp_le C a_B_greatestClaimant_31 rfl (fun h31 => ?_) (fun h31 => ?_)
      · rw [nI_leI (by omega) (by omega)] at h31
        rw [if_neg (by omega)] at hs
        rw [hs] at kk
        refine xj_iincN5 C a_B_greatestClaimant_46 rfl ?_
        refine xj_goto C a_B_greatestClaimant_49 rfl ?_
        exact kk _
      · rw [nI_leI (by omega) (by omega)] at h31
        rw [if_pos (by omega)] at hs
        rw [hs] at kk
        simp only [if_pos (show 0 < pg_cm B (pg_vt y k) n by omega)] at kk
        refine xj_aload_n C a_B_greatestClaimant_34 rfl ?_
        refine xj_iload C a_B_greatestClaimant_35 rfl ?_
        refine xj_iload_n C a_B_greatestClaimant_37 rfl ?_
        refine xn_callV2i C a_B_greatestClaimant_38 (c_B_claimFor _ _ v B hB (pg_vt y k) n p hv he hp hn hn0) mv_B_claimFor lk_B_53 ⟨rfl, rfl, rfl⟩ xj_ok1 ⟨by decide, by decide⟩ rfl (Nat.le_of_ble_eq_true rfl) ⟨Nat.le_refl _, Nat.le_refl _⟩ ?_
        refine xj_istore3 C a_B_greatestClaimant_41 rfl ?_
        refine xj_iload C a_B_greatestClaimant_42 rfl ?_
        refine xj_istore4 C a_B_greatestClaimant_44 rfl ?_
        refine xj_iincN5 C a_B_greatestClaimant_46 rfl ?_
        refine xj_goto C a_B_greatestClaimant_49 rfl ?_
        exact kk _
  refine body 0 (by omega) (body 1 (by omega) (body 2 (by omega) ?_)) none
  intro z
  refine xj_iload C a_B_greatestClaimant_9 rfl ?_
  refine xj_iconst (v := nI 3) C a_B_greatestClaimant_11 (by decide) ?_
  refine xj_icmp_ge C a_B_greatestClaimant_12 rfl (fun h12 => ?_) (fun h12 => ?_)
  · refine xj_iload C a_B_greatestClaimant_52 rfl ?_
    refine xj_iret C a_B_greatestClaimant_54 ?_
    exact ⟨rfl, rfl⟩
  · exact absurd (Int32.le_refl _) h12
