/-! the reference: submit, tick, corrupt, forge -/
/-- a message that no replica sends of itself -/
theorem xt_T.send {T : pg_T} {v : xn_V} (h : xt_T T v) (hz : T.1.1 < 200) {p : Nat} (hp : 4 ≤ p ∧ p < 6) (x : Int32) (y : Int64) (c : Int32) : xt_T (pg_send T.1 0 p x y c false, T.2) (xn_ts v T.1.1 p (nI 0) x y c) := by
  obtain ⟨t1, t2, t3, t4, t5⟩ := h
  obtain ⟨o1, o2⟩ := xn_ts_oth v T.1.1 p (nI 0) x y c
  refine ⟨t1.send hz 0 p x y c (by omega), fun r hr => (t2 r hr).cells (fun k h1 h2 => o1 _ _ _ _ (by omega) (by omega) (by omega)) (o2 _ _ _ _ (by omega)) (fun k q hk hq => o1 _ _ _ _ (by omega) (by omega) (by omega)), fun k hk => (t3 k hk).cells (fun K h1 h2 => o1 _ _ _ _ (by omega) (by omega) (by omega)) (fun q hq => o1 _ _ _ _ (by omega) (by omega) (by omega)), fun q hq => by rw [o1 _ _ _ _ (by omega) (by omega) (by omega)]; exact t4 q hq, by rw [o1 _ _ _ _ (by omega) (by omega) (by omega)]; exact t5⟩
theorem c_T_submit (l : Launch) (G : xj_G) (v : xn_V) (T : pg_T) (hT : xt_T T v) (hG : pg_gi T) (cl op key val : Int32) : xj_Mx l G 1 27 0 0 m_T_submit [.ref (xj_ad G (21, 0, 0)), .int cl, .int op, .int key, .int val] (xn_W v) (xp_ti v (.int (pg_submit T cl op key val).1) (pg_submit T cl op key val).2) := by
  have hz2 := hG.2.1
  refine xj_Mx_of (by decide) (Nat.le_of_ble_eq_true rfl) (fun E hE C _ => ?_)
  subst hE
  replace C : xj_C E G prog_9_method_38_code "ThreePhaseGroupModel" 5 1 27 0 0 (some .int) := C
  show xn_X E G _ 0 0 0 [some (.ref (xj_ad G (21, 0, 0))), some (.int cl), some (.int op), some (.int key), some (.int val)] [] v
  have bad : ¬ (((xp_at 2 cl).isSome = true ∧ (xp_at 3 op).isSome = true ∧ (xp_at 4 key).isSome = true ∧ (xp_at 16 val).isSome = true) ∧ pg_op (T.2.2.1 (xp_un cl)) = 0 ∧ T.1.1 < 150) → ∀ pc, pc = 38 ∨ pc = 59 → xn_X E G (xj_R E G (xp_ti v (.int (pg_submit T cl op key val).1) (pg_submit T cl op key val).2) 0 0) 0 0 pc [some (.ref (xj_ad G (21, 0, 0))), some (.int cl), some (.int op), some (.int key), some (.int val)] [] v := by
    intro h pc hpc
    have e : pg_submit T cl op key val = (-1, T) := by unfold pg_submit; rw [if_neg h]
    rw [e]
    rcases hpc with rfl | rfl
    · refine xj_iconst (v := -1) C a_T_submit_38 (by decide) ?_
      exact xj_iret C a_T_submit_39 ⟨rfl, v, rfl, hT, xf_U.rf v⟩
    · refine xj_iconst (v := -1) C a_T_submit_59 (by decide) ?_
      exact xj_iret C a_T_submit_60 ⟨rfl, v, rfl, hT, xf_U.rf v⟩
  refine xj_iload_n C a_T_submit_0 rfl ?_
  refine xj_iconst (v := nI 0) C a_T_submit_1 (by decide) ?_
  refine xj_iconst (v := nI 1) C a_T_submit_2 (by decide) ?_
  refine xn_callS3i C a_T_submit_3 (c_T_outside _ _ v cl (nI 0) (nI 1)) ms_T_outside lk_T_95 ⟨by decide, by decide⟩ rfl (Nat.le_of_ble_eq_true rfl) ⟨Nat.le_refl _, Nat.le_refl _⟩ ?_
  refine xj_if_ne C a_T_submit_6 rfl (fun h6 => ?_) (fun h6 => ?_)
  · rw [xp_outI (n := 2) (by decide) (by omega)] at h6
    exact bad (fun h => h6 h.1.1) 38 (by omega)
  · rw [xp_outI (n := 2) (by decide) (by omega)] at h6
    have h6 : (xp_at 2 cl).isSome = true := by simpa using h6
    refine xj_iload_n C a_T_submit_9 rfl ?_
    refine xj_iconst (v := nI 0) C a_T_submit_10 (by decide) ?_
    refine xj_iconst (v := nI 2) C a_T_submit_11 (by decide) ?_
    refine xn_callS3i C a_T_submit_12 (c_T_outside _ _ v op (nI 0) (nI 2)) ms_T_outside lk_T_95 ⟨by decide, by decide⟩ rfl (Nat.le_of_ble_eq_true rfl) ⟨Nat.le_refl _, Nat.le_refl _⟩ ?_
    refine xj_if_ne C a_T_submit_15 rfl (fun h15 => ?_) (fun h15 => ?_)
    · rw [xp_outI (n := 3) (by decide) (by omega)] at h15
      exact bad (fun h => h15 h.1.2.1) 38 (by omega)
    · rw [xp_outI (n := 3) (by decide) (by omega)] at h15
      have h15 : (xp_at 3 op).isSome = true := by simpa using h15
      refine xj_iload_n C a_T_submit_18 rfl ?_
      refine xj_iconst (v := nI 0) C a_T_submit_19 (by decide) ?_
      refine xj_iconst (v := nI 3) C a_T_submit_20 (by decide) ?_
      refine xn_callS3i C a_T_submit_21 (c_T_outside _ _ v key (nI 0) (nI 3)) ms_T_outside lk_T_95 ⟨by decide, by decide⟩ rfl (Nat.le_of_ble_eq_true rfl) ⟨Nat.le_refl _, Nat.le_refl _⟩ ?_
      refine xj_if_ne C a_T_submit_24 rfl (fun h24 => ?_) (fun h24 => ?_)
      · rw [xp_outI (n := 4) (by decide) (by omega)] at h24
        exact bad (fun h => h24 h.1.2.2.1) 38 (by omega)
      · rw [xp_outI (n := 4) (by decide) (by omega)] at h24
        have h24 : (xp_at 4 key).isSome = true := by simpa using h24
        refine xj_iload C a_T_submit_27 rfl ?_
        refine xj_iconst (v := nI 0) C a_T_submit_29 (by decide) ?_
        refine xj_bipush (v := nI 15) C a_T_submit_30 (by decide) ?_
        refine xn_callS3i C a_T_submit_32 (c_T_outside _ _ v val (nI 0) (nI 15)) ms_T_outside lk_T_95 ⟨by decide, by decide⟩ rfl (Nat.le_of_ble_eq_true rfl) ⟨Nat.le_refl _, Nat.le_refl _⟩ ?_
        refine xj_if_eq C a_T_submit_35 rfl (fun h35 => ?_) (fun h35 => ?_)
        · rw [xp_outI (n := 16) (by decide) (by omega)] at h35
          have hall : (xp_at 2 cl).isSome = true ∧ (xp_at 3 op).isSome = true ∧ (xp_at 4 key).isSome = true ∧ (xp_at 16 val).isSome = true := ⟨h6, h15, h24, h35⟩
          obtain ⟨k, k1, rfl, k3⟩ := xp_isS (by decide) h6
          obtain ⟨o, o1, rfl, o3⟩ := xp_isS (by decide) h15
          obtain ⟨y, y1, rfl, y3⟩ := xp_isS (by decide) h24
          obtain ⟨w, w1, rfl, w3⟩ := xp_isS (by decide) h35
          rw [k3] at bad
          obtain ⟨c1, c2, c3, c4, c5⟩ := hT.2.2.1 k k1
          have hok := (hG.2.2.2.1 k k1).1
          have hsm := (hG.2.2.2.1 k k1).2
          have hop : pg_op (T.2.2.1 k) < 256 := by have := hok.1; have := hok.2.1; omega
          refine xj_aload_n C a_T_submit_40 rfl ?_
          refine xn_g_T_open C a_T_submit_41 fl_T_76 ?_
          refine xj_iload_n C a_T_submit_44 rfl ?_
          refine xn_ld_42 C a_T_submit_45 (by first | assumption | omega) ?_
          refine xj_topi c2 ?_
          refine xj_if_ne C a_T_submit_46 rfl (fun h46 => ?_) (fun h46 => ?_)
          · rw [xp_nz (by omega)] at h46
            exact bad (fun h => h46 h.2.1) 59 (by omega)
          · rw [xp_nz (by omega)] at h46
            have h46 : pg_op (T.2.2.1 k) = 0 := by simpa using h46
            refine xj_aload_n C a_T_submit_49 rfl ?_
            refine xn_g_T_count C a_T_submit_50 fl_T_88 ?_
            refine xj_topi hT.1.z ?_
            refine xj_sipush (v := nI 150) C a_T_submit_53 (by decide) ?_
            refine xj_icmp_lt C a_T_submit_56 rfl (fun h56 => ?_) (fun h56 => ?_)
            · rw [nI_ltI (by omega) (by omega)] at h56
              have e : pg_submit T (nI k) (nI o) (nI y) (nI w) = (nI T.1.1, (pg_send T.1 0 (4 + k) (nI (pg_sm (T.2.2.1 k) + 1)) (nI o).toInt64 (nI 16 * nI y + nI w) false, T.2.1, va_up T.2.2.1 k (pg_cw (pg_cw (T.2.2.1 k) 0 0 (pg_sm (T.2.2.1 k) + 1) (T.2.2.1 k).2) 1 0 (pg_sm (T.2.2.1 k) + 1) (T.2.2.1 k).2), T.2.2.2)) := by
                unfold pg_submit
                rw [k3, if_pos ⟨hall, h46, h56⟩]
              rw [e]
              obtain ⟨v1, hv1⟩ : ∃ v1, v1 = xn_uI v 41 0 0 k (nI (pg_sm (T.2.2.1 k) + 1)) := ⟨_, rfl⟩
              have r1 : v1.1 41 0 0 k = nI (pg_sm (T.2.2.1 k) + 1) := by rw [hv1]; simp [xn_uI]
              obtain ⟨v2, hv2⟩ : ∃ v2, v2 = xn_uI v1 42 0 0 k (nI (pg_sm (T.2.2.1 k) + 1)) := ⟨_, rfl⟩
              have r2 : v2.1 41 0 0 k = nI (pg_sm (T.2.2.1 k) + 1) := by rw [hv2]; simpa [xn_uI] using r1
              have cell : ∀ K r' i' x', v2.1 K r' i' x' = if K = 42 ∧ r' = 0 ∧ i' = 0 ∧ x' = k then nI (pg_sm (T.2.2.1 k) + 1) else if K = 41 ∧ r' = 0 ∧ i' = 0 ∧ x' = k then nI (pg_sm (T.2.2.1 k) + 1) else v.1 K r' i' x' := by
                rw [hv2, hv1]; exact fun _ _ _ _ => rfl
              have hT2 : xt_T (T.1, T.2.1, va_up T.2.2.1 k (pg_cw (pg_cw (T.2.2.1 k) 0 0 (pg_sm (T.2.2.1 k) + 1) (T.2.2.1 k).2) 1 0 (pg_sm (T.2.2.1 k) + 1) (T.2.2.1 k).2), T.2.2.2) v2 := by
                refine ⟨by rw [hv2, hv1]; exact (hT.1.uI (by omega)).uI (by omega), fun r hr => by rw [hv2, hv1]; exact ((hT.2.1 r hr).oth (by omega)).oth (by omega), fun k' hk' => ?_, fun p hp => by rw [cell, if_neg (by omega), if_neg (by omega)]; exact hT.2.2.2.1 p hp, by rw [cell, if_neg (by omega), if_neg (by omega)]; exact hT.2.2.2.2⟩
                show xt_C k' (va_up T.2.2.1 k _ k') v2
                by_cases ek : k' = k
                · rw [ek, va_up_self]
                  refine ⟨?_, ?_, ?_, fun q hq => ?_, c5⟩
                  · rw [cell, if_neg (by omega), if_pos ⟨rfl, rfl, rfl, rfl⟩]; rfl
                  · rw [cell, if_pos ⟨rfl, rfl, rfl, rfl⟩]; rfl
                  · rw [cell, if_neg (by omega), if_neg (by omega)]; exact c3
                  · rw [cell, if_neg (by omega), if_neg (by omega)]; exact c4 q hq
                · rw [va_up_ne _ _ ek]
                  exact (hT.2.2.1 k' hk').cells (fun K h1 h2 => by rw [cell, if_neg (by omega), if_neg (by omega)]) (fun q hq => by rw [cell, if_neg (by omega), if_neg (by omega)])
              have hF2 : xf_U v v2 := by rw [hv2, hv1]; exact ((xf_U.rf v).uI (by omega)).uI (by omega)
              refine xj_aload_n C a_T_submit_61 rfl ?_
              refine xn_g_T_stamp C a_T_submit_62 fl_T_73 ?_
              refine xj_iload_n C a_T_submit_65 rfl ?_
              refine xj_dup2 C a_T_submit_66 rfl rfl ?_
              refine xn_ld_41 C a_T_submit_67 (by first | assumption | omega) ?_
              refine xj_topi c1 ?_
              refine xj_iconst (v := nI 1) C a_T_submit_68 (by decide) ?_
              refine xj_iaddN C a_T_submit_69 ?_
              refine xn_st_41 C a_T_submit_70 (by first | assumption | omega) ?_
              rw [← hv1]
              refine xj_aload_n C a_T_submit_71 rfl ?_
              refine xn_g_T_open C a_T_submit_72 fl_T_76 ?_
              refine xj_iload_n C a_T_submit_75 rfl ?_
              refine xj_aload_n C a_T_submit_76 rfl ?_
              refine xn_g_T_stamp C a_T_submit_77 fl_T_73 ?_
              refine xj_iload_n C a_T_submit_80 rfl ?_
              refine xn_ld_41 C a_T_submit_81 (by first | assumption | omega) ?_
              refine xj_topi r1 ?_
              refine xn_st_42 C a_T_submit_82 (by first | assumption | omega) ?_
              rw [← hv2]
              refine xj_aload_n C a_T_submit_83 rfl ?_
              refine xj_iconst (v := nI 0) C a_T_submit_84 (by decide) ?_
              refine xj_iconst (v := nI 4) C a_T_submit_85 (by decide) ?_
              refine xj_iload_n C a_T_submit_86 rfl ?_
              refine xj_iaddN C a_T_submit_87 ?_
              refine xj_aload_n C a_T_submit_88 rfl ?_
              refine xn_g_T_stamp C a_T_submit_89 fl_T_73 ?_
              refine xj_iload_n C a_T_submit_92 rfl ?_
              refine xn_ld_41 C a_T_submit_93 (by first | assumption | omega) ?_
              refine xj_topi r2 ?_
              refine xj_iload_n C a_T_submit_94 rfl ?_
              refine xj_i2l C a_T_submit_95 ?_
              refine xj_bipush (v := nI 16) C a_T_submit_96 (by decide) ?_
              refine xj_iload_n C a_T_submit_98 rfl ?_
              refine xj_imul C a_T_submit_99 ?_
              refine xj_iload C a_T_submit_100 rfl ?_
              refine xj_iadd C a_T_submit_102 ?_
              refine xn_callV5i C a_T_submit_103 (c_T_send _ _ v2 T.1.1 (4 + k) hT2.1.z (by omega) (by omega) (nI 0) (nI (pg_sm (T.2.2.1 k) + 1)) (nI o).toInt64 (nI 16 * nI y + nI w)) mv_T_send lk_T_179 ⟨rfl, rfl, rfl⟩ xj_ok21 ⟨by decide, by decide⟩ rfl (Nat.le_of_ble_eq_true rfl) ⟨Nat.le_refl _, Nat.le_refl _⟩ ?_
              refine xj_iret C a_T_submit_106 ⟨rfl, _, rfl, hT2.send (show T.1.1 < 200 by omega) (by omega) _ _ _, hF2.ts⟩
            · rw [nI_ltI (by omega) (by omega)] at h56
              exact bad (fun h => h56 h.2.2) 59 (by omega)
        · rw [xp_outI (n := 16) (by decide) (by omega)] at h35
          exact bad (fun h => h35 h.1.2.2.2) 38 (by omega)
theorem c_T_tick (l : Launch) (G : xj_G) (v : xn_V) (T : pg_T) (hT : xt_T T v) (hG : pg_gi T) (r : Int32) : xj_Mx l G 5 136 0 0 m_T_tick [.ref (xj_ad G (21, 0, 0)), .int r] (xn_W v) (xp_ti v (.int (xp_b (pg_tick T r).1)) (pg_tick T r).2) := by
  have hz2 := hG.2.1
  have hF4 : T.2.2.2.2 ≤ 4 := hG.1.2.2.1
  refine xj_Mx_of (by decide) (Nat.le_of_ble_eq_true rfl) (fun E hE C _ => ?_)
  subst hE
  replace C : xj_C E G prog_9_method_41_code "ThreePhaseGroupModel" 2 5 136 0 0 (some .boolean) := C
  show xn_X E G _ 0 0 0 [some (.ref (xj_ad G (21, 0, 0))), some (.int r)] [] v
  have bad : ¬ ((xp_at 4 r).isSome = true ∧ ¬ T.2.2.2.2 = xp_un r + 1 ∧ ¬ pg_tm (T.2.1 (xp_un r)) = 0 ∧ T.1.1 < 150) → xn_X E G (xj_R E G (xp_ti v (.int (xp_b (pg_tick T r).1)) (pg_tick T r).2) 0 0) 0 0 36 [some (.ref (xj_ad G (21, 0, 0))), some (.int r)] [] v := by
    intro h
    have e : pg_tick T r = (false, T) := by unfold pg_tick; rw [if_neg h]
    rw [e]
    refine xj_iconst (v := nI 0) C a_T_tick_36 (by decide) ?_
    exact xj_zret C a_T_tick_37 rfl ⟨rfl, v, rfl, hT, xf_U.rf v⟩
  refine xj_iload_n C a_T_tick_0 rfl ?_
  refine xj_iconst (v := nI 0) C a_T_tick_1 (by decide) ?_
  refine xj_iconst (v := nI 3) C a_T_tick_2 (by decide) ?_
  refine xn_callS3i C a_T_tick_3 (c_T_outside _ _ v r (nI 0) (nI 3)) ms_T_outside lk_T_95 ⟨by decide, by decide⟩ rfl (Nat.le_of_ble_eq_true rfl) ⟨Nat.le_refl _, Nat.le_refl _⟩ ?_
  refine xj_if_ne C a_T_tick_6 rfl (fun h6 => ?_) (fun h6 => ?_)
  · rw [xp_outI (n := 4) (by decide) (by omega)] at h6
    exact bad (fun h => h6 h.1)
  · rw [xp_outI (n := 4) (by decide) (by omega)] at h6
    have h6 : (xp_at 4 r).isSome = true := by simpa using h6
    obtain ⟨j, j1, rfl, j3⟩ := xp_isS (by decide) h6
    rw [j3] at bad
    have hR := hT.2.1 j j1
    have hin : pg_in T.2.2.2.2 j (pg_sR T j) := ⟨(hG.2.2.1 j j1).1, hG.1⟩
    have hN : pg_num (T.2.1 j) := hin.1.num (show T.1.1 ≤ 256 by omega)
    have hrest := (hG.2.2.1 j j1).2
    have htm := hN.2.2.2.2.1
    refine xj_iload_n C a_T_tick_9 rfl ?_
    refine xj_aload_n C a_T_tick_10 rfl ?_
    refine xn_g_T_faulty C a_T_tick_11 fl_T_69 ?_
    refine xj_topi hT.2.2.2.2 ?_
    refine xj_icmp_eq C a_T_tick_14 rfl (fun h14 => ?_) (fun h14 => ?_)
    · rw [xp_fm_eq hF4 j1] at h14
      exact bad (fun h => h.2.1 h14)
    · rw [xp_fm_eq hF4 j1] at h14
      refine xj_aload_n C a_T_tick_17 rfl ?_
      refine xn_g_T_timer C a_T_tick_18 fl_T_54 ?_
      refine xj_iload_n C a_T_tick_21 rfl ?_
      refine xn_ld_36 C a_T_tick_22 (by first | assumption | omega) ?_
      refine xj_topi hR.tm ?_
      refine xj_if_eq C a_T_tick_23 rfl (fun h23 => ?_) (fun h23 => ?_)
      · rw [xp_nz (by omega)] at h23
        exact bad (fun h => h.2.2.1 h23)
      · rw [xp_nz (by omega)] at h23
        refine xj_aload_n C a_T_tick_26 rfl ?_
        refine xn_g_T_count C a_T_tick_27 fl_T_88 ?_
        refine xj_topi hT.1.z ?_
        refine xj_sipush (v := nI 150) C a_T_tick_30 (by decide) ?_
        refine xj_icmp_lt C a_T_tick_33 rfl (fun h33 => ?_) (fun h33 => ?_)
        · rw [nI_ltI (by omega) (by omega)] at h33
          have e : pg_tick T (nI j) = (true, pg_putR T j (pg_run j (pg_clk j (pg_sR T j)))) := by
            unfold pg_tick
            rw [j3, if_pos ⟨h6, h14, h23, h33⟩]
          rw [e]
          obtain ⟨q1, q2, q3, q4⟩ := hG.clk j1 h33 h23
          have hrun := (q1.run j1 (by omega)).2.2.2.2
          have hR0 : xt_R j (T.2.1 j) (xn_uI v 21 0 0 21 (nI 0)) := hR.oth (by omega)
          have hR1 := hR0.uS (t := 5) (x := pg_tm (T.2.1 j) - 1) (K := 36) (by decide) rfl
          have hB1 : xt_B T.1 (xn_uI (xn_uI v 21 0 0 21 (nI 0)) 36 0 0 j (nI (pg_tm (T.2.1 j) - 1))) := (hT.1.uI (by omega)).uI (by omega)
          have hf1 : xf_T j v (xn_uI (xn_uI v 21 0 0 21 (nI 0)) 36 0 0 j (nI (pg_tm (T.2.1 j) - 1))) := ((xf_T.rf j v).uI (by omega)).uI (by omega)
          have hA1 : (xn_uI (xn_uI v 21 0 0 21 (nI 0)) 36 0 0 j (nI (pg_tm (T.2.1 j) - 1))).1 21 0 0 21 = nI (pg_af (T.2.1 j)) := by rw [hrest.1]; simp [xn_uI]
          have fin : ∀ v2, xt_S j (pg_clk j (pg_sR T j)) v2 → xf_T j v v2 → xn_X E G (xj_R E G (xp_ti v (.int (xp_b true)) (pg_putR T j (pg_run j (pg_clk j (pg_sR T j))))) 0 0) 0 0 75 [some (.ref (xj_ad G (21, 0, 0))), some (.int (nI j))] [] v2 := by
            intro v2 hX2 hf2
            refine xj_aload_n C a_T_tick_75 rfl ?_
            refine xj_iload_n C a_T_tick_76 rfl ?_
            refine xj_callV1 C a_T_tick_77 (c_T_rules _ _ v2 T.2.2.2.2 j j1 (pg_clk j (pg_sR T j)) hX2 (fun k => ⟨(hrun k).1, by have := (hrun k).2; omega⟩)) mv_T_rules lk_T_145 ⟨rfl, rfl, rfl⟩ xj_ok21 ⟨by decide, by decide⟩ rfl (Nat.le_of_ble_eq_true rfl) ⟨Nat.le_refl _, Nat.le_refl _⟩ (fun a' w' hres => ?_)
            obtain ⟨rfl, v3, rfl, hB3, hR3, hf3⟩ := hres
            refine xj_iconst (v := nI 1) C a_T_tick_80 (by decide) ?_
            refine xj_zret C a_T_tick_81 rfl ⟨rfl, v3, rfl, hT.mv (r := j) j1 (hf2.tr hf3) hB3 ?_ (fun r' hr' => ?_) rfl, (hf2.tr hf3).U⟩
            · show xt_R j (va_up T.2.1 j (pg_run j (pg_clk j (pg_sR T j))).2 j) v3
              rw [va_up_self]; exact hR3
            · show va_up T.2.1 j (pg_run j (pg_clk j (pg_sR T j))).2 r' = _
              rw [va_up_ne _ _ hr']
          refine xj_aload_n C a_T_tick_38 rfl ?_
          refine xj_iconst (v := nI 0) C a_T_tick_39 (by decide) ?_
          refine xn_p_T_afresh C a_T_tick_40 fl_T_138 (by decide) ?_
          refine xj_aload_n C a_T_tick_43 rfl ?_
          refine xn_g_T_timer C a_T_tick_44 fl_T_54 ?_
          refine xj_iload_n C a_T_tick_47 rfl ?_
          refine xj_dup2 C a_T_tick_48 rfl rfl ?_
          refine xn_ld_36 C a_T_tick_49 (by first | assumption | omega) ?_
          refine xj_topi hR0.tm ?_
          refine xj_iconst (v := nI 1) C a_T_tick_50 (by decide) ?_
          refine xj_isub C a_T_tick_51 ?_
          refine xj_topi (y := nI (pg_tm (T.2.1 j) - 1)) (pk_sub (by omega)) ?_
          refine xn_st_36 C a_T_tick_52 (by first | assumption | omega) ?_
          refine xj_aload_n C a_T_tick_53 rfl ?_
          refine xn_g_T_timer C a_T_tick_54 fl_T_54 ?_
          refine xj_iload_n C a_T_tick_57 rfl ?_
          refine xn_ld_36 C a_T_tick_58 (by first | assumption | omega) ?_
          refine xj_topi hR1.tm ?_
          refine xj_if_ne C a_T_tick_59 rfl (fun h59 => ?_) (fun h59 => ?_)
          · have h59 : ¬ nI (pg_tm (T.2.1 j) - 1) = 0 := h59
            rw [xp_nz (by omega)] at h59
            refine fin _ ?_ hf1
            have ec : pg_clk j (pg_sR T j) = (T.1, pg_u (T.2.1 j) 5 0 (pg_tm (T.2.1 j) - 1)) := by
              unfold pg_clk
              rw [if_neg (show ¬ pg_tm (pg_sR T j).2 = 1 by show ¬ pg_tm (T.2.1 j) = 1; omega)]
              rfl
            rw [ec]
            exact ⟨hB1, hR1, hA1⟩
          · have h59 : nI (pg_tm (T.2.1 j) - 1) = 0 := h59
            rw [xp_nz (by omega)] at h59
            have h1 : pg_tm (T.2.1 j) = 1 := by omega
            have hv15 : pg_vw (T.2.1 j) < 15 := by
              have g := hN.1
              rcases Nat.lt_or_eq_of_le g with g | g
              · exact g
              · exact absurd (hrest.2 g) h23
            have ec : pg_clk j (pg_sR T j) = pg_beg j (T.1, pg_u (T.2.1 j) 5 0 0) (pg_vw (T.2.1 j) + 1) := by
              unfold pg_clk
              rw [if_pos (show pg_tm (pg_sR T j).2 = 1 from h1)]
              rfl
            have hsm := hin.sm (show T.1.1 ≤ 252 by omega)
            have hsm1 : pg_h (T.2.1 j) ≤ pg_e (T.2.1 j) := hsm.1
            have hsm3 : 3 * pg_e (T.2.1 j) ≤ T.1.1 := hsm.2.2
            rw [h1] at hB1 hR1 hA1 hf1 ⊢
            have hvw1 : (xn_uI (xn_uI v 21 0 0 21 (nI 0)) 36 0 0 j (nI (1 - 1))).1 30 0 0 j = nI (pg_vw (T.2.1 j)) := hR1.vw
            refine xj_aload_n C a_T_tick_62 rfl ?_
            refine xj_iload_n C a_T_tick_63 rfl ?_
            refine xj_aload_n C a_T_tick_64 rfl ?_
            refine xn_g_T_view C a_T_tick_65 fl_T_36 ?_
            refine xj_iload_n C a_T_tick_68 rfl ?_
            refine xn_ld_30 C a_T_tick_69 (by first | assumption | omega) ?_
            refine xj_topi hvw1 ?_
            refine xj_iconst (v := nI 1) C a_T_tick_70 (by decide) ?_
            refine xj_iaddN C a_T_tick_71 ?_
            refine xj_callV2 C a_T_tick_72 (c_T_begins _ _ _ j j1 (T.1, pg_u (T.2.1 j) 5 0 0) ⟨hB1, hR1, hA1⟩ ⟨hN.1, hN.2.1, hN.2.2.1, hN.2.2.2.1, (show 0 < 64 by decide), hN.2.2.2.2.2⟩ (show pg_h (T.2.1 j) < 190 by omega) (show T.1.1 < 200 by omega) (pg_vw (T.2.1 j) + 1) (by omega)) mv_T_begins lk_T_226 ⟨rfl, rfl, rfl⟩ xj_ok21 ⟨by decide, by decide⟩ rfl (Nat.le_of_ble_eq_true rfl) ⟨Nat.le_refl _, Nat.le_refl _⟩ (fun a' w' hres => ?_)
            obtain ⟨rfl, v2, rfl, hX2, hf2⟩ := hres
            exact fin v2 (by rw [ec]; exact hX2) (hf1.tr hf2)
        · rw [nI_ltI (by omega) (by omega)] at h33
          exact bad (fun h => h33 h.2.2.2)
theorem c_T_corrupt (l : Launch) (G : xj_G) (v : xn_V) (T : pg_T) (hT : xt_T T v) (hG : pg_gi T) (r : Int32) : xj_Mx l G 1 22 0 0 m_T_corrupt [.ref (xj_ad G (21, 0, 0)), .int r] (xn_W v) (xp_ti v (.int (xp_b (pg_corrupt T r).1)) (pg_corrupt T r).2) := by
  have hF4 : T.2.2.2.2 ≤ 4 := hG.1.2.2.1
  refine xj_Mx_of (by decide) (Nat.le_of_ble_eq_true rfl) (fun E hE C _ => ?_)
  subst hE
  replace C : xj_C E G prog_9_method_42_code "ThreePhaseGroupModel" 2 1 22 0 0 (some .boolean) := C
  show xn_X E G _ 0 0 0 [some (.ref (xj_ad G (21, 0, 0))), some (.int r)] [] v
  have bad : ¬ ((xp_at 4 r).isSome = true ∧ T.2.2.2.2 = 0) → xn_X E G (xj_R E G (xp_ti v (.int (xp_b (pg_corrupt T r).1)) (pg_corrupt T r).2) 0 0) 0 0 16 [some (.ref (xj_ad G (21, 0, 0))), some (.int r)] [] v := by
    intro h
    have e : pg_corrupt T r = (false, T) := by unfold pg_corrupt; rw [if_neg h]
    rw [e]
    refine xj_iconst (v := nI 0) C a_T_corrupt_16 (by decide) ?_
    exact xj_zret C a_T_corrupt_17 rfl ⟨rfl, v, rfl, hT, xf_U.rf v⟩
  refine xj_iload_n C a_T_corrupt_0 rfl ?_
  refine xj_iconst (v := nI 0) C a_T_corrupt_1 (by decide) ?_
  refine xj_iconst (v := nI 3) C a_T_corrupt_2 (by decide) ?_
  refine xn_callS3i C a_T_corrupt_3 (c_T_outside _ _ v r (nI 0) (nI 3)) ms_T_outside lk_T_95 ⟨by decide, by decide⟩ rfl (Nat.le_of_ble_eq_true rfl) ⟨Nat.le_refl _, Nat.le_refl _⟩ ?_
  refine xj_if_ne C a_T_corrupt_6 rfl (fun h6 => ?_) (fun h6 => ?_)
  · rw [xp_outI (n := 4) (by decide) (by omega)] at h6
    exact bad (fun h => h6 h.1)
  · rw [xp_outI (n := 4) (by decide) (by omega)] at h6
    have h6 : (xp_at 4 r).isSome = true := by simpa using h6
    refine xj_aload_n C a_T_corrupt_9 rfl ?_
    refine xn_g_T_faulty C a_T_corrupt_10 fl_T_69 ?_
    refine xj_topi hT.2.2.2.2 ?_
    refine xj_if_lt C a_T_corrupt_13 rfl (fun h13 => ?_) (fun h13 => ?_)
    · rw [xp_fm_lt hF4] at h13
      obtain ⟨j, j1, rfl, j3⟩ := xp_isS (by decide) h6
      have e : pg_corrupt T (nI j) = (true, (T.1, T.2.1, T.2.2.1, T.2.2.2.1, j + 1)) := by unfold pg_corrupt; rw [if_pos ⟨h6, h13⟩, j3]
      rw [e]
      refine xj_aload_n C a_T_corrupt_18 rfl ?_
      refine xj_iload_n C a_T_corrupt_19 rfl ?_
      refine xn_p_T_faulty C a_T_corrupt_20 fl_T_69 ?_
      refine xj_iconst (v := nI 1) C a_T_corrupt_23 (by decide) ?_
      have o : ∀ k r i x, ¬ (k = 21 ∧ x = 20) → (xn_uI v 21 0 0 20 (nI j)).1 k r i x = v.1 k r i x := by
        intro k r i x hk
        show (if k = 21 ∧ r = 0 ∧ i = 0 ∧ x = 20 then _ else _) = _
        rw [if_neg (by omega)]
      refine xj_zret C a_T_corrupt_24 rfl ⟨rfl, _, rfl, ⟨hT.1.uI (by omega), fun r hr => (hT.2.1 r hr).oth (by omega), fun k hk => (hT.2.2.1 k hk).cells (fun K h1 h2 => o _ _ _ _ (by omega)) (fun x hx => o _ _ _ _ (by omega)), fun p hp => by rw [o _ _ _ _ (by omega)]; exact hT.2.2.2.1 p hp, ?_⟩, (xf_U.rf v).uI (by omega)⟩
      show _ = xp_fm (j + 1)
      unfold xp_fm
      rw [if_neg (by omega)]
      simp [xn_uI]
    · rw [xp_fm_lt hF4] at h13
      exact bad (fun h => h13 h.2)
theorem xt_B.setg {B : pg_B} {k p : Nat} {x : Int32} {y : Int64} {c : Int32} {v : xn_V} (h : xt_B (pg_send B k p x y c false) v) : xt_B (pg_send B k p x y c true) (xn_uI v 27 0 0 B.1 (nI 1)) := by
  obtain ⟨h1, h2, h3, h4, h5⟩ := h
  refine ⟨h1, h2, h3, fun m hm => ?_, fun m h6 h7 => ?_⟩
  · obtain ⟨g1, g2, g3, g4, g5, g6⟩ := h4 m hm
    refine ⟨g1, g2, g3, g4, g5, ?_⟩
    show (if 27 = 27 ∧ 0 = 0 ∧ 0 = 0 ∧ m = B.1 then nI 1 else v.1 27 0 0 m) = xp_b (pg_g (pg_send B k p x y c true) m)
    rw [pg_send_g] at g6 ⊢
    by_cases e : m = B.1
    · rw [if_pos ⟨rfl, rfl, rfl, e⟩, if_pos e]; rfl
    · rw [if_neg (fun h => e h.2.2.2), if_neg e]
      rw [if_neg e] at g6
      exact g6
  · have h6 : B.1 + 1 ≤ m := h6
    show (if 27 = 27 ∧ 0 = 0 ∧ 0 = 0 ∧ m = B.1 then nI 1 else v.1 27 0 0 m) = nI 0
    rw [if_neg (by omega)]
    exact h5 m h6 h7
theorem c_T_forgeOne (l : Launch) (G : xj_G) (v : xn_V) (T : pg_T) (hT : xt_T T v) (hG : pg_gi T) (hF : ¬ T.2.2.2.2 = 0) (hz : T.1.1 < 150) (k : Nat) (hk : 1 ≤ k ∧ k < 8) (x : Int32) (y : Int64) (z : Int32) : xj_Mx l G 1 27 0 0 m_T_forgeOne [.ref (xj_ad G (21, 0, 0)), .int (nI k), .int x, .long y, .int z] (xn_W v) (xp_ti v (.int (pg_post T k x y z).1) (pg_post T k x y z).2) := by
  have hF4 : T.2.2.2.2 ≤ 4 := hG.1.2.2.1
  have e : pg_post T k x y z = (nI T.1.1, (pg_send T.1 k (T.2.2.2.2 - 1) x y z true, T.2)) := by unfold pg_post; rw [if_pos ⟨hF, hz⟩]
  rw [e]
  obtain ⟨f, hf⟩ : ∃ f, f = T.2.2.2.2 - 1 := ⟨_, rfl⟩
  have hf4 : f < 4 := by omega
  have hfm : v.1 21 0 0 20 = nI f := by rw [hT.2.2.2.2]; unfold xp_fm; rw [if_neg hF, hf]
  rw [← hf]
  obtain ⟨o1, o2⟩ := xn_ts_oth v T.1.1 f (nI k) x y z
  have hB1 := hT.1.send (show T.1.1 < 200 by omega) k f x y z (by omega)
  refine xj_Mx_of (by decide) (Nat.le_of_ble_eq_true rfl) (fun E hE C _ => ?_)
  subst hE
  replace C : xj_C E G prog_9_method_43_code "ThreePhaseGroupModel" 7 1 27 0 0 (some .int) := C
  show xn_X E G _ 0 0 0 [some (.ref (xj_ad G (21, 0, 0))), some (.int (nI k)), some (.int x), some (.long y), none, some (.int z), none] [] v
  refine xj_aload_n C a_T_forgeOne_0 rfl ?_
  refine xj_iload_n C a_T_forgeOne_1 rfl ?_
  refine xj_aload_n C a_T_forgeOne_2 rfl ?_
  refine xn_g_T_faulty C a_T_forgeOne_3 fl_T_69 ?_
  refine xj_topi hfm ?_
  refine xj_iload_n C a_T_forgeOne_6 rfl ?_
  refine xj_lload_n C a_T_forgeOne_7 rfl ?_
  refine xj_iload C a_T_forgeOne_8 rfl ?_
  refine xn_callV5i C a_T_forgeOne_10 (c_T_send _ _ v T.1.1 f hT.1.z (by omega) (by omega) (nI k) x y z) mv_T_send lk_T_179 ⟨rfl, rfl, rfl⟩ xj_ok21 ⟨by decide, by decide⟩ rfl (Nat.le_of_ble_eq_true rfl) ⟨Nat.le_refl _, Nat.le_refl _⟩ ?_
  refine xj_istore6 C a_T_forgeOne_13 rfl ?_
  refine xj_aload_n C a_T_forgeOne_15 rfl ?_
  refine xn_g_T_forged C a_T_forgeOne_16 fl_T_26 ?_
  refine xj_iload C a_T_forgeOne_19 rfl ?_
  refine xj_iconst (v := nI 1) C a_T_forgeOne_21 (by decide) ?_
  refine xn_st_27 C a_T_forgeOne_22 (by first | assumption | omega) (by first | assumption | decide) ?_
  refine xj_aload_n C a_T_forgeOne_23 rfl ?_
  refine xn_g_T_noted C a_T_forgeOne_24 fl_T_30 ?_
  refine xj_sipush (v := nI 200) C a_T_forgeOne_27 (by decide) ?_
  refine xj_aload_n C a_T_forgeOne_30 rfl ?_
  refine xn_g_T_faulty C a_T_forgeOne_31 fl_T_69 ?_
  refine xj_topi (y := nI f) (by rw [← hfm]; exact o1 21 0 0 20 (by omega) (by omega) (by omega)) ?_
  refine xj_imulN C a_T_forgeOne_34 ?_
  refine xj_iload C a_T_forgeOne_35 rfl ?_
  refine xj_iaddN C a_T_forgeOne_37 ?_
  refine xj_iconst (v := nI 0) C a_T_forgeOne_38 (by decide) ?_
  refine xn_st_28 C a_T_forgeOne_39 (by first | assumption | omega) (by first | assumption | decide) ?_
  refine xj_iload C a_T_forgeOne_40 rfl ?_
  obtain ⟨v2, hv2⟩ : ∃ v2, v2 = xn_uI (xn_uI (xn_ts v T.1.1 f (nI k) x y z) 27 0 0 T.1.1 (nI 1)) 28 0 0 (200 * f + T.1.1) (nI 0) := ⟨_, rfl⟩
  rw [← hv2]
  have cell : ∀ K r' i' x', ¬ (22 ≤ K ∧ K ≤ 27) → ¬ (K = 21 ∧ x' = 0) → ¬ (K = 28 ∧ x' = 200 * f + T.1.1) → v2.1 K r' i' x' = v.1 K r' i' x' := by
    intro K r' i' x' g1 g2 g3
    rw [hv2]
    show (if K = 28 ∧ r' = 0 ∧ i' = 0 ∧ x' = 200 * f + T.1.1 then _ else if K = 27 ∧ r' = 0 ∧ i' = 0 ∧ x' = T.1.1 then _ else (xn_ts v T.1.1 f (nI k) x y z).1 K r' i' x') = _
    rw [if_neg (by omega), if_neg (by omega)]
    exact o1 _ _ _ _ (by omega) (by omega) (by omega)
  have cell2 : v2.1 28 0 0 (200 * f + T.1.1) = nI 0 := by rw [hv2]; simp [xn_uI]
  have d2 : ∀ K r' i' x', ¬ K = 25 → v2.2 K r' i' x' = v.2 K r' i' x' := by
    intro K r' i' x' g
    rw [hv2]
    exact o2 _ _ _ _ g
  refine xj_iret C a_T_forgeOne_42 ⟨rfl, v2, rfl, ⟨by rw [hv2]; exact hB1.setg.uI (by omega), fun r hr => ?_, fun q hq => (hT.2.2.1 q hq).cells (fun K h1 h2 => cell _ _ _ _ (by omega) (by omega) (by omega)) (fun q2 hq2 => cell _ _ _ _ (by omega) (by omega) (by omega)), fun p hp => by rw [cell _ _ _ _ (by omega) (by omega) (by omega)]; exact hT.2.2.2.1 p hp, by rw [cell _ _ _ _ (by omega) (by omega) (by omega)]; exact hT.2.2.2.2⟩, fun K r' i' x' hK => ⟨cell _ _ _ _ (by omega) (by omega) (by omega), d2 _ _ _ _ (by omega)⟩⟩
  refine (hT.2.1 r hr).cells (fun K h1 h2 => cell _ _ _ _ (by omega) (by omega) (by omega)) (d2 _ _ _ _ (by omega)) (fun K q hK hq => ?_)
  by_cases e2 : K = 28 ∧ 200 * r + q = 200 * f + T.1.1
  · have hrf : r = f := by omega
    have hqz : q = T.1.1 := by omega
    have hno : pg_no (T.2.1 r) q = 0 := by
      have h1 := ((hT.2.1 r hr).2.2.2 q).1
      have h2 := (hG.2.2.1 r hr).1.1.1.2 q
      have h2' : pg_no (T.2.1 r) q = 1 → q < T.1.1 := h2
      omega
    rw [e2.1, e2.2, cell2, ← e2.2, (hT.2.1 r hr).no hq, hno]
  · exact cell _ _ _ _ (by omega) (by omega) (by omega)
