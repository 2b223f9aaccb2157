/-! the reference: ordered, slot, look, waiting -/
theorem pg_gi.win {T : pg_T} (hG : pg_gi T) {r : Nat} (hr : r < 4) : pg_num (T.2.1 r) ∧ pg_h (T.2.1 r) < 190 := by
  have hz2 := hG.2.1
  have hin : pg_in T.2.2.2.2 r (pg_sR T r) := ⟨(hG.2.2.1 r hr).1, hG.1⟩
  have hsm := hin.sm (show T.1.1 ≤ 252 by omega)
  have h1 : pg_h (T.2.1 r) ≤ pg_e (T.2.1 r) := hsm.1
  have h3 : 3 * pg_e (T.2.1 r) ≤ T.1.1 := hsm.2.2
  exact ⟨hin.1.num (show T.1.1 ≤ 256 by omega), by omega⟩
theorem c_T_ordered (l : Launch) (G : xj_G) (v : xn_V) (T : pg_T) (hT : xt_T T v) (hG : pg_gi T) (r n : Int32) : xn_M l G 1 23 m_T_ordered [.ref (xj_ad G (21, 0, 0)), .int r, .int n] v (some (.int (pg_ordered T r n))) v := by
  unfold pg_ordered
  refine xn_M_of (by decide) (Nat.le_of_ble_eq_true rfl) (fun E hE C => ?_)
  subst hE
  replace C : xj_C E G prog_9_method_54_code "ThreePhaseGroupModel" 4 1 23 0 0 (some .int) := C
  show xn_X E G _ 0 0 0 [some (.ref (xj_ad G (21, 0, 0))), some (.int r), some (.int n), none] [] v
  refine xj_iload_n C a_T_ordered_0 rfl ?_
  refine xj_iconst (v := nI 0) C a_T_ordered_1 (by decide) ?_
  refine xj_iconst (v := nI 3) C a_T_ordered_2 (by decide) ?_
  refine xn_callS3i C a_T_ordered_3 (c_T_outside _ _ v r (nI 0) (nI 3)) ms_T_outside lk_T_95 ⟨by decide, by decide⟩ rfl (Nat.le_of_ble_eq_true rfl) ⟨Nat.le_refl _, Nat.le_refl _⟩ ?_
  refine xj_if_ne C a_T_ordered_6 rfl (fun h6 => ?_) (fun h6 => ?_)
  · rw [xp_outI (n := 4) (by decide) (by omega)] at h6
    rw [if_neg (fun h => h6 h.1)]
    refine xj_bipush (v := -2) C a_T_ordered_19 (by decide) ?_
    refine xj_iret C a_T_ordered_21 ?_
    exact ⟨rfl, rfl⟩
  · rw [xp_outI (n := 4) (by decide) (by omega)] at h6
    have h6 : (xp_at 4 r).isSome = true := by simpa using h6
    obtain ⟨q, hq, rfl, hq2⟩ := xp_isS (by decide) h6
    obtain ⟨hN, hh⟩ := hG.win hq
    have hR := hT.2.1 q hq
    rw [hq2]
    refine xj_aload_n C a_T_ordered_9 rfl ?_
    refine xj_iload_n C a_T_ordered_10 rfl ?_
    refine xj_iload_n C a_T_ordered_11 rfl ?_
    refine xj_i2l C a_T_ordered_12 ?_
    refine xn_callV2i C a_T_ordered_13 (c_T_window _ _ v q hq (T.2.1 q) hR (by omega) n.toInt64) mv_T_window lk_T_149 ⟨rfl, rfl, rfl⟩ xj_ok21 ⟨by decide, by decide⟩ rfl (Nat.le_of_ble_eq_true rfl) ⟨Nat.le_refl _, Nat.le_refl _⟩ ?_
    refine xj_if_ne C a_T_ordered_16 rfl (fun h16 => ?_) (fun h16 => ?_)
    · rw [xp_b0] at h16
      have h16 : pg_win (T.2.1 q) n.toInt64 = true := by simpa using h16
      rw [if_pos ⟨h6, h16⟩]
      obtain ⟨k, rfl, k2, k3, k4⟩ := pg_win_i hN h16
      rw [k4]
      have hde := (hN.2.2.2.2.2.2.2 k).2.1
      refine xj_sipush (v := nI 200) C a_T_ordered_22 (by decide) ?_
      refine xj_iload_n C a_T_ordered_25 rfl ?_
      refine xj_imulN C a_T_ordered_26 ?_
      refine xj_iload_n C a_T_ordered_27 rfl ?_
      refine xj_iaddN C a_T_ordered_28 ?_
      refine xj_istore3 C a_T_ordered_29 rfl ?_
      refine xj_aload_n C a_T_ordered_30 rfl ?_
      refine xn_g_T_decided C a_T_ordered_31 fl_T_60 ?_
      refine xj_iload_n C a_T_ordered_34 rfl ?_
      refine xn_ld_38 C a_T_ordered_35 (by first | assumption | omega) ?_
      refine xj_topi (hR.de (show k < 200 by omega)) ?_
      refine xj_if_eq C a_T_ordered_36 rfl (fun h36 => ?_) (fun h36 => ?_)
      · rw [xp_nz (by omega)] at h36
        rw [if_pos h36]
        refine xj_aload_n C a_T_ordered_50 rfl ?_
        refine xn_g_T_accepted C a_T_ordered_51 fl_T_57 ?_
        refine xj_iload_n C a_T_ordered_54 rfl ?_
        refine xn_ld_37 C a_T_ordered_55 (by first | assumption | omega) ?_
        refine xj_topi (hR.ac (show k < 200 by omega)) ?_
        refine xj_iconst (v := nI 2) C a_T_ordered_56 (by decide) ?_
        refine xj_isub C a_T_ordered_57 ?_
        refine xj_iret C a_T_ordered_58 ?_
        exact ⟨rfl, rfl⟩
      · rw [xp_nz (by omega)] at h36
        rw [if_neg h36]
        refine xj_aload_n C a_T_ordered_39 rfl ?_
        refine xn_g_T_decided C a_T_ordered_40 fl_T_60 ?_
        refine xj_iload_n C a_T_ordered_43 rfl ?_
        refine xn_ld_38 C a_T_ordered_44 (by first | assumption | omega) ?_
        refine xj_topi (hR.de (show k < 200 by omega)) ?_
        refine xj_iconst (v := nI 2) C a_T_ordered_45 (by decide) ?_
        refine xj_isub C a_T_ordered_46 ?_
        refine xj_goto C a_T_ordered_47 rfl ?_
        refine xj_iret C a_T_ordered_58 ?_
        exact ⟨rfl, rfl⟩
    · rw [xp_b0] at h16
      have h16 : pg_win (T.2.1 q) n.toInt64 = false := by simpa using h16
      rw [if_neg (by rw [h16]; rintro ⟨-, g⟩; cases g)]
      refine xj_bipush (v := -2) C a_T_ordered_19 (by decide) ?_
      refine xj_iret C a_T_ordered_21 ?_
      exact ⟨rfl, rfl⟩
theorem c_T_slot (l : Launch) (G : xj_G) (v : xn_V) (T : pg_T) (hT : xt_T T v) (hG : pg_gi T) (r n : Int32) : xn_M l G 1 30 m_T_slot [.ref (xj_ad G (21, 0, 0)), .int r, .int n] v (some (.int (pg_slot T r n))) v := by
  unfold pg_slot
  refine xn_M_of (by decide) (Nat.le_of_ble_eq_true rfl) (fun E hE C => ?_)
  subst hE
  replace C : xj_C E G prog_9_method_53_code "ThreePhaseGroupModel" 6 1 30 0 0 (some .int) := C
  show xn_X E G _ 0 0 0 [some (.ref (xj_ad G (21, 0, 0))), some (.int r), some (.int n), none, none, none] [] v
  refine xj_iload_n C a_T_slot_0 rfl ?_
  refine xj_iconst (v := nI 0) C a_T_slot_1 (by decide) ?_
  refine xj_iconst (v := nI 3) C a_T_slot_2 (by decide) ?_
  refine xn_callS3i C a_T_slot_3 (c_T_outside _ _ v r (nI 0) (nI 3)) ms_T_outside lk_T_95 ⟨by decide, by decide⟩ rfl (Nat.le_of_ble_eq_true rfl) ⟨Nat.le_refl _, Nat.le_refl _⟩ ?_
  refine xj_if_ne C a_T_slot_6 rfl (fun h6 => ?_) (fun h6 => ?_)
  · rw [xp_outI (n := 4) (by decide) (by omega)] at h6
    rw [if_neg (fun h => h6 h.1)]
    refine xj_iconst (v := -1) C a_T_slot_19 (by decide) ?_
    refine xj_iret C a_T_slot_20 ?_
    exact ⟨rfl, rfl⟩
  · rw [xp_outI (n := 4) (by decide) (by omega)] at h6
    have h6 : (xp_at 4 r).isSome = true := by simpa using h6
    obtain ⟨q, hq, rfl, hq2⟩ := xp_isS (by decide) h6
    obtain ⟨hN, hh⟩ := hG.win hq
    have hR := hT.2.1 q hq
    rw [hq2]
    refine xj_aload_n C a_T_slot_9 rfl ?_
    refine xj_iload_n C a_T_slot_10 rfl ?_
    refine xj_iload_n C a_T_slot_11 rfl ?_
    refine xj_i2l C a_T_slot_12 ?_
    refine xn_callV2i C a_T_slot_13 (c_T_window _ _ v q hq (T.2.1 q) hR (by omega) n.toInt64) mv_T_window lk_T_149 ⟨rfl, rfl, rfl⟩ xj_ok21 ⟨by decide, by decide⟩ rfl (Nat.le_of_ble_eq_true rfl) ⟨Nat.le_refl _, Nat.le_refl _⟩ ?_
    refine xj_if_ne C a_T_slot_16 rfl (fun h16 => ?_) (fun h16 => ?_)
    · rw [xp_b0] at h16
      have h16 : pg_win (T.2.1 q) n.toInt64 = true := by simpa using h16
      rw [if_pos ⟨h6, h16⟩]
      obtain ⟨k, rfl, k2, k3, k4⟩ := pg_win_i hN h16
      rw [k4]
      obtain ⟨hac, hde, hct⟩ := hN.2.2.2.2.2.2.2 k
      have tail : ∀ d, d = (if pg_de (T.2.1 q) k = 0 then 0 else 4) → xn_X E G (xj_R E G (fun a' w' => a' = some (.int (nI (pg_slotv (pg_sR T q) q k))) ∧ w' = xn_W v) 0 0) 0 0 43 [some (.ref (xj_ad G (21, 0, 0))), some (.int (nI q)), some (.int (nI k)), some (.int (nI (200 * q + k))), none, none] [.int (nI d)] v := by
        intro d hd
        refine xj_sipush (v := nI 1024) C a_T_slot_43 (by decide) ?_
        refine xj_aload_n C a_T_slot_46 rfl ?_
        refine xn_g_T_certView C a_T_slot_47 fl_T_66 ?_
        refine xj_iload_n C a_T_slot_50 rfl ?_
        refine xn_ld_40 C a_T_slot_51 (by first | assumption | omega) ?_
        refine xj_topi (hR.ct (show k < 200 by omega)) ?_
        refine xj_imulN C a_T_slot_52 ?_
        refine xj_iaddN C a_T_slot_53 ?_
        refine xj_istore4 C a_T_slot_54 rfl ?_
        refine xj_aload_n C a_T_slot_56 rfl ?_
        refine xn_g_T_accepted C a_T_slot_57 fl_T_57 ?_
        refine xj_iload_n C a_T_slot_60 rfl ?_
        refine xn_ld_37 C a_T_slot_61 (by first | assumption | omega) ?_
        refine xj_topi (hR.ac (show k < 200 by omega)) ?_
        refine xj_if_ne C a_T_slot_62 rfl (fun h62 => ?_) (fun h62 => ?_)
        · rw [xp_nz (by omega)] at h62
          have rest : ∀ s, s = (if pg_sent T.1 q 3 (pg_vw (T.2.1 q)) k then 2 else 0) → xn_X E G (xj_R E G (fun a' w' => a' = some (.int (nI (pg_slotv (pg_sR T q) q k))) ∧ w' = xn_W v) 0 0) 0 0 97 [some (.ref (xj_ad G (21, 0, 0))), some (.int (nI q)), some (.int (nI k)), some (.int (nI (200 * q + k))), some (.int (nI (d + 1024 * pg_ct (T.2.1 q) k))), some (.int (nI (pg_ac (T.2.1 q) k) - 2))] [.int (nI s), .int (nI (d + 1024 * pg_ct (T.2.1 q) k + 1))] v := by
            intro s hs
            refine xj_iaddN C a_T_slot_97 ?_
            refine xj_bipush (v := nI 8) C a_T_slot_98 (by decide) ?_
            refine xj_aload_n C a_T_slot_100 rfl ?_
            refine xj_iload_n C a_T_slot_101 rfl ?_
            refine xj_iconst (v := nI 2) C a_T_slot_102 (by decide) ?_
            refine xj_aload_n C a_T_slot_103 rfl ?_
            refine xn_g_T_view C a_T_slot_104 fl_T_36 ?_
            refine xj_iload_n C a_T_slot_107 rfl ?_
            refine xn_ld_30 C a_T_slot_108 (by first | assumption | omega) ?_
            refine xj_topi hR.vw ?_
            refine xj_iload_n C a_T_slot_109 rfl ?_
            refine xj_i2l C a_T_slot_110 ?_
            refine xj_topl (nI_l (show k < 2 ^ 31 by omega)) ?_
            refine xj_iload C a_T_slot_111 rfl ?_
            refine xn_callV5i C a_T_slot_113 (c_T_heard _ _ v q hq (pg_sR T q) hT.1 hR 2 (by omega) (nI (pg_vw (T.2.1 q))) (lN k) (nI (pg_ac (T.2.1 q) k) - 2)) mv_T_heard lk_T_211 ⟨rfl, rfl, rfl⟩ xj_ok21 ⟨by decide, by decide⟩ rfl (Nat.le_of_ble_eq_true rfl) ⟨Nat.le_refl _, Nat.le_refl _⟩ ?_
            refine xj_imulN C a_T_slot_116 ?_
            refine xj_iaddN C a_T_slot_117 ?_
            refine xj_bipush (v := nI 64) C a_T_slot_118 (by decide) ?_
            refine xj_aload_n C a_T_slot_120 rfl ?_
            refine xj_iload_n C a_T_slot_121 rfl ?_
            refine xj_iconst (v := nI 3) C a_T_slot_122 (by decide) ?_
            refine xj_aload_n C a_T_slot_123 rfl ?_
            refine xn_g_T_view C a_T_slot_124 fl_T_36 ?_
            refine xj_iload_n C a_T_slot_127 rfl ?_
            refine xn_ld_30 C a_T_slot_128 (by first | assumption | omega) ?_
            refine xj_topi hR.vw ?_
            refine xj_iload_n C a_T_slot_129 rfl ?_
            refine xj_i2l C a_T_slot_130 ?_
            refine xj_topl (nI_l (show k < 2 ^ 31 by omega)) ?_
            refine xj_iload C a_T_slot_131 rfl ?_
            refine xn_callV5i C a_T_slot_133 (c_T_heard _ _ v q hq (pg_sR T q) hT.1 hR 3 (by omega) (nI (pg_vw (T.2.1 q))) (lN k) (nI (pg_ac (T.2.1 q) k) - 2)) mv_T_heard lk_T_211 ⟨rfl, rfl, rfl⟩ xj_ok21 ⟨by decide, by decide⟩ rfl (Nat.le_of_ble_eq_true rfl) ⟨Nat.le_refl _, Nat.le_refl _⟩ ?_
            refine xj_imulN C a_T_slot_136 ?_
            refine xj_iaddN C a_T_slot_137 ?_
            refine xj_iret C a_T_slot_138 ?_
            refine ⟨?_, rfl⟩
            congr 3
            show _ = (if pg_de (T.2.1 q) k = 0 then 0 else 4) + 1024 * pg_ct (T.2.1 q) k + (if pg_ac (T.2.1 q) k = 0 then 0 else 1 + (if pg_sent T.1 q 3 (pg_vw (T.2.1 q)) k then 2 else 0) + 8 * pg_hr (pg_sR T q) 2 (nI (pg_vw (T.2.1 q))) (lN k) (nI (pg_ac (T.2.1 q) k) - 2) + 64 * pg_hr (pg_sR T q) 3 (nI (pg_vw (T.2.1 q))) (lN k) (nI (pg_ac (T.2.1 q) k) - 2))
            rw [if_neg h62, ← hs, ← hd]
            omega
          refine xj_aload_n C a_T_slot_68 rfl ?_
          refine xn_g_T_accepted C a_T_slot_69 fl_T_57 ?_
          refine xj_iload_n C a_T_slot_72 rfl ?_
          refine xn_ld_37 C a_T_slot_73 (by first | assumption | omega) ?_
          refine xj_topi (hR.ac (show k < 200 by omega)) ?_
          refine xj_iconst (v := nI 2) C a_T_slot_74 (by decide) ?_
          refine xj_isub C a_T_slot_75 ?_
          refine xj_istore5 C a_T_slot_76 rfl ?_
          refine xj_iload C a_T_slot_78 rfl ?_
          refine xj_iconst (v := nI 1) C a_T_slot_80 (by decide) ?_
          refine xj_iaddN C a_T_slot_81 ?_
          refine xj_aload_n C a_T_slot_82 rfl ?_
          refine xj_iload_n C a_T_slot_83 rfl ?_
          refine xj_iconst (v := nI 3) C a_T_slot_84 (by decide) ?_
          refine xj_iload_n C a_T_slot_85 rfl ?_
          refine xn_callV3i C a_T_slot_86 (c_T_sent _ _ v q hq (pg_sR T q) hT.1 hR 3 k (by omega) (by omega)) mv_T_sent lk_T_208 ⟨rfl, rfl, rfl⟩ xj_ok21 ⟨by decide, by decide⟩ rfl (Nat.le_of_ble_eq_true rfl) ⟨Nat.le_refl _, Nat.le_refl _⟩ ?_
          refine xj_if_eq C a_T_slot_89 rfl (fun h89 => ?_) (fun h89 => ?_)
          · rw [xp_b0] at h89
            refine xj_iconst (v := nI 0) C a_T_slot_96 (by decide) ?_
            exact rest 0 (by rw [show pg_sent T.1 q 3 (pg_vw (T.2.1 q)) k = false from h89]; rfl)
          · rw [xp_b0] at h89
            have h89 : pg_sent (pg_sR T q).1 q 3 (pg_vw (pg_sR T q).2) k = true := by simpa using h89
            have h89 : pg_sent T.1 q 3 (pg_vw (T.2.1 q)) k = true := h89
            refine xj_iconst (v := nI 2) C a_T_slot_92 (by decide) ?_
            refine xj_goto C a_T_slot_93 rfl ?_
            exact rest 2 (by rw [h89]; rfl)
        · rw [xp_nz (by omega)] at h62
          have h62 : pg_ac (T.2.1 q) k = 0 := by simpa using h62
          refine xj_iload C a_T_slot_65 rfl ?_
          refine xj_iret C a_T_slot_67 ?_
          refine ⟨?_, rfl⟩
          congr 3
          show _ = (if pg_de (T.2.1 q) k = 0 then 0 else 4) + 1024 * pg_ct (T.2.1 q) k + (if pg_ac (T.2.1 q) k = 0 then 0 else _)
          rw [if_pos h62, ← hd]
          rfl
      refine xj_sipush (v := nI 200) C a_T_slot_21 (by decide) ?_
      refine xj_iload_n C a_T_slot_24 rfl ?_
      refine xj_imulN C a_T_slot_25 ?_
      refine xj_iload_n C a_T_slot_26 rfl ?_
      refine xj_iaddN C a_T_slot_27 ?_
      refine xj_istore3 C a_T_slot_28 rfl ?_
      refine xj_aload_n C a_T_slot_29 rfl ?_
      refine xn_g_T_decided C a_T_slot_30 fl_T_60 ?_
      refine xj_iload_n C a_T_slot_33 rfl ?_
      refine xn_ld_38 C a_T_slot_34 (by first | assumption | omega) ?_
      refine xj_topi (hR.de (show k < 200 by omega)) ?_
      refine xj_if_eq C a_T_slot_35 rfl (fun h35 => ?_) (fun h35 => ?_)
      · rw [xp_nz (by omega)] at h35
        refine xj_iconst (v := nI 0) C a_T_slot_42 (by decide) ?_
        exact tail 0 (by rw [if_pos h35])
      · rw [xp_nz (by omega)] at h35
        refine xj_iconst (v := nI 4) C a_T_slot_38 (by decide) ?_
        refine xj_goto C a_T_slot_39 rfl ?_
        exact tail 4 (by rw [if_neg h35])
    · rw [xp_b0] at h16
      have h16 : pg_win (T.2.1 q) n.toInt64 = false := by simpa using h16
      rw [if_neg (by rw [h16]; rintro ⟨-, g⟩; cases g)]
      refine xj_iconst (v := -1) C a_T_slot_19 (by decide) ?_
      refine xj_iret C a_T_slot_20 ?_
      exact ⟨rfl, rfl⟩
theorem c_T_look (l : Launch) (G : xj_G) (v : xn_V) (T : pg_T) (hT : xt_T T v) (hG : pg_gi T) (m k : Int32) : xn_M l G 4 111 m_T_look [.ref (xj_ad G (21, 0, 0)), .int m, .int k] v (some (.long (pg_look T m k))) v := by
  have hz2 := hG.2.1
  have hB := hT.1
  unfold pg_look
  refine xn_M_of (by decide) (Nat.le_of_ble_eq_true rfl) (fun E hE C => ?_)
  subst hE
  replace C : xj_C E G prog_9_method_47_code "ThreePhaseGroupModel" 3 4 111 0 0 (some .long) := C
  show xn_X E G _ 0 0 0 [some (.ref (xj_ad G (21, 0, 0))), some (.int m), some (.int k)] [] v
  have hc1 : (nI T.1.1 - nI 1).toInt = (T.1.1 : Int) - 1 := by
    by_cases h0 : T.1.1 = 0
    · rw [h0]; decide
    · have e : nI T.1.1 - nI 1 = nI (T.1.1 - 1) := pk_sub (by omega)
      rw [e, nI_toInt (by omega)]
      omega
  refine xj_iload_n C a_T_look_0 rfl ?_
  refine xj_iconst (v := nI 0) C a_T_look_1 (by decide) ?_
  refine xj_aload_n C a_T_look_2 rfl ?_
  refine xn_g_T_count C a_T_look_3 fl_T_88 ?_
  refine xj_topi hB.z ?_
  refine xj_iconst (v := nI 1) C a_T_look_6 (by decide) ?_
  refine xj_isub C a_T_look_7 ?_
  refine xn_callS3i C a_T_look_8 (c_T_outside _ _ v m (nI 0) (nI T.1.1 - nI 1)) ms_T_outside lk_T_95 ⟨by decide, by decide⟩ rfl (Nat.le_of_ble_eq_true rfl) ⟨Nat.le_refl _, Nat.le_refl _⟩ ?_
  refine xj_if_ne C a_T_look_11 rfl (fun h11 => ?_) (fun h11 => ?_)
  · rw [xp_outI hc1 (by omega)] at h11
    rw [if_neg (fun h => h11 h.1)]
    refine xj_ldc2 C a_T_look_23 kl_T_222 ?_
    refine xj_lret C a_T_look_26 ?_
    exact ⟨rfl, rfl⟩
  · rw [xp_outI hc1 (by omega)] at h11
    have h11 : (xp_at T.1.1 m).isSome = true := by simpa using h11
    refine xj_iload_n C a_T_look_14 rfl ?_
    refine xj_iconst (v := nI 0) C a_T_look_15 (by decide) ?_
    refine xj_iconst (v := nI 5) C a_T_look_16 (by decide) ?_
    refine xn_callS3i C a_T_look_17 (c_T_outside _ _ v k (nI 0) (nI 5)) ms_T_outside lk_T_95 ⟨by decide, by decide⟩ rfl (Nat.le_of_ble_eq_true rfl) ⟨Nat.le_refl _, Nat.le_refl _⟩ ?_
    refine xj_if_eq C a_T_look_20 rfl (fun h20 => ?_) (fun h20 => ?_)
    · rw [xp_outI (n := 6) (by decide) (by omega)] at h20
      rw [if_pos ⟨h11, h20⟩]
      obtain ⟨a, a1, rfl, a3⟩ := xp_isS (by omega) h11
      obtain ⟨q, q1, rfl, q3⟩ := xp_isS (by decide) h20
      rw [a3, q3]
      refine xj_iload_n C a_T_look_27 rfl ?_
      refine xj_iconst (v := nI 5) C a_T_look_28 (by decide) ?_
      refine xj_icmp_ne C a_T_look_29 rfl (fun h29 => ?_) (fun h29 => ?_)
      · rw [nI_eq (by omega) (by omega)] at h29
        refine xj_iload_n C a_T_look_54 rfl ?_
        refine xj_if_ne C a_T_look_55 rfl (fun h55 => ?_) (fun h55 => ?_)
        · rw [xp_nz (by omega)] at h55
          rw [if_neg h55]
          refine xj_iload_n C a_T_look_68 rfl ?_
          refine xj_iconst (v := nI 1) C a_T_look_69 (by decide) ?_
          refine xj_icmp_ne C a_T_look_70 rfl (fun h70 => ?_) (fun h70 => ?_)
          · rw [nI_eq (by omega) (by omega)] at h70
            rw [if_neg h70]
            refine xj_iload_n C a_T_look_83 rfl ?_
            refine xj_iconst (v := nI 2) C a_T_look_84 (by decide) ?_
            refine xj_icmp_ne C a_T_look_85 rfl (fun h85 => ?_) (fun h85 => ?_)
            · rw [nI_eq (by omega) (by omega)] at h85
              rw [if_neg h85]
              refine xj_iload_n C a_T_look_98 rfl ?_
              refine xj_iconst (v := nI 3) C a_T_look_99 (by decide) ?_
              refine xj_icmp_ne C a_T_look_100 rfl (fun h100 => ?_) (fun h100 => ?_)
              · rw [nI_eq (by omega) (by omega)] at h100
                rw [if_neg h100, if_pos (by omega)]
                refine xj_aload_n C a_T_look_112 rfl ?_
                refine xn_g_T_c C a_T_look_113 fl_T_23 ?_
                refine xj_iload_n C a_T_look_116 rfl ?_
                refine xn_ld_26 C a_T_look_117 (by first | assumption | omega) ?_
                refine xj_topi (hB.c a1) ?_
                refine xj_i2l C a_T_look_118 ?_
                refine xj_lret C a_T_look_119 ?_
                exact ⟨rfl, rfl⟩
              · rw [nI_eq (by omega) (by omega)] at h100
                rw [if_pos (by omega)]
                refine xj_aload_n C a_T_look_103 rfl ?_
                refine xn_g_T_b C a_T_look_104 fl_T_19 ?_
                refine xj_iload_n C a_T_look_107 rfl ?_
                refine xn_ld_25 C a_T_look_108 (by first | assumption | omega) ?_
                refine xj_topl (hB.b a1) ?_
                refine xj_goto C a_T_look_109 rfl ?_
                refine xj_lret C a_T_look_119 ?_
                exact ⟨rfl, rfl⟩
            · rw [nI_eq (by omega) (by omega)] at h85
              rw [if_pos (by omega)]
              refine xj_aload_n C a_T_look_88 rfl ?_
              refine xn_g_T_a C a_T_look_89 fl_T_16 ?_
              refine xj_iload_n C a_T_look_92 rfl ?_
              refine xn_ld_24 C a_T_look_93 (by first | assumption | omega) ?_
              refine xj_topi (hB.a a1) ?_
              refine xj_i2l C a_T_look_94 ?_
              refine xj_goto C a_T_look_95 rfl ?_
              refine xj_lret C a_T_look_119 ?_
              exact ⟨rfl, rfl⟩
          · rw [nI_eq (by omega) (by omega)] at h70
            rw [if_pos (by omega)]
            refine xj_aload_n C a_T_look_73 rfl ?_
            refine xn_g_T_from C a_T_look_74 fl_T_13 ?_
            refine xj_iload_n C a_T_look_77 rfl ?_
            refine xn_ld_23 C a_T_look_78 (by first | assumption | omega) ?_
            refine xj_topi (hB.f a1) ?_
            refine xj_i2l C a_T_look_79 ?_
            refine xj_goto C a_T_look_80 rfl ?_
            refine xj_lret C a_T_look_119 ?_
            exact ⟨rfl, rfl⟩
        · rw [xp_nz (by omega)] at h55
          rw [if_pos (by omega)]
          refine xj_aload_n C a_T_look_58 rfl ?_
          refine xn_g_T_kind C a_T_look_59 fl_T_7 ?_
          refine xj_iload_n C a_T_look_62 rfl ?_
          refine xn_ld_22 C a_T_look_63 (by first | assumption | omega) ?_
          refine xj_topi (hB.k a1) ?_
          refine xj_i2l C a_T_look_64 ?_
          refine xj_goto C a_T_look_65 rfl ?_
          refine xj_lret C a_T_look_119 ?_
          exact ⟨rfl, rfl⟩
      · rw [nI_eq (by omega) (by omega)] at h29
        have h29 : q = 5 := by omega
        rw [if_neg (by omega), if_neg (by omega), if_neg (by omega), if_neg (by omega), if_neg (by omega)]
        have hcp : ∀ x, x < T.1.1 → pg_gc T.1 x = true → ∃ p, p < 390 ∧ pg_b T.1 x = lN p := by
          intro x hx hg
          rcases pg_gc_b hg with g | g
          · exact ⟨0, by decide, g⟩
          · obtain ⟨p, p1, p2, p3⟩ := hG.1.cert (by omega) (Nat.le_of_lt hx) g
            exact ⟨p, by omega, p1⟩
        refine xj_aload_n C a_T_look_32 rfl ?_
        refine xj_iload_n C a_T_look_33 rfl ?_
        refine xn_callV1i C a_T_look_34 (c_T_goodChange _ _ v T.1 hB a a1) mv_T_goodChange lk_T_115 ⟨rfl, rfl, rfl⟩ xj_ok21 ⟨by decide, by decide⟩ rfl (Nat.le_of_ble_eq_true rfl) ⟨Nat.le_refl _, Nat.le_refl _⟩ ?_
        refine xj_if_ne C a_T_look_37 rfl (fun h37 => ?_) (fun h37 => ?_)
        · rw [xp_b0] at h37
          have h37 : pg_gc T.1 a = true := by simpa using h37
          rw [if_pos (by rw [h37]; rfl)]
          refine xj_lconst (v := lN 1) C a_T_look_48 (by decide) ?_
          refine xj_goto C a_T_look_49 rfl ?_
          refine xj_lret C a_T_look_53 ?_
          exact ⟨rfl, rfl⟩
        · rw [xp_b0] at h37
          have h37 : pg_gc T.1 a = false := by simpa using h37
          refine xj_aload_n C a_T_look_40 rfl ?_
          refine xj_iload_n C a_T_look_41 rfl ?_
          refine xn_callV1i C a_T_look_42 (c_T_goodNew _ _ v T.1 hB hcp a a1) mv_T_goodNew lk_T_166 ⟨rfl, rfl, rfl⟩ xj_ok21 ⟨by decide, by decide⟩ rfl (Nat.le_of_ble_eq_true rfl) ⟨Nat.le_refl _, Nat.le_refl _⟩ ?_
          refine xj_if_eq C a_T_look_45 rfl (fun h45 => ?_) (fun h45 => ?_)
          · rw [xp_b0] at h45
            rw [if_neg (by rw [h37, h45]; decide)]
            refine xj_lconst (v := lN 0) C a_T_look_52 (by decide) ?_
            refine xj_lret C a_T_look_53 ?_
            exact ⟨rfl, rfl⟩
          · rw [xp_b0] at h45
            have h45 : pg_gn T.1 a = true := by simpa using h45
            rw [if_pos (by rw [h37, h45]; rfl)]
            refine xj_lconst (v := lN 1) C a_T_look_48 (by decide) ?_
            refine xj_goto C a_T_look_49 rfl ?_
            refine xj_lret C a_T_look_53 ?_
            exact ⟨rfl, rfl⟩
    · rw [xp_outI (n := 6) (by decide) (by omega)] at h20
      rw [if_neg (fun h => h20 h.2)]
      refine xj_ldc2 C a_T_look_23 kl_T_222 ?_
      refine xj_lret C a_T_look_26 ?_
      exact ⟨rfl, rfl⟩
theorem c_T_waiting2 (l : Launch) (G : xj_G) (v : xn_V) (T : pg_T) (hT : xt_T T v) (r : Int32) : xn_M l G 1 23 m_T_waiting [.ref (xj_ad G (21, 0, 0)), .int r] v (some (.int (pg_oR r (nI (pg_wn (pg_sR T (xp_un r))))))) v := by
  unfold pg_oR
  by_cases hbad : (xp_at 4 r).isSome = true
  · rw [if_pos hbad]
    obtain ⟨q, hq, rfl, hq2⟩ := xp_isS (by decide) hbad
    rw [hq2]
    exact c_T_waiting l G v q hq (pg_sR T q) hT.1 (hT.2.1 q hq)
  · rw [if_neg hbad]
    refine xn_M_of (by decide) (Nat.le_of_ble_eq_true rfl) (fun E hE C => ?_)
    subst hE
    replace C : xj_C E G prog_9_method_18_code "ThreePhaseGroupModel" 4 1 23 0 0 (some .int) := C
    show xn_X E G _ 0 0 0 [some (.ref (xj_ad G (21, 0, 0))), some (.int r), none, none] [] v
    refine xj_iload_n C a_T_waiting_0 rfl ?_
    refine xj_iconst (v := nI 0) C a_T_waiting_1 (by decide) ?_
    refine xj_iconst (v := nI 3) C a_T_waiting_2 (by decide) ?_
    refine xn_callS3i C a_T_waiting_3 (c_T_outside _ _ v r (nI 0) (nI 3)) ms_T_outside lk_T_95 ⟨by decide, by decide⟩ rfl (Nat.le_of_ble_eq_true rfl) ⟨Nat.le_refl _, Nat.le_refl _⟩ ?_
    refine xj_if_eq C a_T_waiting_6 rfl (fun h6 => ?_) (fun h6 => ?_)
    · rw [xp_outI (n := 4) (by decide) (by omega)] at h6
      exact absurd h6 hbad
    · refine xj_iconst (v := -1) C a_T_waiting_9 (by decide) ?_
      refine xj_iret C a_T_waiting_10 ?_
      exact ⟨rfl, rfl⟩
