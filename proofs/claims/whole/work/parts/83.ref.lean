/-! the reference: executing -/
theorem xp_c64 : ∀ c, c < 64 → nI c >>> (nI 4 &&& 31) = nI (c / 16) ∧ nI c &&& nI 15 = nI (c % 16) := by decide +kernel
theorem c_T_serves (l : Launch) (G : xj_G) (v : xn_V) (r : Nat) (hr : r < 4) (S : pg_S) (hS : xt_S r S v) (hQ : pg_rq S.1) (hz : S.1.1 < 200) (q : Nat) (hq : q < S.1.1) (hk : pg_k S.1 q = 0) : xj_Mx l G 1 27 0 0 m_T_serves [.ref (xj_ad G (21, 0, 0)), .int (nI r), .int (nI q)] (xn_W v) (xp_tv r v (pg_srv r S q)) := by
  obtain ⟨hB, hR, hA⟩ := hS
  obtain ⟨⟨t, ht, ha⟩, ⟨o, ho, hb⟩, ⟨cc, hcc, hc⟩⟩ := hQ q hq hk
  have hwf := hB.2.2.1 q hq
  have hf4 : 4 ≤ pg_f S.1 q := hwf.2.2.mp hk
  have hkey : pg_key S.1 q = cc / 16 := by unfold pg_key; rw [hc, xp_nat (by omega)]
  have hval : (pg_c S.1 q).toInt.toNat % 16 = cc % 16 := by rw [hc, xp_nat (by omega)]
  have hvl := pg_vl_lt S.2.2 (pg_key S.1 q)
  obtain ⟨o0, o1, o2, o3, o4⟩ := xp_o3 o ho
  refine xj_Mx_of (by decide) (Nat.le_of_ble_eq_true rfl) (fun E hE C _ => ?_)
  subst hE
  replace C : xj_C E G prog_9_method_32_code "ThreePhaseGroupModel" 12 1 27 0 0 none := C
  show xn_X E G _ 0 0 0 [some (.ref (xj_ad G (21, 0, 0))), some (.int (nI r)), some (.int (nI q)), none, none, none, none, none, none, none, none, none] [] v
  have last : ∀ res now, now = pg_now S.1 q S.2.2 → res = pg_res S.1 q S.2.2 → xn_X E G (xj_R E G (xp_tv r v (pg_srv r S q)) 0 0) 0 0 99 [some (.ref (xj_ad G (21, 0, 0))), some (.int (nI r)), some (.int (nI q)), some (.int (nI (4 * (cc / 16)))), some (.int (nI (cc % 16))), some (.int (nI (pg_vl S.2.2 (pg_key S.1 q)))), some (.int (nI now)), none, none, none, none, none] [.int (nI res)] v := by
    intro res now en er
    have hn16 := pg_now_lt S.1 q S.2.2
    have hr16 := pg_res_lt S.1 q S.2.2
    refine xj_istore7 C a_T_serves_99 rfl ?_
    refine xj_aload_n C a_T_serves_101 rfl ?_
    refine xn_g_T_from C a_T_serves_102 fl_T_13 ?_
    refine xj_iload_n C a_T_serves_105 rfl ?_
    refine xn_ld_23 C a_T_serves_106 (by first | assumption | omega) ?_
    refine xj_topi (hB.f hq) ?_
    refine xj_iconst (v := nI 4) C a_T_serves_107 (by decide) ?_
    refine xj_isub C a_T_serves_108 ?_
    refine xj_topi (y := nI (pg_f S.1 q - 4)) (pk_sub hf4) ?_
    refine xj_istore8 C a_T_serves_109 rfl ?_
    refine xj_bipush (v := nI 16) C a_T_serves_111 (by decide) ?_
    refine xj_bipush (v := nI 12) C a_T_serves_113 (by decide) ?_
    refine xj_iload C a_T_serves_115 rfl ?_
    refine xj_imulN C a_T_serves_117 ?_
    refine xj_iaddN C a_T_serves_118 ?_
    refine xj_istore9 C a_T_serves_119 rfl ?_
    refine xj_aload_n C a_T_serves_121 rfl ?_
    refine xn_g_T_state C a_T_serves_122 fl_T_48 ?_
    refine xj_iload_n C a_T_serves_125 rfl ?_
    refine xn_ld_34 C a_T_serves_126 (by first | assumption | omega) ?_
    refine xj_topl hR.st ?_
    refine xj_ldc2 C a_T_serves_127 kl_T_218 ?_
    refine xj_iload_n C a_T_serves_130 rfl ?_
    refine xj_lshl C a_T_serves_131 ?_
    refine xj_ldc2 C a_T_serves_132 kl_T_222 ?_
    refine xj_lxor C a_T_serves_135 ?_
    refine xj_land C a_T_serves_136 ?_
    refine xj_ldc2 C a_T_serves_137 kl_T_224 ?_
    refine xj_iload C a_T_serves_140 rfl ?_
    refine xj_lshl C a_T_serves_142 ?_
    refine xj_ldc2 C a_T_serves_143 kl_T_222 ?_
    refine xj_lxor C a_T_serves_146 ?_
    refine xj_land C a_T_serves_147 ?_
    refine xj_lstore10 C a_T_serves_148 rfl ?_
    refine xj_aload_n C a_T_serves_150 rfl ?_
    refine xn_g_T_state C a_T_serves_151 fl_T_48 ?_
    refine xj_iload_n C a_T_serves_154 rfl ?_
    refine xj_lload C a_T_serves_155 rfl ?_
    refine xj_iload C a_T_serves_157 rfl ?_
    refine xj_i2l C a_T_serves_159 ?_
    refine xj_topl (nI_l (show now < 2 ^ 31 by omega)) ?_
    refine xj_iload_n C a_T_serves_160 rfl ?_
    refine xj_lshl C a_T_serves_161 ?_
    refine xj_lor C a_T_serves_162 ?_
    refine xj_aload_n C a_T_serves_163 rfl ?_
    refine xn_g_T_a C a_T_serves_164 fl_T_16 ?_
    refine xj_iload_n C a_T_serves_167 rfl ?_
    refine xn_ld_24 C a_T_serves_168 (by first | assumption | omega) ?_
    refine xj_topi (hB.a hq) ?_
    refine xj_i2l C a_T_serves_169 ?_
    refine xj_iload C a_T_serves_170 rfl ?_
    refine xj_lshl C a_T_serves_172 ?_
    refine xj_lor C a_T_serves_173 ?_
    refine xj_iload C a_T_serves_174 rfl ?_
    refine xj_i2l C a_T_serves_176 ?_
    refine xj_topl (nI_l (show res < 2 ^ 31 by omega)) ?_
    refine xj_iload C a_T_serves_177 rfl ?_
    refine xj_bipush (v := nI 8) C a_T_serves_179 (by decide) ?_
    refine xj_iaddN C a_T_serves_181 ?_
    refine xj_lshl C a_T_serves_182 ?_
    refine xj_lor C a_T_serves_183 ?_
    refine xj_topl (y := pg_nst S.1 q S.2.2) ?_ ?_
    · unfold pg_nst
      simp only [hkey, ← en, ← er]
    have hR1 := (hR.sst (pg_nst S.1 q S.2.2)).uS (t := 4) (x := 4) (K := 35) (by decide) rfl
    have hB1 : xt_B S.1 (xn_uI (xn_uI (xn_uJ v 34 0 0 r (pg_nst S.1 q S.2.2)) 35 0 0 r (nI 4)) 21 0 0 21 (nI 1)) := ((hB.uJ (by omega)).uI (by omega)).uI (by omega)
    refine xn_st_34 C a_T_serves_184 (by first | assumption | omega) ?_
    refine xj_aload_n C a_T_serves_185 rfl ?_
    refine xn_g_T_span C a_T_serves_186 fl_T_51 ?_
    refine xj_iload_n C a_T_serves_189 rfl ?_
    refine xj_iconst (v := nI 4) C a_T_serves_190 (by decide) ?_
    refine xn_st_35 C a_T_serves_191 (by first | assumption | omega) ?_
    refine xj_aload_n C a_T_serves_192 rfl ?_
    refine xj_iconst (v := nI 1) C a_T_serves_193 (by decide) ?_
    refine xn_p_T_afresh C a_T_serves_194 fl_T_138 (by decide) ?_
    refine xj_aload_n C a_T_serves_197 rfl ?_
    refine xj_iconst (v := nI 4) C a_T_serves_198 (by decide) ?_
    refine xj_iload_n C a_T_serves_199 rfl ?_
    refine xj_iload C a_T_serves_200 rfl ?_
    refine xj_aload_n C a_T_serves_202 rfl ?_
    refine xn_g_T_a C a_T_serves_203 fl_T_16 ?_
    refine xj_iload_n C a_T_serves_206 rfl ?_
    refine xn_ld_24 C a_T_serves_207 (by first | assumption | omega) ?_
    refine xj_topi (hB1.a hq) ?_
    refine xj_i2l C a_T_serves_208 ?_
    refine xj_iload C a_T_serves_209 rfl ?_
    refine xn_callV5i C a_T_serves_211 (c_T_send _ _ _ S.1.1 r hB1.z hz (by omega) (nI 4) (nI (pg_f S.1 q - 4)) (pg_a S.1 q).toInt64 (nI res)) mv_T_send lk_T_179 ⟨rfl, rfl, rfl⟩ xj_ok21 ⟨by decide, by decide⟩ rfl (Nat.le_of_ble_eq_true rfl) ⟨Nat.le_refl _, Nat.le_refl _⟩ ?_
    refine xj_pop C a_T_serves_214 rfl ?_
    refine xj_vret C a_T_serves_215 ?_
    have hF1 : xf_T r v (xn_uI (xn_uI (xn_uJ v 34 0 0 r (pg_nst S.1 q S.2.2)) 35 0 0 r (nI 4)) 21 0 0 21 (nI 1)) := (((xf_T.rf r v).uJ (by omega)).uI (by omega)).uI (by omega)
    have hS2 := xt_S.own (r := r) (S := (S.1, pg_u (pg_u (pg_ss S.2 (pg_nst S.1 q S.2.2)) 4 0 4) 11 0 1)) ⟨hB1, (hR1.oth (by omega)).congr (fun t i ht => ?_) rfl, ?_⟩ hr hz 4 (by decide) (nI (pg_f S.1 q - 4)) (pg_a S.1 q).toInt64 (nI res)
    · refine ⟨rfl, _, rfl, ?_, hF1.ts hz⟩
      unfold pg_srv
      dsimp only
      rw [← er]
      exact hS2
    · show (if t = 11 ∧ i = 0 then 1 else _) = _
      rw [if_neg (by omega)]
    · show _ = nI 1
      simp [xn_uI]
  have mid : ∀ now, now = pg_now S.1 q S.2.2 → xn_X E G (xj_R E G (xp_tv r v (pg_srv r S q)) 0 0) 0 0 77 [some (.ref (xj_ad G (21, 0, 0))), some (.int (nI r)), some (.int (nI q)), some (.int (nI (4 * (cc / 16)))), some (.int (nI (cc % 16))), some (.int (nI (pg_vl S.2.2 (pg_key S.1 q)))), none, none, none, none, none, none] [.int (nI now)] v := by
    intro now en
    refine xj_istore6 C a_T_serves_77 rfl ?_
    refine xj_aload_n C a_T_serves_79 rfl ?_
    refine xn_g_T_b C a_T_serves_80 fl_T_19 ?_
    refine xj_iload_n C a_T_serves_83 rfl ?_
    refine xn_ld_25 C a_T_serves_84 (by first | assumption | omega) ?_
    refine xj_topl ((hB.b hq).trans hb) ?_
    refine xj_ldc2 C a_T_serves_85 kl_T_220 ?_
    refine xj_lcmp C a_T_serves_88 ?_
    refine xj_if_ne C a_T_serves_89 rfl (fun h89 => ?_) (fun h89 => ?_)
    · rw [xp_cmp_ne] at h89
      refine xj_iload C a_T_serves_97 rfl ?_
      refine last _ now en ?_
      unfold pg_res
      rw [if_neg (by rw [hb]; exact h89)]
    · rw [xp_cmp_ne] at h89
      refine xj_iload C a_T_serves_92 rfl ?_
      refine xj_goto C a_T_serves_94 rfl ?_
      refine last _ now en ?_
      unfold pg_res
      rw [if_pos (by rw [hb]; simpa using h89), en]
  refine xj_iconst (v := nI 4) C a_T_serves_0 (by decide) ?_
  refine xj_aload_n C a_T_serves_1 rfl ?_
  refine xn_g_T_c C a_T_serves_2 fl_T_23 ?_
  refine xj_iload_n C a_T_serves_5 rfl ?_
  refine xn_ld_26 C a_T_serves_6 (by first | assumption | omega) ?_
  refine xj_topi ((hB.c hq).trans hc) ?_
  refine xj_iconst (v := nI 4) C a_T_serves_7 (by decide) ?_
  refine xj_ishr C a_T_serves_8 ?_
  refine xj_topi (xp_c64 cc hcc).1 ?_
  refine xj_imulN C a_T_serves_9 ?_
  refine xj_istore3 C a_T_serves_10 rfl ?_
  refine xj_aload_n C a_T_serves_11 rfl ?_
  refine xn_g_T_c C a_T_serves_12 fl_T_23 ?_
  refine xj_iload_n C a_T_serves_15 rfl ?_
  refine xn_ld_26 C a_T_serves_16 (by first | assumption | omega) ?_
  refine xj_topi ((hB.c hq).trans hc) ?_
  refine xj_bipush (v := nI 15) C a_T_serves_17 (by decide) ?_
  refine xj_iand C a_T_serves_19 ?_
  refine xj_topi (xp_c64 cc hcc).2 ?_
  refine xj_istore4 C a_T_serves_20 rfl ?_
  refine xj_aload_n C a_T_serves_22 rfl ?_
  refine xn_g_T_state C a_T_serves_23 fl_T_48 ?_
  refine xj_iload_n C a_T_serves_26 rfl ?_
  refine xn_ld_34 C a_T_serves_27 (by first | assumption | omega) ?_
  refine xj_topl hR.st ?_
  refine xj_iload_n C a_T_serves_28 rfl ?_
  refine xj_lshr C a_T_serves_29 ?_
  refine xj_ldc2 C a_T_serves_30 kl_T_218 ?_
  refine xj_land C a_T_serves_33 ?_
  refine xj_topl (y := lN (pg_vl S.2.2 (pg_key S.1 q))) (by
    rw [xp_15, hkey]
    exact xb_ash S.2.2 (s := 4 * (cc / 16)) (j := 4) (by omega) (by omega)) ?_
  refine xj_l2i C a_T_serves_34 ?_
  refine xj_topi (lN_i _) ?_
  refine xj_istore5 C a_T_serves_35 rfl ?_
  refine xj_aload_n C a_T_serves_37 rfl ?_
  refine xn_g_T_b C a_T_serves_38 fl_T_19 ?_
  refine xj_iload_n C a_T_serves_41 rfl ?_
  refine xn_ld_25 C a_T_serves_42 (by first | assumption | omega) ?_
  refine xj_topl ((hB.b hq).trans hb) ?_
  refine xj_lconst (v := lN 0) C a_T_serves_43 (by decide) ?_
  refine xj_lcmp C a_T_serves_44 ?_
  refine xj_if_ne C a_T_serves_45 rfl (fun h45 => ?_) (fun h45 => ?_)
  · rw [xp_cmp_ne] at h45
    refine xj_aload_n C a_T_serves_53 rfl ?_
    refine xn_g_T_b C a_T_serves_54 fl_T_19 ?_
    refine xj_iload_n C a_T_serves_57 rfl ?_
    refine xn_ld_25 C a_T_serves_58 (by first | assumption | omega) ?_
    refine xj_topl ((hB.b hq).trans hb) ?_
    refine xj_lconst (v := lN 1) C a_T_serves_59 (by decide) ?_
    refine xj_lcmp C a_T_serves_60 ?_
    refine xj_if_ne C a_T_serves_61 rfl (fun h61 => ?_) (fun h61 => ?_)
    · rw [xp_cmp_ne] at h61
      refine xj_iload C a_T_serves_69 rfl ?_
      refine xj_iload C a_T_serves_71 rfl ?_
      refine xj_iaddN C a_T_serves_73 ?_
      refine xj_bipush (v := nI 16) C a_T_serves_74 (by decide) ?_
      refine xj_irem C a_T_serves_76 (by decide) ?_
      refine xj_topi (y := nI ((pg_vl S.2.2 (pg_key S.1 q) + cc % 16) % 16)) (pk_rem (d := 16) (by omega) (by omega) (by omega)) ?_
      refine mid _ ?_
      unfold pg_now
      rw [if_neg (by rw [hb]; exact h45), if_neg (by rw [hb]; exact h61), hval]
    · rw [xp_cmp_ne] at h61
      refine xj_iload C a_T_serves_64 rfl ?_
      refine xj_goto C a_T_serves_66 rfl ?_
      refine mid _ ?_
      unfold pg_now
      rw [if_neg (by rw [hb]; exact h45), if_pos (by rw [hb]; exact h61), hval]
  · rw [xp_cmp_ne] at h45
    refine xj_iload C a_T_serves_48 rfl ?_
    refine xj_goto C a_T_serves_50 rfl ?_
    refine mid _ ?_
    unfold pg_now
    rw [if_pos (by rw [hb]; exact h45)]
theorem c_T_executes (l : Launch) (G : xj_G) (v : xn_V) (r : Nat) (hr : r < 4) (S : pg_S) (hS : xt_S r S v) (hN : pg_num S.2) (hK : pg_kno S) (hQ : pg_rq S.1) (hz : S.1.1 < 199) (he : pg_e S.2 < 190) (hd : ∀ n, 2 ≤ pg_de S.2 n → pg_de S.2 n - 2 < S.1.1) : xj_Mx l G 2 58 0 0 m_T_executes [.ref (xj_ad G (21, 0, 0)), .int (nI r)] (xn_W v) (xp_tr r v S (pg_r4 r S)) := by
  obtain ⟨hB, hR, hA⟩ := hS
  have hde := (hN.2.2.2.2.2.2.2 (pg_e S.2 + 1)).2.1
  refine xj_Mx_of (by decide) (Nat.le_of_ble_eq_true rfl) (fun E hE C _ => ?_)
  subst hE
  replace C : xj_C E G prog_9_method_31_code "ThreePhaseGroupModel" 4 2 58 0 0 (some .boolean) := C
  show xn_X E G _ 0 0 0 [some (.ref (xj_ad G (21, 0, 0))), some (.int (nI r)), none, none] [] v
  refine xj_aload_n C a_T_executes_0 rfl ?_
  refine xn_g_T_decided C a_T_executes_1 fl_T_60 ?_
  refine xj_sipush (v := nI 200) C a_T_executes_4 (by decide) ?_
  refine xj_iload_n C a_T_executes_7 rfl ?_
  refine xj_imulN C a_T_executes_8 ?_
  refine xj_aload_n C a_T_executes_9 rfl ?_
  refine xn_g_T_e C a_T_executes_10 fl_T_45 ?_
  refine xj_iload_n C a_T_executes_13 rfl ?_
  refine xn_ld_33 C a_T_executes_14 (by first | assumption | omega) ?_
  refine xj_topi hR.e ?_
  refine xj_iaddN C a_T_executes_15 ?_
  refine xj_iconst (v := nI 1) C a_T_executes_16 (by decide) ?_
  refine xj_iaddN C a_T_executes_17 ?_
  refine xn_ld_38 C a_T_executes_18 (by first | assumption | omega) ?_
  refine xj_topi ((congrArg (v.1 38 0 0) (show 200 * r + pg_e S.2 + 1 = 200 * r + (pg_e S.2 + 1) by omega)).trans (hR.de (show pg_e S.2 + 1 < 200 by omega))) ?_
  refine xj_istore2 C a_T_executes_19 rfl ?_
  refine xj_iload_n C a_T_executes_20 rfl ?_
  refine xj_if_ne C a_T_executes_21 rfl (fun h21 => ?_) (fun h21 => ?_)
  · rw [xp_nz (by omega)] at h21
    obtain ⟨S1, hS1⟩ : ∃ S1 : pg_S, S1 = (S.1, pg_u S.2 3 0 (pg_e S.2 + 1)) := ⟨_, rfl⟩
    obtain ⟨D, hD⟩ : ∃ D, D = pg_de S.2 (pg_e S.2 + 1) := ⟨_, rfl⟩
    obtain ⟨SS, hSS⟩ : ∃ SS : pg_S, SS = (if 2 ≤ D ∧ pg_wt S1 (D - 2) = true then pg_srv r S1 (D - 2) else S1) := ⟨_, rfl⟩
    have er : pg_r4 r S = some (if pg_e SS.2 % 2 = 0 then pg_own r SS 7 (nI (pg_e SS.2)) SS.2.2 0 else SS) := by
      unfold pg_r4
      rw [hSS, hS1, hD]
      simp only
      rw [if_neg h21]
    rw [er]
    rw [← hD] at h21 hde ⊢
    have hR1 := hR.uS (t := 3) (x := pg_e S.2 + 1) (K := 33) (by decide) rfl
    have hB1 : xt_B S.1 (xn_uI v 33 0 0 r (nI (pg_e S.2 + 1))) := hB.uI (by omega)
    have hX1 : xt_S r S1 (xn_uI v 33 0 0 r (nI (pg_e S.2 + 1))) := by
      rw [hS1]
      exact ⟨hB1, hR1, by show _ = nI (pg_af S.2); simpa [xn_uI] using hA⟩
    have hF1 : xf_T r v (xn_uI v 33 0 0 r (nI (pg_e S.2 + 1))) := (xf_T.rf r v).uI (by omega)
    have fin : ∀ (S2 : pg_S) (v2 : xn_V), xt_S r S2 v2 → xf_T r v v2 → S2.1.1 < 200 → pg_e S2.2 = pg_e S.2 + 1 → ∀ z3 : Option Value, xn_X E G (xj_R E G (xp_tr r v S (some (if pg_e S2.2 % 2 = 0 then pg_own r S2 7 (nI (pg_e S2.2)) S2.2.2 0 else S2))) 0 0) 0 0 59 [some (.ref (xj_ad G (21, 0, 0))), some (.int (nI r)), some (.int (nI D)), z3] [] v2 := by
      intro S2 v2 hX2 hF2 hz2 he2 z3
      refine xj_aload_n C a_T_executes_59 rfl ?_
      refine xn_g_T_e C a_T_executes_60 fl_T_45 ?_
      refine xj_iload_n C a_T_executes_63 rfl ?_
      refine xn_ld_33 C a_T_executes_64 (by first | assumption | omega) ?_
      refine xj_topi hX2.2.1.e ?_
      refine xj_iconst (v := nI 2) C a_T_executes_65 (by decide) ?_
      refine xj_irem C a_T_executes_66 (by decide) ?_
      refine xj_topi (y := nI (pg_e S2.2 % 2)) (pk_rem (d := 2) (by omega) (by omega) (by omega)) ?_
      refine xj_if_ne C a_T_executes_67 rfl (fun h67 => ?_) (fun h67 => ?_)
      · rw [xp_nz (by omega)] at h67
        rw [if_neg h67]
        refine xj_iconst (v := nI 1) C a_T_executes_91 (by decide) ?_
        exact xj_zret C a_T_executes_92 rfl ⟨rfl, v2, rfl, hX2, hF2⟩
      · rw [xp_nz (by omega)] at h67
        have h67 : pg_e S2.2 % 2 = 0 := by simpa using h67
        rw [if_pos h67]
        refine xj_aload_n C a_T_executes_70 rfl ?_
        refine xj_bipush (v := nI 7) C a_T_executes_71 (by decide) ?_
        refine xj_iload_n C a_T_executes_73 rfl ?_
        refine xj_aload_n C a_T_executes_74 rfl ?_
        refine xn_g_T_e C a_T_executes_75 fl_T_45 ?_
        refine xj_iload_n C a_T_executes_78 rfl ?_
        refine xn_ld_33 C a_T_executes_79 (by first | assumption | omega) ?_
        refine xj_topi hX2.2.1.e ?_
        refine xj_aload_n C a_T_executes_80 rfl ?_
        refine xn_g_T_state C a_T_executes_81 fl_T_48 ?_
        refine xj_iload_n C a_T_executes_84 rfl ?_
        refine xn_ld_34 C a_T_executes_85 (by first | assumption | omega) ?_
        refine xj_topl hX2.2.1.st ?_
        refine xj_iconst (v := nI 0) C a_T_executes_86 (by decide) ?_
        refine xn_callV5i C a_T_executes_87 (c_T_send _ _ v2 S2.1.1 r hX2.1.z hz2 (by omega) (nI 7) (nI (pg_e S2.2)) S2.2.2 (nI 0)) mv_T_send lk_T_179 ⟨rfl, rfl, rfl⟩ xj_ok21 ⟨by decide, by decide⟩ rfl (Nat.le_of_ble_eq_true rfl) ⟨Nat.le_refl _, Nat.le_refl _⟩ ?_
        refine xj_pop C a_T_executes_90 rfl ?_
        refine xj_iconst (v := nI 1) C a_T_executes_91 (by decide) ?_
        exact xj_zret C a_T_executes_92 rfl ⟨rfl, _, rfl, xt_S.own hX2 hr hz2 7 (by decide) _ _ _, hF2.ts hz2⟩
    refine xj_aload_n C a_T_executes_26 rfl ?_
    refine xn_g_T_e C a_T_executes_27 fl_T_45 ?_
    refine xj_iload_n C a_T_executes_30 rfl ?_
    refine xj_dup2 C a_T_executes_31 rfl rfl ?_
    refine xn_ld_33 C a_T_executes_32 (by first | assumption | omega) ?_
    refine xj_topi hR.e ?_
    refine xj_iconst (v := nI 1) C a_T_executes_33 (by decide) ?_
    refine xj_iaddN C a_T_executes_34 ?_
    refine xn_st_33 C a_T_executes_35 (by first | assumption | omega) ?_
    refine xj_iload_n C a_T_executes_36 rfl ?_
    refine xj_iconst (v := nI 2) C a_T_executes_37 (by decide) ?_
    refine xj_isub C a_T_executes_38 ?_
    by_cases h2 : 2 ≤ D
    · have hdq := hd (pg_e S.2 + 1) (by omega)
      rw [← hD] at hdq
      refine xj_topi (y := nI (D - 2)) (pk_sub h2) ?_
      refine xj_istore3 C a_T_executes_39 rfl ?_
      refine xj_iload_n C a_T_executes_40 rfl ?_
      refine xj_if_lt C a_T_executes_41 rfl (fun h => absurd h (nI_pos (by omega))) (fun _ => ?_)
      rw [hS1] at hX1
      refine xj_aload_n C a_T_executes_44 rfl ?_
      refine xj_iload_n C a_T_executes_45 rfl ?_
      refine xj_iload_n C a_T_executes_46 rfl ?_
      refine xn_callV2i C a_T_executes_47 (c_T_waits _ _ _ r hr (S.1, pg_u S.2 3 0 (pg_e S.2 + 1)) hX1.1 hX1.2.1 (D - 2) hdq) mv_T_waits lk_T_131 ⟨rfl, rfl, rfl⟩ xj_ok21 ⟨by decide, by decide⟩ rfl (Nat.le_of_ble_eq_true rfl) ⟨Nat.le_refl _, Nat.le_refl _⟩ ?_
      refine xj_if_eq C a_T_executes_50 rfl (fun h50 => ?_) (fun h50 => ?_)
      · rw [xp_b0, ← hS1] at h50
        rw [if_neg (by rw [h50]; rintro ⟨-, g⟩; cases g)] at hSS
        rw [← hS1] at hX1
        rw [hSS]
        exact fin S1 _ hX1 hF1 (by rw [hS1]; show S.1.1 < 200; omega) (by rw [hS1]; rfl) _
      · rw [xp_b0, ← hS1] at h50
        have hw : pg_wt S1 (D - 2) = true := by simpa using h50
        rw [if_pos ⟨h2, hw⟩] at hSS
        rw [← hS1] at hX1
        rw [hSS]
        have hk0 : pg_k S.1 (D - 2) = 0 := by
          have g := hw
          rw [hS1] at g
          unfold pg_wt at g
          simp only [Bool.and_eq_true, beq_iff_eq] at g
          exact g.1
        refine xj_aload_n C a_T_executes_53 rfl ?_
        refine xj_iload_n C a_T_executes_54 rfl ?_
        refine xj_iload_n C a_T_executes_55 rfl ?_
        refine xj_callV2 C a_T_executes_56 (c_T_serves _ _ _ r hr S1 hX1 (by rw [hS1]; exact hQ) (by rw [hS1]; show S.1.1 < 200; omega) (D - 2) (by rw [hS1]; exact hdq) (by rw [hS1]; exact hk0)) mv_T_serves lk_T_214 ⟨rfl, rfl, rfl⟩ xj_ok21 ⟨by decide, by decide⟩ rfl (Nat.le_of_ble_eq_true rfl) ⟨Nat.le_refl _, Nat.le_refl _⟩ (fun a' w' hres => ?_)
        obtain ⟨rfl, v2, rfl, hX2, hf2⟩ := hres
        exact fin (pg_srv r S1 (D - 2)) v2 hX2 (hF1.tr hf2) (by rw [pg_srv_z, hS1]; show S.1.1 + 1 < 200; omega) (by rw [pg_srv_e, hS1]; rfl) _
    · have hD1 : D = 1 := by omega
      rw [if_neg (fun g => h2 g.1)] at hSS
      rw [hSS, hD1]
      refine xj_istore3 C a_T_executes_39 rfl ?_
      refine xj_iload_n C a_T_executes_40 rfl ?_
      refine xj_if_lt C a_T_executes_41 rfl (fun _ => ?_) (fun h => absurd (by decide) h)
      have := fin S1 _ hX1 hF1 (by rw [hS1]; show S.1.1 < 200; omega) (by rw [hS1]; rfl) (some (.int (nI 1 - nI 2)))
      rw [hD1] at this
      exact this
  · rw [xp_nz (by omega)] at h21
    have h21 : pg_de S.2 (pg_e S.2 + 1) = 0 := by simpa using h21
    have e : pg_r4 r S = none := by unfold pg_r4; simp only; rw [if_pos h21]
    rw [e]
    refine xj_iconst (v := nI 0) C a_T_executes_24 (by decide) ?_
    exact xj_zret C a_T_executes_25 rfl ⟨rfl, v, rfl, ⟨hB, hR, hA⟩, xf_T.rf r v⟩
