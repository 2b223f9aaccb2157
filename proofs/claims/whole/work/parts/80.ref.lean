/-! the reference: entering and beginning -/
def pg_ens (c : Int32) (st : Nat) (R : pg_R) : Nat → pg_R
  | 0 => R
  | j + 1 => pg_en1 c st (pg_ens c st R j) j
theorem pg_ens_4 (S : pg_S) (m : Nat) : pg_ent S m = pg_ens (pg_c S.1 m) (pg_st S.1 (pg_b S.1 m)) (pg_ent0 S m) 4 := rfl
theorem pg_ens_oth (c : Int32) (st : Nat) (R : pg_R) (t i : Nat) (h6 : ¬ t = 6) (h10 : ¬ t = 10) : ∀ j, (pg_ens c st R j).1 t i = R.1 t i
  | 0 => rfl
  | j + 1 => by
    show (pg_en1 c st (pg_ens c st R j) j).1 t i = _
    rw [pg_en1_at t i (by omega) (by omega)]
    exact pg_ens_oth c st R t i h6 h10 j
theorem pg_ens_st (c : Int32) (st : Nat) (R : pg_R) : ∀ j, (pg_ens c st R j).2 = R.2
  | 0 => rfl
  | j + 1 => by
    show (pg_en1 c st (pg_ens c st R j) j).2 = _
    rw [pg_en1_st]
    exact pg_ens_st c st R j
theorem pg_set_congr {R R' : pg_R} (h : ∀ t i, t ≤ 10 → R'.1 t i = R.1 t i) (h2 : R'.2 = R.2) (n : Nat) (x : Int64) : (∀ t i, t ≤ 10 → (pg_set R' n x).1 t i = (pg_set R n x).1 t i) ∧ (pg_set R' n x).2 = (pg_set R n x).2 := by
  have he : pg_e R' = pg_e R := h 3 0 (by decide)
  refine ⟨fun t i ht => ?_, ?_⟩
  · rw [pg_set_at, pg_set_at, he, h t i ht]
  · rw [pg_set_st, pg_set_st, he, h2]
theorem c_T_enters (l : Launch) (G : xj_G) (v : xn_V) (r : Nat) (hr : r < 4) (S : pg_S) (hS : xt_S r S v) (he : pg_e S.2 < 1000) (hh : pg_h S.2 < 1000) (m : Nat) (hm : m < S.1.1) (w : Nat) (hw : w ≤ 15) (ha : pg_a S.1 m = nI w) (hE : pg_eok S m) (hst : pg_st S.1 (pg_b S.1 m) < 190) : xj_Mx l G 2 55 0 0 m_T_enters [.ref (xj_ad G (21, 0, 0)), .int (nI r), .int (nI m)] (xn_W v) (xp_tr r v S (some (S.1, pg_ent S m))) := by
  obtain ⟨hB, hR, hA⟩ := hS
  obtain ⟨-, hvk, hpr, hq⟩ := hE
  have hz := hB.2.1
  have ea : (pg_a S.1 m).toInt.toNat = w := by rw [ha, xp_nat (by omega)]
  refine xj_Mx_of (by decide) (Nat.le_of_ble_eq_true rfl) (fun E hE C _ => ?_)
  subst hE
  replace C : xj_C E G prog_9_method_26_code "ThreePhaseGroupModel" 8 2 55 0 0 (some .boolean) := C
  show xn_X E G _ 0 0 0 [some (.ref (xj_ad G (21, 0, 0))), some (.int (nI r)), some (.int (nI m)), none, none, none, none, none] [] v
  refine xj_aload_n C a_T_enters_0 rfl ?_
  refine xn_g_T_view C a_T_enters_1 fl_T_36 ?_
  refine xj_iload_n C a_T_enters_4 rfl ?_
  refine xj_aload_n C a_T_enters_5 rfl ?_
  refine xn_g_T_a C a_T_enters_6 fl_T_16 ?_
  refine xj_iload_n C a_T_enters_9 rfl ?_
  refine xn_ld_24 C a_T_enters_10 (by first | assumption | omega) ?_
  refine xj_topi ((hB.a hm).trans ha) ?_
  refine xn_st_30 C a_T_enters_11 (by first | assumption | omega) ?_
  refine xj_aload_n C a_T_enters_12 rfl ?_
  refine xn_g_T_changing C a_T_enters_13 fl_T_39 ?_
  refine xj_iload_n C a_T_enters_16 rfl ?_
  refine xj_iconst (v := nI 0) C a_T_enters_17 (by decide) ?_
  refine xn_st_31 C a_T_enters_18 (by first | assumption | omega) (by first | assumption | decide) ?_
  refine xj_aload_n C a_T_enters_19 rfl ?_
  refine xj_iload_n C a_T_enters_20 rfl ?_
  have hR1 := (hR.uS (t := 0) (x := w) (K := 30) (by decide) rfl).uS (t := 1) (x := 0) (K := 31) (by decide) rfl
  have hB1 : xt_B S.1 (xn_uI (xn_uI v 30 0 0 r (nI w)) 31 0 0 r (nI 0)) := (hB.uI (by omega)).uI (by omega)
  refine xj_callV1 C a_T_enters_21 (c_T_dropAccepted _ _ _ r hr (S.1, pg_u (pg_u S.2 0 0 w) 1 0 0) ⟨hB1, hR1, by show _ = nI (pg_af S.2); simpa [xn_uI] using hA⟩) mv_T_dropAccepted lk_T_172 ⟨rfl, rfl, rfl⟩ xj_ok21 ⟨by decide, by decide⟩ rfl (Nat.le_of_ble_eq_true rfl) ⟨Nat.le_refl _, Nat.le_refl _⟩ (fun a' w' hres => ?_)
  obtain ⟨rfl, v2, rfl, ⟨hB2, hR2, hA2⟩, hf2⟩ := hres
  have hF2 : xf_T r v v2 := (((xf_T.rf r v).uI (by omega)).uI (by omega)).tr hf2
  replace hB2 : xt_B S.1 v2 := hB2
  replace hR2 : xt_R r (pg_drop (pg_u (pg_u S.2 0 0 w) 1 0 0)) v2 := hR2
  have hh2 : v2.1 32 0 0 r = nI (pg_h S.2) := hR2.h
  have hAe : pg_af (pg_ent S m) = 1 := by
    rw [pg_ens_4]
    show (pg_ens _ _ _ 4).1 11 0 = 1
    rw [pg_ens_oth _ _ _ 11 0 (by decide) (by decide)]
    unfold pg_ent0
    split
    · exact pg_set_oth _ _ _ 11 0 (by decide) (by decide) (by decide) (by decide) (by decide)
    · rfl
  have hH0 : pg_h (pg_ent0 S m) < 1000 := by
    unfold pg_ent0
    split
    · rw [pg_set_h]; omega
    · exact hh
  have loop : ∀ (N j : Nat) (v3 : xn_V), j ≤ 4 → 4 - j < N → xt_B S.1 v3 → xt_R r (pg_ens (pg_c S.1 m) (pg_st S.1 (pg_b S.1 m)) (pg_ent0 S m) j) v3 → xf_T r v v3 → ∀ (y4 : Int32) (z6 z7 : Option Value), xn_X E G (xj_R E G (xp_tr r v S (some (S.1, pg_ent S m))) 0 0) 0 0 74 [some (.ref (xj_ad G (21, 0, 0))), some (.int (nI r)), some (.int (nI m)), some (.int (nI (pg_st S.1 (pg_b S.1 m)))), some (.int y4), some (.int (nI j)), z6, z7] [] v3 := by
    intro N
    induction N with
    | zero => intro j v3 _ h; omega
    | succ N ih =>
      intro j v3 hj hN hB3 hR3 hF3 y4 z6 z7
      have hh3 : v3.1 32 0 0 r = nI (pg_h (pg_ent0 S m)) := by
        rw [hR3.h]
        congr 1
        exact pg_ens_oth _ _ _ 2 0 (by decide) (by decide) j
      have hc3 := hB3.c hm
      refine xj_iload C a_T_enters_74 rfl ?_
      refine xj_iconst (v := nI 4) C a_T_enters_76 (by decide) ?_
      refine xj_icmp_ge C a_T_enters_77 rfl (fun h77 => ?_) (fun h77 => ?_)
      · rw [nI_leI (by omega) (by omega)] at h77
        have : j = 4 := by omega
        subst this
        refine xj_aload_n C a_T_enters_165 rfl ?_
        refine xj_iconst (v := nI 1) C a_T_enters_166 (by decide) ?_
        refine xn_p_T_afresh C a_T_enters_167 fl_T_138 (by decide) ?_
        refine xj_iconst (v := nI 1) C a_T_enters_170 (by decide) ?_
        refine xj_zret C a_T_enters_171 rfl ⟨rfl, _, rfl, ⟨hB3.uI (by omega), (by rw [show (Option.getD (some (S.1, pg_ent S m)) S).2 = pg_ent S m from rfl, pg_ens_4]; exact hR3.oth (by omega)), ?_⟩, hF3.uI (by omega)⟩
        show _ = nI (pg_af (pg_ent S m))
        rw [hAe]
        simp [xn_uI]
      · rw [nI_leI (by omega) (by omega)] at h77
        have hco := pg_od1_lt (pg_c S.1 m) j
        have hn : pg_st S.1 (pg_b S.1 m) + 1 + j < 200 := by omega
        refine xj_aload_n C a_T_enters_80 rfl ?_
        refine xn_g_T_c C a_T_enters_81 fl_T_23 ?_
        refine xj_iload_n C a_T_enters_84 rfl ?_
        refine xn_ld_26 C a_T_enters_85 (by first | assumption | omega) ?_
        refine xj_topi hc3 ?_
        refine xj_bipush (v := nI 8) C a_T_enters_86 (by decide) ?_
        refine xj_iload C a_T_enters_88 rfl ?_
        refine xj_imulN C a_T_enters_90 ?_
        refine xj_iushr C a_T_enters_91 ?_
        refine xj_sipush (v := nI 255) C a_T_enters_92 (by decide) ?_
        refine xj_iand C a_T_enters_95 ?_
        refine xj_topi (y := nI (pg_od1 (pg_c S.1 m) j)) (xb_iush (pg_c S.1 m) (s := 8 * j) (j := 8) (by omega) (by omega)) ?_
        have next : ∀ v4, xt_B S.1 v4 → xt_R r (pg_ens (pg_c S.1 m) (pg_st S.1 (pg_b S.1 m)) (pg_ent0 S m) (j + 1)) v4 → xf_T r v v4 → xn_X E G (xj_R E G (xp_tr r v S (some (S.1, pg_ent S m))) 0 0) 0 0 159 [some (.ref (xj_ad G (21, 0, 0))), some (.int (nI r)), some (.int (nI m)), some (.int (nI (pg_st S.1 (pg_b S.1 m)))), some (.int y4), some (.int (nI j)), some (.int (nI (pg_od1 (pg_c S.1 m) j))), some (.int (nI (pg_st S.1 (pg_b S.1 m) + 1 + j)))] [] v4 := by
          intro v4 hB4 hR4 hF4
          refine xj_iincN5 C a_T_enters_159 rfl ?_
          refine xj_goto C a_T_enters_162 rfl ?_
          exact ih (j + 1) v4 (by omega) (by omega) hB4 hR4 hF4 _ _ _
        have hhj : pg_h (pg_ens (pg_c S.1 m) (pg_st S.1 (pg_b S.1 m)) (pg_ent0 S m) j) = pg_h (pg_ent0 S m) := pg_ens_oth _ _ _ 2 0 (by decide) (by decide) j
        have same : ¬ (0 < pg_od1 (pg_c S.1 m) j ∧ pg_h (pg_ent0 S m) < pg_st S.1 (pg_b S.1 m) + 1 + j) → pg_ens (pg_c S.1 m) (pg_st S.1 (pg_b S.1 m)) (pg_ent0 S m) (j + 1) = pg_ens (pg_c S.1 m) (pg_st S.1 (pg_b S.1 m)) (pg_ent0 S m) j := by
          intro h
          show pg_en1 _ _ _ _ = _
          unfold pg_en1
          rw [hhj, if_neg h]
        refine xj_istore6 C a_T_enters_96 rfl ?_
        refine xj_iload_n C a_T_enters_98 rfl ?_
        refine xj_iconst (v := nI 1) C a_T_enters_99 (by decide) ?_
        refine xj_iaddN C a_T_enters_100 ?_
        refine xj_iload C a_T_enters_101 rfl ?_
        refine xj_iaddN C a_T_enters_103 ?_
        refine xj_istore7 C a_T_enters_104 rfl ?_
        refine xj_iload C a_T_enters_106 rfl ?_
        refine xj_if_le C a_T_enters_108 rfl (fun h108 => ?_) (fun h108 => ?_)
        · have h108 : nI (pg_od1 (pg_c S.1 m) j) ≤ nI 0 := h108
          rw [nI_leI (by omega) (by omega)] at h108
          exact next v3 hB3 (by rw [same (by omega)]; exact hR3) hF3
        · have h108 : ¬ nI (pg_od1 (pg_c S.1 m) j) ≤ nI 0 := h108
          rw [nI_leI (by omega) (by omega)] at h108
          refine xj_iload C a_T_enters_111 rfl ?_
          refine xj_aload_n C a_T_enters_113 rfl ?_
          refine xn_g_T_h C a_T_enters_114 fl_T_42 ?_
          refine xj_iload_n C a_T_enters_117 rfl ?_
          refine xn_ld_32 C a_T_enters_118 (by first | assumption | omega) ?_
          refine xj_topi hh3 ?_
          refine xj_icmp_le C a_T_enters_119 rfl (fun h119 => ?_) (fun h119 => ?_)
          · rw [nI_leI (by omega) (by omega)] at h119
            exact next v3 hB3 (by rw [same (by omega)]; exact hR3) hF3
          · rw [nI_leI (by omega) (by omega)] at h119
            have hR4 := hR3.uA (t := 6) (q := pg_st S.1 (pg_b S.1 m) + 1 + j) (x := pg_od1 (pg_c S.1 m) j) (K := 37) (by decide) (by omega) rfl
            refine xj_aload_n C a_T_enters_122 rfl ?_
            refine xn_g_T_accepted C a_T_enters_123 fl_T_57 ?_
            refine xj_sipush (v := nI 200) C a_T_enters_126 (by decide) ?_
            refine xj_iload_n C a_T_enters_129 rfl ?_
            refine xj_imulN C a_T_enters_130 ?_
            refine xj_iload C a_T_enters_131 rfl ?_
            refine xj_iaddN C a_T_enters_133 ?_
            refine xj_iload C a_T_enters_134 rfl ?_
            refine xn_st_37 C a_T_enters_136 (by first | assumption | omega) ?_
            refine xj_iload C a_T_enters_137 rfl ?_
            refine xj_iconst (v := nI 1) C a_T_enters_139 (by decide) ?_
            refine xj_icmp_le C a_T_enters_140 rfl (fun h140 => ?_) (fun h140 => ?_)
            · rw [nI_leI (by omega) (by omega)] at h140
              refine next _ (hB3.uI (by omega)) ?_ (hF3.uI (by omega))
              have e : pg_ens (pg_c S.1 m) (pg_st S.1 (pg_b S.1 m)) (pg_ent0 S m) (j + 1) = pg_u (pg_ens (pg_c S.1 m) (pg_st S.1 (pg_b S.1 m)) (pg_ent0 S m) j) 6 (pg_st S.1 (pg_b S.1 m) + 1 + j) (pg_od1 (pg_c S.1 m) j) := by
                show pg_en1 _ _ _ _ = _
                unfold pg_en1
                rw [hhj, if_pos (by omega), if_neg (by omega)]
              rw [e]
              exact hR4
            · rw [nI_leI (by omega) (by omega)] at h140
              have hq2 := (hq j (by omega) (by omega)).1
              have hR5 := hR4.uA (t := 10) (q := pg_od1 (pg_c S.1 m) j - 2) (x := 1) (K := 29) (by decide) (by omega) rfl
              refine xj_aload_n C a_T_enters_143 rfl ?_
              refine xn_g_T_known C a_T_enters_144 fl_T_33 ?_
              refine xj_sipush (v := nI 200) C a_T_enters_147 (by decide) ?_
              refine xj_iload_n C a_T_enters_150 rfl ?_
              refine xj_imulN C a_T_enters_151 ?_
              refine xj_iload C a_T_enters_152 rfl ?_
              refine xj_iaddN C a_T_enters_154 ?_
              refine xj_iconst (v := nI 2) C a_T_enters_155 (by decide) ?_
              refine xj_isub C a_T_enters_156 ?_
              refine xj_topi (y := nI (200 * r + (pg_od1 (pg_c S.1 m) j - 2))) (by rw [show nI 2 = (2 : Int32) from rfl, xp_sub2 (by omega)]; congr 1; omega) ?_
              refine xj_iconst (v := nI 1) C a_T_enters_157 (by decide) ?_
              refine xn_st_29 C a_T_enters_158 (by first | assumption | omega) (by first | assumption | decide) ?_
              refine next _ ((hB3.uI (by omega)).uI (by omega)) ?_ ((hF3.uI (by omega)).uI (by omega))
              have e : pg_ens (pg_c S.1 m) (pg_st S.1 (pg_b S.1 m)) (pg_ent0 S m) (j + 1) = pg_u (pg_u (pg_ens (pg_c S.1 m) (pg_st S.1 (pg_b S.1 m)) (pg_ent0 S m) j) 6 (pg_st S.1 (pg_b S.1 m) + 1 + j) (pg_od1 (pg_c S.1 m) j)) 10 (pg_od1 (pg_c S.1 m) j - 2) 1 := by
                show pg_en1 _ _ _ _ = _
                unfold pg_en1
                rw [hhj, if_pos (by omega), if_pos (by omega)]
              rw [e]
              exact hR5
  refine xj_aload_n C a_T_enters_24 rfl ?_
  refine xj_iload_n C a_T_enters_25 rfl ?_
  refine xn_callV1i C a_T_enters_26 (c_T_start _ _ v2 S.1 hB2 m hm hvk) mv_T_start lk_T_125 ⟨rfl, rfl, rfl⟩ xj_ok21 ⟨by decide, by decide⟩ rfl (Nat.le_of_ble_eq_true rfl) ⟨Nat.le_refl _, Nat.le_refl _⟩ ?_
  refine xj_istore3 C a_T_enters_29 rfl ?_
  refine xj_aload_n C a_T_enters_30 rfl ?_
  refine xj_iload_n C a_T_enters_31 rfl ?_
  refine xj_i2l C a_T_enters_32 ?_
  refine xj_topl (nI_l (show pg_st S.1 (pg_b S.1 m) < 2 ^ 31 by omega)) ?_
  refine xj_iload_n C a_T_enters_33 rfl ?_
  refine xn_callV2i C a_T_enters_34 (c_T_proof _ _ v2 S.1 hB2 (lN (pg_st S.1 (pg_b S.1 m))) m (by omega)) mv_T_proof lk_T_99 ⟨rfl, rfl, rfl⟩ xj_ok21 ⟨by decide, by decide⟩ rfl (Nat.le_of_ble_eq_true rfl) ⟨Nat.le_refl _, Nat.le_refl _⟩ ?_
  refine xj_istore4 C a_T_enters_37 rfl ?_
  refine xj_iload_n C a_T_enters_39 rfl ?_
  refine xj_aload_n C a_T_enters_40 rfl ?_
  refine xn_g_T_h C a_T_enters_41 fl_T_42 ?_
  refine xj_iload_n C a_T_enters_44 rfl ?_
  refine xn_ld_32 C a_T_enters_45 (by first | assumption | omega) ?_
  refine xj_topi hh2 ?_
  refine xj_icmp_le C a_T_enters_46 rfl (fun h46 => ?_) (fun h46 => ?_)
  · rw [nI_leI (by omega) (by omega)] at h46
    refine xj_iconst (v := nI 0) C a_T_enters_71 (by decide) ?_
    refine xj_istore5 C a_T_enters_72 rfl ?_
    refine loop 5 0 v2 (by omega) (by omega) hB2 (hR2.congr (fun t i ht => ?_) ?_) hF2 _ _ _
    · show (pg_ent0 S m).1 t i = _
      unfold pg_ent0
      rw [if_neg (by omega), ea]
      show (if t = 1 ∧ i = 0 then 0 else if t = 6 then 0 else if t = 11 ∧ i = 0 then 1 else if t = 0 ∧ i = 0 then w else S.2.1 t i) = (if t = 6 then 0 else if t = 1 ∧ i = 0 then 0 else if t = 0 ∧ i = 0 then w else S.2.1 t i)
      by_cases e6 : t = 6
      · subst e6; simp
      · rw [if_neg e6, if_neg e6]
        by_cases e1 : t = 1 ∧ i = 0
        · rw [if_pos e1, if_pos e1]
        · rw [if_neg e1, if_neg e1, if_neg (by omega)]
    · show (pg_ent0 S m).2 = S.2.2
      unfold pg_ent0
      rw [if_neg (by omega)]
      rfl
  · rw [nI_leI (by omega) (by omega)] at h46
    obtain ⟨i0, hi0⟩ := Option.isSome_iff_exists.mp (hpr (by omega))
    rw [hi0]
    have him : i0 < m := by
      unfold pg_proof at hi0
      exact List.mem_range.mp (List.mem_of_find?_eq_some hi0)
    refine xj_aload_n C a_T_enters_49 rfl ?_
    refine xj_iload_n C a_T_enters_50 rfl ?_
    refine xj_iload_n C a_T_enters_51 rfl ?_
    refine xj_iload C a_T_enters_52 rfl ?_
    refine xj_if_ge C a_T_enters_54 rfl (fun _ => ?_) (fun h => absurd (nI_pos' (show i0 < 2 ^ 31 by omega)) h)
    refine xj_aload_n C a_T_enters_61 rfl ?_
    refine xn_g_T_b C a_T_enters_62 fl_T_19 ?_
    refine xj_iload C a_T_enters_65 rfl ?_
    refine xn_ld_25 C a_T_enters_67 (by first | assumption | omega) ?_
    refine xj_topl (hB2.b (by omega)) ?_
    refine xj_callV3 C a_T_enters_68 (c_T_settles _ _ v2 r hr (S.1, pg_drop (pg_u (pg_u S.2 0 0 w) 1 0 0)) ⟨hB2, hR2, hA2⟩ he (pg_st S.1 (pg_b S.1 m)) (by omega) (pg_b S.1 i0)) mv_T_settles lk_T_175 ⟨rfl, rfl, rfl⟩ xj_ok21 ⟨by decide, by decide⟩ rfl (Nat.le_of_ble_eq_true rfl) ⟨Nat.le_refl _, Nat.le_refl _⟩ (fun a' w' hres => ?_)
    obtain ⟨rfl, v3, rfl, ⟨hB3, hR3, hA3⟩, hf3⟩ := hres
    refine xj_iconst (v := nI 0) C a_T_enters_71 (by decide) ?_
    refine xj_istore5 C a_T_enters_72 rfl ?_
    have hcg := pg_set_congr (R := pg_drop (pg_u (pg_u S.2 0 0 w) 1 0 0)) (R' := pg_u (pg_mv S.2 w) 1 0 0) (fun t i ht => by
      show (if t = 1 ∧ i = 0 then 0 else if t = 6 then 0 else if t = 11 ∧ i = 0 then 1 else if t = 0 ∧ i = 0 then w else S.2.1 t i) = (if t = 6 then 0 else if t = 1 ∧ i = 0 then 0 else if t = 0 ∧ i = 0 then w else S.2.1 t i)
      by_cases e6 : t = 6
      · subst e6; simp
      · rw [if_neg e6, if_neg e6]
        by_cases e1 : t = 1 ∧ i = 0
        · rw [if_pos e1, if_pos e1]
        · rw [if_neg e1, if_neg e1, if_neg (by omega)]) rfl (pg_st S.1 (pg_b S.1 m)) (pg_b S.1 i0)
    have e0 : pg_ent0 S m = pg_set (pg_u (pg_mv S.2 w) 1 0 0) (pg_st S.1 (pg_b S.1 m)) (pg_b S.1 i0) := by
      unfold pg_ent0
      rw [if_pos (by omega), ea, hi0]
      rfl
    exact loop 5 0 v3 (by omega) (by omega) hB3 (hR3.congr (fun t i ht => by show (pg_ent0 S m).1 t i = _; rw [e0]; exact hcg.1 t i ht) (by show (pg_ent0 S m).2 = _; rw [e0]; exact hcg.2)) (hF2.tr hf3) _ _ _
theorem c_T_begins (l : Launch) (G : xj_G) (v : xn_V) (r : Nat) (hr : r < 4) (S : pg_S) (hS : xt_S r S v) (hN : pg_num S.2) (hh : pg_h S.2 < 190) (hz : S.1.1 < 200) (w : Nat) (hw : w ≤ 15) : xj_Mx l G 1 27 0 0 m_T_begins [.ref (xj_ad G (21, 0, 0)), .int (nI r), .int (nI w)] (xn_W v) (xp_tv r v (pg_beg r S w)) := by
  obtain ⟨hB, hR, hA⟩ := hS
  have hsp := hN.2.2.2.2.2.1
  refine xj_Mx_of (by decide) (Nat.le_of_ble_eq_true rfl) (fun E hE C _ => ?_)
  subst hE
  replace C : xj_C E G prog_9_method_27_code "ThreePhaseGroupModel" 5 1 27 0 0 none := C
  show xn_X E G _ 0 0 0 [some (.ref (xj_ad G (21, 0, 0))), some (.int (nI r)), some (.int (nI w)), none, none] [] v
  refine xj_aload_n C a_T_begins_0 rfl ?_
  refine xn_g_T_view C a_T_begins_1 fl_T_36 ?_
  refine xj_iload_n C a_T_begins_4 rfl ?_
  refine xj_iload_n C a_T_begins_5 rfl ?_
  refine xn_st_30 C a_T_begins_6 (by first | assumption | omega) ?_
  refine xj_aload_n C a_T_begins_7 rfl ?_
  refine xn_g_T_changing C a_T_begins_8 fl_T_39 ?_
  refine xj_iload_n C a_T_begins_11 rfl ?_
  refine xj_iconst (v := nI 1) C a_T_begins_12 (by decide) ?_
  refine xn_st_31 C a_T_begins_13 (by first | assumption | omega) (by first | assumption | decide) ?_
  refine xj_aload_n C a_T_begins_14 rfl ?_
  refine xj_iload_n C a_T_begins_15 rfl ?_
  have hR1 := (hR.uS (t := 0) (x := w) (K := 30) (by decide) rfl).uS (t := 1) (x := 1) (K := 31) (by decide) rfl
  have hB1 : xt_B S.1 (xn_uI (xn_uI v 30 0 0 r (nI w)) 31 0 0 r (nI 1)) := (hB.uI (by omega)).uI (by omega)
  refine xj_callV1 C a_T_begins_16 (c_T_dropAccepted _ _ _ r hr (S.1, pg_u (pg_u S.2 0 0 w) 1 0 1) ⟨hB1, hR1, by show _ = nI (pg_af S.2); simpa [xn_uI] using hA⟩) mv_T_dropAccepted lk_T_172 ⟨rfl, rfl, rfl⟩ xj_ok21 ⟨by decide, by decide⟩ rfl (Nat.le_of_ble_eq_true rfl) ⟨Nat.le_refl _, Nat.le_refl _⟩ (fun a' w' hres => ?_)
  obtain ⟨rfl, v2, rfl, ⟨hB2, hR2, hA2⟩, hf2⟩ := hres
  have hF2 : xf_T r v v2 := (((xf_T.rf r v).uI (by omega)).uI (by omega)).tr hf2
  replace hB2 : xt_B S.1 v2 := hB2
  replace hR2 : xt_R r (pg_drop (pg_u (pg_u S.2 0 0 w) 1 0 1)) v2 := hR2
  replace hA2 : v2.1 21 0 0 21 = nI (pg_af S.2) := hA2
  have hs2 : v2.1 35 0 0 r = nI (pg_sp S.2) := hR2.sp
  have go : ∀ v3, xt_B S.1 v3 → xt_R r (pg_u (pg_drop (pg_u (pg_u S.2 0 0 w) 1 0 1)) 4 0 (min (2 * pg_sp S.2) 32)) v3 → v3.1 21 0 0 21 = nI (pg_af S.2) → xf_T r v v3 → xn_X E G (xj_R E G (xp_tv r v (pg_beg r S w)) 0 0) 0 0 51 [some (.ref (xj_ad G (21, 0, 0))), some (.int (nI r)), some (.int (nI w)), none, none] [] v3 := by
    intro v3 hB3 hR3 hA3 hF3
    have hh3 : v3.1 32 0 0 r = nI (pg_h S.2) := hR3.h
    have hct3 : ∀ q, q < 200 → v3.1 40 0 0 (200 * r + q) = nI (pg_ct S.2 q) := fun q hq => hR3.ct hq
    have loop : ∀ (N j : Nat), j ≤ 4 → 4 - j < N → xn_X E G (xj_R E G (xp_tv r v (pg_beg r S w)) 0 0) 0 0 56 [some (.ref (xj_ad G (21, 0, 0))), some (.int (nI r)), some (.int (nI w)), some (.int (xp_cls S.2 j)), some (.int (nI j))] [] v3 := by
      intro N
      induction N with
      | zero => intro j _ h; omega
      | succ N ih =>
        intro j hj hN
        refine xj_iload C a_T_begins_56 rfl ?_
        refine xj_iconst (v := nI 4) C a_T_begins_58 (by decide) ?_
        refine xj_icmp_ge C a_T_begins_59 rfl (fun h59 => ?_) (fun h59 => ?_)
        · rw [nI_leI (by omega) (by omega)] at h59
          have : j = 4 := by omega
          subst this
          refine xj_aload_n C a_T_begins_98 rfl ?_
          refine xj_iconst (v := nI 5) C a_T_begins_99 (by decide) ?_
          refine xj_iload_n C a_T_begins_100 rfl ?_
          refine xj_iload_n C a_T_begins_101 rfl ?_
          refine xj_aload_n C a_T_begins_102 rfl ?_
          refine xn_g_T_h C a_T_begins_103 fl_T_42 ?_
          refine xj_iload_n C a_T_begins_106 rfl ?_
          refine xn_ld_32 C a_T_begins_107 (by first | assumption | omega) ?_
          refine xj_topi hh3 ?_
          refine xj_i2l C a_T_begins_108 ?_
          refine xj_topl (nI_l (show pg_h S.2 < 2 ^ 31 by omega)) ?_
          refine xj_iload_n C a_T_begins_109 rfl ?_
          refine xn_callV5i C a_T_begins_110 (c_T_send _ _ v3 S.1.1 r hB3.z hz (by omega) (nI 5) (nI w) (lN (pg_h S.2)) (xp_cls S.2 4)) mv_T_send lk_T_179 ⟨rfl, rfl, rfl⟩ xj_ok21 ⟨by decide, by decide⟩ rfl (Nat.le_of_ble_eq_true rfl) ⟨Nat.le_refl _, Nat.le_refl _⟩ ?_
          refine xj_pop C a_T_begins_113 rfl ?_
          refine xj_aload_n C a_T_begins_114 rfl ?_
          refine xj_iconst (v := nI 1) C a_T_begins_115 (by decide) ?_
          refine xn_p_T_afresh C a_T_begins_116 fl_T_138 (by decide) ?_
          refine xj_vret C a_T_begins_119 ?_
          have hS4 := xt_S.own (r := r) (S := (S.1, pg_u (pg_drop (pg_u (pg_u S.2 0 0 w) 1 0 1)) 4 0 (min (2 * pg_sp S.2) 32))) (v := v3) ⟨hB3, hR3, hA3⟩ hr hz 5 (by decide) (nI w) (lN (pg_h S.2)) (xp_cls S.2 4)
          refine ⟨rfl, _, rfl, ?_, (hF3.ts hz).uI (by omega)⟩
          rw [pg_beg_cls]
          refine ⟨hS4.1.uI (by omega), (hS4.2.1.oth (by omega)).congr (fun t i ht => ?_) rfl, ?_⟩
          · show (if t = 9 ∧ i = S.1.1 then 1 else if t = 4 ∧ i = 0 then _ else if t = 1 ∧ i = 0 then 1 else if t = 6 then 0 else if t = 11 ∧ i = 0 then 1 else if t = 0 ∧ i = 0 then w else S.2.1 t i) = (if t = 9 ∧ i = S.1.1 then 1 else if t = 4 ∧ i = 0 then _ else if t = 6 then 0 else if t = 1 ∧ i = 0 then 1 else if t = 0 ∧ i = 0 then w else S.2.1 t i)
            by_cases e9 : t = 9 ∧ i = S.1.1
            · rw [if_pos e9, if_pos e9]
            rw [if_neg e9, if_neg e9]
            by_cases e4 : t = 4 ∧ i = 0
            · rw [if_pos e4, if_pos e4]
            rw [if_neg e4, if_neg e4]
            by_cases e6 : t = 6
            · rw [if_pos e6, if_neg (by omega), if_pos e6]
            rw [if_neg e6, if_neg e6]
            by_cases e1 : t = 1 ∧ i = 0
            · rw [if_pos e1, if_pos e1]
            rw [if_neg e1, if_neg e1, if_neg (by omega)]
          · show _ = nI 1
            simp [xn_uI]
        · rw [nI_leI (by omega) (by omega)] at h59
          refine xj_iload_n C a_T_begins_62 rfl ?_
          refine xj_aload_n C a_T_begins_63 rfl ?_
          refine xn_g_T_certView C a_T_begins_64 fl_T_66 ?_
          refine xj_sipush (v := nI 200) C a_T_begins_67 (by decide) ?_
          refine xj_iload_n C a_T_begins_70 rfl ?_
          refine xj_imulN C a_T_begins_71 ?_
          refine xj_aload_n C a_T_begins_72 rfl ?_
          refine xn_g_T_h C a_T_begins_73 fl_T_42 ?_
          refine xj_iload_n C a_T_begins_76 rfl ?_
          refine xn_ld_32 C a_T_begins_77 (by first | assumption | omega) ?_
          refine xj_topi hh3 ?_
          refine xj_iaddN C a_T_begins_78 ?_
          refine xj_iconst (v := nI 1) C a_T_begins_79 (by decide) ?_
          refine xj_iaddN C a_T_begins_80 ?_
          refine xj_iload C a_T_begins_81 rfl ?_
          refine xj_iaddN C a_T_begins_83 ?_
          refine xn_ld_40 C a_T_begins_84 (by first | assumption | omega) ?_
          refine xj_topi ((congrArg (v3.1 40 0 0) (show 200 * r + pg_h S.2 + 1 + j = 200 * r + (pg_h S.2 + 1 + j) by omega)).trans (hct3 _ (by omega))) ?_
          refine xj_iconst (v := nI 5) C a_T_begins_85 (by decide) ?_
          refine xj_iload C a_T_begins_86 rfl ?_
          refine xj_imul C a_T_begins_88 ?_
          refine xj_ishl C a_T_begins_89 ?_
          refine xj_ior C a_T_begins_90 ?_
          refine xj_istore3 C a_T_begins_91 rfl ?_
          refine xj_iincN4 C a_T_begins_92 rfl ?_
          refine xj_goto C a_T_begins_95 rfl ?_
          exact ih (j + 1) (by omega) (by omega)
    refine xj_iconst (v := nI 0) C a_T_begins_51 (by decide) ?_
    refine xj_istore3 C a_T_begins_52 rfl ?_
    refine xj_iconst (v := nI 0) C a_T_begins_53 (by decide) ?_
    refine xj_istore4 C a_T_begins_54 rfl ?_
    exact loop 5 0 (by omega) (by omega)
  refine xj_aload_n C a_T_begins_19 rfl ?_
  refine xn_g_T_span C a_T_begins_20 fl_T_51 ?_
  refine xj_iload_n C a_T_begins_23 rfl ?_
  refine xj_aload_n C a_T_begins_24 rfl ?_
  refine xn_g_T_span C a_T_begins_25 fl_T_51 ?_
  refine xj_iload_n C a_T_begins_28 rfl ?_
  refine xn_ld_35 C a_T_begins_29 (by first | assumption | omega) ?_
  refine xj_topi hs2 ?_
  refine xj_iconst (v := nI 2) C a_T_begins_30 (by decide) ?_
  refine xj_imulN C a_T_begins_31 ?_
  refine xj_bipush (v := nI 32) C a_T_begins_32 (by decide) ?_
  refine xj_icmp_le C a_T_begins_34 rfl (fun h34 => ?_) (fun h34 => ?_)
  · rw [nI_leI (by omega) (by omega)] at h34
    refine xj_aload_n C a_T_begins_42 rfl ?_
    refine xn_g_T_span C a_T_begins_43 fl_T_51 ?_
    refine xj_iload_n C a_T_begins_46 rfl ?_
    refine xn_ld_35 C a_T_begins_47 (by first | assumption | omega) ?_
    refine xj_topi hs2 ?_
    refine xj_iconst (v := nI 2) C a_T_begins_48 (by decide) ?_
    refine xj_imulN C a_T_begins_49 ?_
    refine xn_st_35 C a_T_begins_50 (by first | assumption | omega) ?_
    refine go _ (hB2.uI (by omega)) ?_ (by simpa [xn_uI] using hA2) (hF2.uI (by omega))
    rw [show min (2 * pg_sp S.2) 32 = pg_sp S.2 * 2 by omega]
    exact hR2.uS (t := 4) (K := 35) (by decide) rfl
  · rw [nI_leI (by omega) (by omega)] at h34
    refine xj_bipush (v := nI 32) C a_T_begins_37 (by decide) ?_
    refine xj_goto C a_T_begins_39 rfl ?_
    refine xn_st_35 C a_T_begins_50 (by first | assumption | omega) ?_
    refine go _ (hB2.uI (by omega)) ?_ (by simpa [xn_uI] using hA2) (hF2.uI (by omega))
    rw [show min (2 * pg_sp S.2) 32 = 32 by omega]
    exact hR2.uS (t := 4) (K := 35) (by decide) rfl
