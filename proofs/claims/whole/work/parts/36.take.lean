/-! PRE-PREPARE, PREPARE, COMMIT -/
/-- what r takes of a PRE-PREPARE -/
def pg_t1 (r : Nat) (S : pg_S) (m : Nat) : Option pg_S := if (pg_same S m && pg_f S.1 m != r) && pg_f S.1 m == pg_vw S.2 % 4 then pg_tOrd S m else none
theorem c_R_takesPrePrepare (l : Launch) (G : xj_G) (v : xn_V) (r : Nat) (hr : r < 4) (S : pg_S) (hR : xc_R r S v) (hN : pg_num S.2) (hB : xc_B S.1 v) (hK : pg_kno S) (m : Nat) (hm : m < S.1.1) : xj_Mx l G 3 64 0 0 m_R_takesPrePrepare [.ref (xj_ad G (11, r, 0)), .int (nI m)] (xn_W v) (xp_tk r v (pg_t1 r S m)) := by
  have hz := hB.2.1
  have hF := hR.1
  have hvw := hN.1
  have hh := hN.2.2.1
  have hw := hB.2.2.1 m hm
  refine xj_Mx_of (by decide) (Nat.le_of_ble_eq_true rfl) (fun E hE C _ => ?_)
  subst hE
  replace C : xj_C E G prog_5_method_11_code "ThreePhaseGroup$Replica" 4 3 64 0 0 (some .boolean) := C
  show xn_X E G _ 0 0 0 [some (.ref (xj_ad G (11, r, 0))), some (.int (nI m)), none, none] [] v
  have no : pg_t1 r S m = none → ∀ z1 z2 : Option Value, xn_X E G (xj_R E G (xp_tk r v (pg_t1 r S m)) 0 0) 0 0 37 [some (.ref (xj_ad G (11, r, 0))), some (.int (nI m)), z1, z2] [] v := by
    intro h z1 z2
    rw [h]
    refine xj_iconst (v := nI 0) C a_R_takesPrePrepare_37 (by decide) ?_
    refine xj_zret C a_R_takesPrePrepare_38 rfl ?_
    exact ⟨rfl, rfl⟩
  refine xj_aload_n C a_R_takesPrePrepare_0 rfl ?_
  refine xn_g_R_board C a_R_takesPrePrepare_1 fl_R_61 (by first | assumption | omega) ?_
  refine xn_g_B_c C a_R_takesPrePrepare_4 fl_R_139 ?_
  refine xj_iload_n C a_R_takesPrePrepare_7 rfl ?_
  refine xn_ld_6 C a_R_takesPrePrepare_8 (by first | assumption | omega) ?_
  refine xj_topi (hB.c (by omega)) ?_
  refine xj_istore2 C a_R_takesPrePrepare_9 rfl ?_
  refine xj_aload_n C a_R_takesPrePrepare_10 rfl ?_
  refine xj_iload_n C a_R_takesPrePrepare_11 rfl ?_
  refine xn_callV1i C a_R_takesPrePrepare_12 (c_R_isOfThisView _ _ v r hr S hF hN hB m hm) mv_R_isOfThisView lk_R_142 ⟨rfl, rfl, rfl⟩ (xj_ok11 (by first | assumption | omega)) ⟨by decide, by decide⟩ rfl (Nat.le_of_ble_eq_true rfl) ⟨Nat.le_refl _, Nat.le_refl _⟩ ?_
  refine xj_if_eq C a_R_takesPrePrepare_15 rfl (fun h15 => ?_) (fun h15 => ?_)
  · rw [xp_b0] at h15
    refine no ?_ _ _
    unfold pg_t1
    rw [h15]
    rfl
  · rw [xp_b0] at h15
    have h15 : (pg_same S m && pg_f S.1 m != r) = true := by simpa using h15
    refine xj_aload_n C a_R_takesPrePrepare_18 rfl ?_
    refine xn_g_R_board C a_R_takesPrePrepare_19 fl_R_61 (by first | assumption | omega) ?_
    refine xn_g_B_sender C a_R_takesPrePrepare_22 fl_R_76 ?_
    refine xj_iload_n C a_R_takesPrePrepare_25 rfl ?_
    refine xn_ld_3 C a_R_takesPrePrepare_26 (by first | assumption | omega) ?_
    refine xj_topi (hB.f (by omega)) ?_
    refine xj_aload_n C a_R_takesPrePrepare_27 rfl ?_
    refine xn_g_R_view C a_R_takesPrePrepare_28 fl_R_31 (by first | assumption | omega) ?_
    refine xj_topi hF.vw ?_
    refine xn_callS1i C a_R_takesPrePrepare_31 (c_G_primaryOf _ _ v (pg_vw S.2) (by omega)) ms_G_primaryOf lk_R_72 ⟨by decide, by decide⟩ rfl (Nat.le_of_ble_eq_true rfl) ⟨Nat.le_refl _, Nat.le_refl _⟩ ?_
    refine xj_icmp_eq C a_R_takesPrePrepare_34 rfl (fun h34 => ?_) (fun h34 => ?_)
    · rw [nI_eq (by omega) (by omega)] at h34
      have e1 : pg_t1 r S m = pg_tOrd S m := by
        unfold pg_t1
        rw [h15, h34]
        simp
      have hwin : pg_win S.2 (pg_b S.1 m) = true := by
        unfold pg_same at h15
        simp only [Bool.and_eq_true] at h15
        exact h15.1.2.2
      obtain ⟨n, hbn, hn1, hn2⟩ := pg_win_n hN hwin
      have hnb := pg_nb_n hbn (by omega)
      obtain ⟨s1, s2, s3, s4⟩ := hR.2.2.2.2 n hn1 hn2
      have hac := (hN.2.2.2.2.2.2.2 n).1
      have h4 : n % 4 < 4 := Nat.mod_lt _ (by decide)
      obtain ⟨kl, hL, hkl⟩ := hR.2.1
      rw [e1]
      have no2 : pg_tOrd S m = none → ∀ z1 z2 : Option Value, xn_X E G (xj_R E G (xp_tk r v (pg_tOrd S m)) 0 0) 0 0 79 [some (.ref (xj_ad G (11, r, 0))), some (.int (nI m)), z1, z2] [] v := by
        intro h z1 z2
        rw [h]
        refine xj_iconst (v := nI 0) C a_R_takesPrePrepare_79 (by decide) ?_
        refine xj_zret C a_R_takesPrePrepare_80 rfl ?_
        exact ⟨rfl, rfl⟩
      refine xj_aload_n C a_R_takesPrePrepare_39 rfl ?_
      refine xj_aload_n C a_R_takesPrePrepare_40 rfl ?_
      refine xn_g_R_board C a_R_takesPrePrepare_41 fl_R_61 (by first | assumption | omega) ?_
      refine xn_g_B_b C a_R_takesPrePrepare_44 fl_R_131 ?_
      refine xj_iload_n C a_R_takesPrePrepare_47 rfl ?_
      refine xn_ld_5 C a_R_takesPrePrepare_48 (by first | assumption | omega) ?_
      refine xj_topl (hB.b (by omega)) ?_
      refine xj_topl hbn ?_
      refine xn_callV1r C a_R_takesPrePrepare_49 (c_R_slotAt _ _ v r n hr (by omega)) mv_R_slotAt lk_R_145 ⟨rfl, rfl, rfl⟩ (xj_ok11 (by first | assumption | omega)) ⟨by decide, by decide⟩ rfl (Nat.le_of_ble_eq_true rfl) ⟨Nat.le_refl _, Nat.le_refl _⟩ ?_
      refine xj_astore3 C a_R_takesPrePrepare_52 rfl ?_
      refine xj_aload_n C a_R_takesPrePrepare_53 rfl ?_
      refine xn_g_S_accepted C a_R_takesPrePrepare_54 fl_R_149 (by first | assumption | omega) (by first | assumption | omega) ?_
      refine xj_topi s1 ?_
      refine xj_bipush (v := -2) C a_R_takesPrePrepare_57 (by decide) ?_
      refine xj_icmp_ne C a_R_takesPrePrepare_59 rfl (fun h59 => ?_) (fun h59 => ?_)
      · rw [xp_acc (by omega)] at h59
        exact no2 (by unfold pg_tOrd; rw [hnb, if_pos (Or.inl h59)]) _ _
      · rw [xp_acc (by omega)] at h59
        have fin : -1 ≤ pg_c S.1 m → pg_c S.1 m < nI m → (0 ≤ pg_c S.1 m → pg_k S.1 (pg_c S.1 m).toInt.toNat = 0) → xn_X E G (xj_R E G (xp_tk r v (pg_tOrd S m)) 0 0) 0 0 81 [some (.ref (xj_ad G (11, r, 0))), some (.int (nI m)), some (.int (pg_c S.1 m)), some (.ref (xj_ad G (13, r, n % 4)))] [] v := by
          intro c1 c2 c3
          have cq := xp_cq c1 (Int32.lt_trans c2 (by
            have : nI m < nI 1000 := (nI_ltI (by omega) (by omega)).mpr (by omega)
            exact this))
          have cnd : ¬ (pg_ac S.2 (pg_nb S.1 m) ≠ 0 ∨ pg_c S.1 m < -1 ∨ nI m ≤ pg_c S.1 m ∨ (0 ≤ pg_c S.1 m ∧ pg_k S.1 (pg_c S.1 m).toInt.toNat ≠ 0)) := by
            rw [hnb]
            rintro (h | h | h | ⟨h, h'⟩)
            · exact h h59
            · exact absurd h (Int32.not_lt.mpr c1)
            · exact absurd c2 (Int32.not_lt.mpr h)
            · exact h' (c3 h)
          have hacc := hR.accept hn1 hn2 (q := pg_cq (pg_c S.1 m)) cq.1.symm
          have hL' : xc_L r 0 kl (xn_uI v 13 r (n % 4) 2 (pg_c S.1 m)) := hL.keep (by simp [xn_uI]) (fun j _ => by simp [xn_uI])
          refine xj_aload_n C a_R_takesPrePrepare_81 rfl ?_
          refine xj_iload_n C a_R_takesPrePrepare_82 rfl ?_
          refine xn_p_S_accepted C a_R_takesPrePrepare_83 fl_R_149 (by first | assumption | omega) (by first | assumption | omega) ?_
          refine xj_aload_n C a_R_takesPrePrepare_86 rfl ?_
          refine xj_iload_n C a_R_takesPrePrepare_87 rfl ?_
          refine xn_callV1 C a_R_takesPrePrepare_88 (c_R_learn _ _ _ r hr kl.length hL'.2.2.1 hL'.2.1 (pg_c S.1 m)) mv_R_learn lk_R_128 ⟨rfl, rfl, rfl⟩ (xj_ok11 (by first | assumption | omega)) ⟨by decide, by decide⟩ rfl (Nat.le_of_ble_eq_true rfl) ⟨Nat.le_refl _, Nat.le_refl _⟩ ?_
          refine xj_iconst (v := nI 1) C a_R_takesPrePrepare_91 (by decide) ?_
          refine xj_zret C a_R_takesPrePrepare_92 rfl ?_
          unfold pg_tOrd
          rw [if_neg cnd, hnb]
          by_cases e0 : 0 ≤ pg_c S.1 m
          · rw [if_pos e0]
            have hx : pg_c S.1 m = nI (pg_c S.1 m).toInt.toNat := by
              obtain ⟨j, hj, e⟩ := nI_of (Int32.not_lt.mpr e0)
              rw [e, xp_nat (by omega)]
            have hlt : (pg_c S.1 m).toInt.toNat < m := by
              obtain ⟨j, hj, e⟩ := nI_of (Int32.not_lt.mpr e0)
              rw [e, nI_ltI (by omega) (by omega)] at c2
              rw [e, xp_nat (by omega)]
              exact c2
            have hne : ¬ pg_c S.1 m = -1 := by rw [hx]; exact xp_nem1 (by omega)
            rw [if_neg hne]
            have hK' : pg_kno (S.1, pg_u S.2 6 n (pg_cq (pg_c S.1 m))) := hK
            have := hacc.learn hK' hz hL' hkl (m := (pg_c S.1 m).toInt.toNat) (by show _ < S.1.1; omega)
            rw [← hx] at this
            exact ⟨rfl, _, rfl, this, ((xf_R.rf r v).uI (by omega)).add⟩
          · rw [if_neg e0]
            have hm1 : pg_c S.1 m = -1 := by
              have h5 := Int32.not_le.mp e0
              apply Int32.toInt_inj.mp
              have a1 := Int32.le_iff_toInt_le.mp c1
              have a2 := Int32.lt_iff_toInt_lt.mp h5
              have b1 : (-1 : Int32).toInt = -1 := by decide
              have b2 : (0 : Int32).toInt = 0 := by decide
              omega
            rw [if_pos hm1]
            exact ⟨rfl, _, rfl, hacc, (xf_R.rf r v).uI (by omega)⟩
        refine xj_iload_n C a_R_takesPrePrepare_62 rfl ?_
        refine xj_iconst (v := -1) C a_R_takesPrePrepare_63 (by decide) ?_
        refine xj_icmp_eq C a_R_takesPrePrepare_64 rfl (fun h64 => ?_) (fun h64 => ?_)
        · exact fin (by rw [h64]; decide) (by rw [h64, Int32.lt_iff_toInt_lt, nI_toInt (by omega)]; have : (-1 : Int32).toInt = -1 := by decide
                                              omega) (fun h => by rw [h64] at h; exact absurd h (by decide))
        · refine xj_aload_n C a_R_takesPrePrepare_67 rfl ?_
          refine xn_g_R_board C a_R_takesPrePrepare_68 fl_R_61 (by first | assumption | omega) ?_
          refine xj_iload_n C a_R_takesPrePrepare_71 rfl ?_
          refine xj_iload_n C a_R_takesPrePrepare_72 rfl ?_
          refine xn_callV2i C a_R_takesPrePrepare_73 (c_B_hasRequestBelow _ _ v S.1 hB (pg_c S.1 m) m (by omega)) mv_B_hasRequestBelow lk_R_152 ⟨rfl, rfl, rfl⟩ xj_ok1 ⟨by decide, by decide⟩ rfl (Nat.le_of_ble_eq_true rfl) ⟨Nat.le_refl _, Nat.le_refl _⟩ ?_
          refine xj_if_ne C a_R_takesPrePrepare_76 rfl (fun h76 => ?_) (fun h76 => ?_)
          · rw [xp_b0] at h76
            have h76 : ¬ pg_c S.1 m < 0 ∧ ¬ nI m ≤ pg_c S.1 m ∧ pg_k S.1 (pg_c S.1 m).toInt.toNat = 0 := by simpa using h76
            exact fin (Int32.le_trans (by decide) (Int32.not_lt.mp h76.1)) (Int32.not_le.mp h76.2.1) (fun _ => h76.2.2)
          · rw [xp_b0] at h76
            have h76 : ¬ (¬ pg_c S.1 m < 0 ∧ ¬ nI m ≤ pg_c S.1 m ∧ pg_k S.1 (pg_c S.1 m).toInt.toNat = 0) := by simpa using h76
            refine no2 ?_ _ _
            unfold pg_tOrd
            rw [if_pos]
            by_cases d1 : pg_c S.1 m < 0
            · right; left
              rw [Int32.lt_iff_toInt_lt] at d1 ⊢
              have b1 : (-1 : Int32).toInt = -1 := by decide
              have b2 : (0 : Int32).toInt = 0 := by decide
              have b3 : ¬ (pg_c S.1 m).toInt = -1 := fun e => h64 (Int32.toInt_inj.mp (by rw [e, b1]))
              omega
            · by_cases d2 : nI m ≤ pg_c S.1 m
              · right; right; left; exact d2
              · right; right; right
                exact ⟨Int32.not_lt.mp d1, fun e => h76 ⟨d1, d2, e⟩⟩
    · rw [nI_eq (by omega) (by omega)] at h34
      refine no ?_ _ _
      unfold pg_t1
      have : (pg_f S.1 m == pg_vw S.2 % 4) = false := by simpa using h34
      rw [this, Bool.and_false]
      rfl
/-- what r takes of a PREPARE or COMMIT -/
def pg_t23 (r k : Nat) (S : pg_S) (m : Nat) : Option pg_S := if (pg_same S m && pg_f S.1 m != r) && !pg_nts S k (pg_f S.1 m) (pg_a S.1 m) (pg_b S.1 m) then some (S.1, pg_u S.2 9 m 1) else none
theorem c_R_takesPhase2 (l : Launch) (G : xj_G) (v : xn_V) (r : Nat) (hr : r < 4) (S : pg_S) (hR : xc_R r S v) (hN : pg_num S.2) (hB : xc_B S.1 v) (m : Nat) (hm : m < S.1.1) (hk : pg_k S.1 m = 2) : xj_Mx l G 2 43 0 0 m_R_takesPhase [.ref (xj_ad G (11, r, 0)), .int (nI m)] (xn_W v) (xp_tk r v (pg_t23 r 2 S m)) := by
  have hz := hB.2.1
  have hF := hR.1
  have hh := hN.2.2.1
  have hf4 : pg_f S.1 m < 4 := pg_wf4 hB.2.2.1 hm (by omega)
  refine xj_Mx_of (by decide) (Nat.le_of_ble_eq_true rfl) (fun E hE C _ => ?_)
  subst hE
  replace C : xj_C E G prog_5_method_12_code "ThreePhaseGroup$Replica" 4 2 43 0 0 (some .boolean) := C
  show xn_X E G _ 0 0 0 [some (.ref (xj_ad G (11, r, 0))), some (.int (nI m)), none, none] [] v
  refine xj_aload_n C a_R_takesPhase_0 rfl ?_
  refine xj_iload_n C a_R_takesPhase_1 rfl ?_
  refine xn_callV1i C a_R_takesPhase_2 (c_R_isOfThisView _ _ v r hr S hF hN hB m hm) mv_R_isOfThisView lk_R_142 ⟨rfl, rfl, rfl⟩ (xj_ok11 (by first | assumption | omega)) ⟨by decide, by decide⟩ rfl (Nat.le_of_ble_eq_true rfl) ⟨Nat.le_refl _, Nat.le_refl _⟩ ?_
  refine xj_if_ne C a_R_takesPhase_5 rfl (fun h5 => ?_) (fun h5 => ?_)
  · rw [xp_b0] at h5
    have h5 : (pg_same S m && pg_f S.1 m != r) = true := by simpa using h5
    have hsm : pg_a S.1 m = nI (pg_vw S.2) ∧ pg_win S.2 (pg_b S.1 m) = true := by
      unfold pg_same at h5
      simp only [Bool.and_eq_true, beq_iff_eq] at h5
      exact h5.1.2
    obtain ⟨n, hbn, hn1, hn2⟩ := pg_win_n hN hsm.2
    obtain ⟨s1, s2, s3, s4⟩ := hR.2.2.2.2 n hn1 hn2
    have h4 : n % 4 < 4 := Nat.mod_lt _ (by decide)
    refine xj_aload_n C a_R_takesPhase_10 rfl ?_
    refine xj_aload_n C a_R_takesPhase_11 rfl ?_
    refine xn_g_R_board C a_R_takesPhase_12 fl_R_61 (by first | assumption | omega) ?_
    refine xn_g_B_b C a_R_takesPhase_15 fl_R_131 ?_
    refine xj_iload_n C a_R_takesPhase_18 rfl ?_
    refine xn_ld_5 C a_R_takesPhase_19 (by first | assumption | omega) ?_
    refine xj_topl (hB.b (by omega)) ?_
    refine xj_topl hbn ?_
    refine xn_callV1r C a_R_takesPhase_20 (c_R_slotAt _ _ v r n hr (by omega)) mv_R_slotAt lk_R_145 ⟨rfl, rfl, rfl⟩ (xj_ok11 (by first | assumption | omega)) ⟨by decide, by decide⟩ rfl (Nat.le_of_ble_eq_true rfl) ⟨Nat.le_refl _, Nat.le_refl _⟩ ?_
    refine xj_astore2 C a_R_takesPhase_23 rfl ?_
    refine xj_aload_n C a_R_takesPhase_24 rfl ?_
    refine xn_g_R_board C a_R_takesPhase_25 fl_R_61 (by first | assumption | omega) ?_
    refine xn_g_B_kind C a_R_takesPhase_28 fl_R_104 ?_
    refine xj_iload_n C a_R_takesPhase_31 rfl ?_
    refine xn_ld_2 C a_R_takesPhase_32 (by first | assumption | omega) ?_
    refine xj_topi (hB.k (by omega)) ?_
    refine xj_iconst (v := nI 2) C a_R_takesPhase_33 (by decide) ?_
    refine xj_icmp_ne C a_R_takesPhase_34 rfl (fun h34 => ?_) (fun h34 => ?_)
    · rw [nI_eq (by omega) (by omega)] at h34
      exact absurd hk h34
    · refine xj_aload_n C a_R_takesPhase_37 rfl ?_
      refine xn_g_S_prepares C a_R_takesPhase_38 fl_R_156 (by first | assumption | omega) (by first | assumption | omega) ?_
      refine xj_goto C a_R_takesPhase_41 rfl ?_
      refine xj_astore3 C a_R_takesPhase_48 rfl ?_
      refine xj_aload_n C a_R_takesPhase_49 rfl ?_
      refine xj_aload_n C a_R_takesPhase_50 rfl ?_
      refine xn_g_R_board C a_R_takesPhase_51 fl_R_61 (by first | assumption | omega) ?_
      refine xn_g_B_sender C a_R_takesPhase_54 fl_R_76 ?_
      refine xj_iload_n C a_R_takesPhase_57 rfl ?_
      refine xn_ld_3 C a_R_takesPhase_58 (by first | assumption | omega) ?_
      refine xj_topi (hB.f (by omega)) ?_
      refine xn_ld_14 C a_R_takesPhase_59 hr h4 hf4 ?_
      refine xj_topl (s4 _ hf4).1 ?_
      refine xj_ldc2 C a_R_takesPhase_60 kl_R_162 ?_
      refine xj_lcmp C a_R_takesPhase_63 ?_
      refine xj_if_eq C a_R_takesPhase_64 rfl (fun h64 => ?_) (fun h64 => ?_)
      · rw [xp_cmp_eq, pg_nv_un (by omega), ← hsm.1, ← hbn] at h64
        refine xj_aload_n C a_R_takesPhase_69 rfl ?_
        refine xj_aload_n C a_R_takesPhase_70 rfl ?_
        refine xn_g_R_board C a_R_takesPhase_71 fl_R_61 (by first | assumption | omega) ?_
        refine xn_g_B_sender C a_R_takesPhase_74 fl_R_76 ?_
        refine xj_iload_n C a_R_takesPhase_77 rfl ?_
        refine xn_ld_3 C a_R_takesPhase_78 (by first | assumption | omega) ?_
        refine xj_topi (hB.f (by omega)) ?_
        refine xj_aload_n C a_R_takesPhase_79 rfl ?_
        refine xn_g_R_board C a_R_takesPhase_80 fl_R_61 (by first | assumption | omega) ?_
        refine xn_g_B_c C a_R_takesPhase_83 fl_R_139 ?_
        refine xj_iload_n C a_R_takesPhase_86 rfl ?_
        refine xn_ld_6 C a_R_takesPhase_87 (by first | assumption | omega) ?_
        refine xj_topi (hB.c (by omega)) ?_
        refine xj_i2l C a_R_takesPhase_88 ?_
        refine xn_st_14 C a_R_takesPhase_89 hr h4 hf4 ?_
        refine xj_iconst (v := nI 1) C a_R_takesPhase_90 (by decide) ?_
        refine xj_zret C a_R_takesPhase_91 rfl ?_
        have e : pg_t23 r 2 S m = some (S.1, pg_u S.2 9 m 1) := by unfold pg_t23; rw [h5, h64]; rfl
        rw [e]
        exact ⟨rfl, _, rfl, hR.note hN hm hn1 hn2 (Or.inl ⟨rfl, rfl⟩) hk hsm.1 hbn h64, (xf_R.rf r v).uJ (by omega)⟩
      · rw [xp_cmp_eq, pg_nv_un (by omega), ← hsm.1, ← hbn] at h64
        refine xj_iconst (v := nI 0) C a_R_takesPhase_67 (by decide) ?_
        refine xj_zret C a_R_takesPhase_68 rfl ?_
        have e : pg_t23 r 2 S m = none := by
          unfold pg_t23
          have h64 : pg_nts S 2 (pg_f S.1 m) (pg_a S.1 m) (pg_b S.1 m) = true := by simpa using h64
          rw [h64]
          simp
        rw [e]
        exact ⟨rfl, rfl⟩
  · rw [xp_b0] at h5
    refine xj_iconst (v := nI 0) C a_R_takesPhase_8 (by decide) ?_
    refine xj_zret C a_R_takesPhase_9 rfl ?_
    have e : pg_t23 r 2 S m = none := by unfold pg_t23; rw [h5]; rfl
    rw [e]
    exact ⟨rfl, rfl⟩
theorem c_R_takesPhase3 (l : Launch) (G : xj_G) (v : xn_V) (r : Nat) (hr : r < 4) (S : pg_S) (hR : xc_R r S v) (hN : pg_num S.2) (hB : xc_B S.1 v) (m : Nat) (hm : m < S.1.1) (hk : pg_k S.1 m = 3) : xj_Mx l G 2 43 0 0 m_R_takesPhase [.ref (xj_ad G (11, r, 0)), .int (nI m)] (xn_W v) (xp_tk r v (pg_t23 r 3 S m)) := by
  have hz := hB.2.1
  have hF := hR.1
  have hh := hN.2.2.1
  have hf4 : pg_f S.1 m < 4 := pg_wf4 hB.2.2.1 hm (by omega)
  refine xj_Mx_of (by decide) (Nat.le_of_ble_eq_true rfl) (fun E hE C _ => ?_)
  subst hE
  replace C : xj_C E G prog_5_method_12_code "ThreePhaseGroup$Replica" 4 2 43 0 0 (some .boolean) := C
  show xn_X E G _ 0 0 0 [some (.ref (xj_ad G (11, r, 0))), some (.int (nI m)), none, none] [] v
  refine xj_aload_n C a_R_takesPhase_0 rfl ?_
  refine xj_iload_n C a_R_takesPhase_1 rfl ?_
  refine xn_callV1i C a_R_takesPhase_2 (c_R_isOfThisView _ _ v r hr S hF hN hB m hm) mv_R_isOfThisView lk_R_142 ⟨rfl, rfl, rfl⟩ (xj_ok11 (by first | assumption | omega)) ⟨by decide, by decide⟩ rfl (Nat.le_of_ble_eq_true rfl) ⟨Nat.le_refl _, Nat.le_refl _⟩ ?_
  refine xj_if_ne C a_R_takesPhase_5 rfl (fun h5 => ?_) (fun h5 => ?_)
  · rw [xp_b0] at h5
    have h5 : (pg_same S m && pg_f S.1 m != r) = true := by simpa using h5
    have hsm : pg_a S.1 m = nI (pg_vw S.2) ∧ pg_win S.2 (pg_b S.1 m) = true := by
      unfold pg_same at h5
      simp only [Bool.and_eq_true, beq_iff_eq] at h5
      exact h5.1.2
    obtain ⟨n, hbn, hn1, hn2⟩ := pg_win_n hN hsm.2
    obtain ⟨s1, s2, s3, s4⟩ := hR.2.2.2.2 n hn1 hn2
    have h4 : n % 4 < 4 := Nat.mod_lt _ (by decide)
    refine xj_aload_n C a_R_takesPhase_10 rfl ?_
    refine xj_aload_n C a_R_takesPhase_11 rfl ?_
    refine xn_g_R_board C a_R_takesPhase_12 fl_R_61 (by first | assumption | omega) ?_
    refine xn_g_B_b C a_R_takesPhase_15 fl_R_131 ?_
    refine xj_iload_n C a_R_takesPhase_18 rfl ?_
    refine xn_ld_5 C a_R_takesPhase_19 (by first | assumption | omega) ?_
    refine xj_topl (hB.b (by omega)) ?_
    refine xj_topl hbn ?_
    refine xn_callV1r C a_R_takesPhase_20 (c_R_slotAt _ _ v r n hr (by omega)) mv_R_slotAt lk_R_145 ⟨rfl, rfl, rfl⟩ (xj_ok11 (by first | assumption | omega)) ⟨by decide, by decide⟩ rfl (Nat.le_of_ble_eq_true rfl) ⟨Nat.le_refl _, Nat.le_refl _⟩ ?_
    refine xj_astore2 C a_R_takesPhase_23 rfl ?_
    refine xj_aload_n C a_R_takesPhase_24 rfl ?_
    refine xn_g_R_board C a_R_takesPhase_25 fl_R_61 (by first | assumption | omega) ?_
    refine xn_g_B_kind C a_R_takesPhase_28 fl_R_104 ?_
    refine xj_iload_n C a_R_takesPhase_31 rfl ?_
    refine xn_ld_2 C a_R_takesPhase_32 (by first | assumption | omega) ?_
    refine xj_topi (hB.k (by omega)) ?_
    refine xj_iconst (v := nI 2) C a_R_takesPhase_33 (by decide) ?_
    refine xj_icmp_ne C a_R_takesPhase_34 rfl (fun h34 => ?_) (fun h34 => ?_)
    · refine xj_aload_n C a_R_takesPhase_44 rfl ?_
      refine xn_g_S_commits C a_R_takesPhase_45 fl_R_159 (by first | assumption | omega) (by first | assumption | omega) ?_
      refine xj_astore3 C a_R_takesPhase_48 rfl ?_
      refine xj_aload_n C a_R_takesPhase_49 rfl ?_
      refine xj_aload_n C a_R_takesPhase_50 rfl ?_
      refine xn_g_R_board C a_R_takesPhase_51 fl_R_61 (by first | assumption | omega) ?_
      refine xn_g_B_sender C a_R_takesPhase_54 fl_R_76 ?_
      refine xj_iload_n C a_R_takesPhase_57 rfl ?_
      refine xn_ld_3 C a_R_takesPhase_58 (by first | assumption | omega) ?_
      refine xj_topi (hB.f (by omega)) ?_
      refine xn_ld_15 C a_R_takesPhase_59 hr h4 hf4 ?_
      refine xj_topl (s4 _ hf4).2 ?_
      refine xj_ldc2 C a_R_takesPhase_60 kl_R_162 ?_
      refine xj_lcmp C a_R_takesPhase_63 ?_
      refine xj_if_eq C a_R_takesPhase_64 rfl (fun h64 => ?_) (fun h64 => ?_)
      · rw [xp_cmp_eq, pg_nv_un (by omega), ← hsm.1, ← hbn] at h64
        refine xj_aload_n C a_R_takesPhase_69 rfl ?_
        refine xj_aload_n C a_R_takesPhase_70 rfl ?_
        refine xn_g_R_board C a_R_takesPhase_71 fl_R_61 (by first | assumption | omega) ?_
        refine xn_g_B_sender C a_R_takesPhase_74 fl_R_76 ?_
        refine xj_iload_n C a_R_takesPhase_77 rfl ?_
        refine xn_ld_3 C a_R_takesPhase_78 (by first | assumption | omega) ?_
        refine xj_topi (hB.f (by omega)) ?_
        refine xj_aload_n C a_R_takesPhase_79 rfl ?_
        refine xn_g_R_board C a_R_takesPhase_80 fl_R_61 (by first | assumption | omega) ?_
        refine xn_g_B_c C a_R_takesPhase_83 fl_R_139 ?_
        refine xj_iload_n C a_R_takesPhase_86 rfl ?_
        refine xn_ld_6 C a_R_takesPhase_87 (by first | assumption | omega) ?_
        refine xj_topi (hB.c (by omega)) ?_
        refine xj_i2l C a_R_takesPhase_88 ?_
        refine xn_st_15 C a_R_takesPhase_89 hr h4 hf4 ?_
        refine xj_iconst (v := nI 1) C a_R_takesPhase_90 (by decide) ?_
        refine xj_zret C a_R_takesPhase_91 rfl ?_
        have e : pg_t23 r 3 S m = some (S.1, pg_u S.2 9 m 1) := by unfold pg_t23; rw [h5, h64]; rfl
        rw [e]
        exact ⟨rfl, _, rfl, hR.note hN hm hn1 hn2 (Or.inr ⟨rfl, rfl⟩) hk hsm.1 hbn h64, (xf_R.rf r v).uJ (by omega)⟩
      · rw [xp_cmp_eq, pg_nv_un (by omega), ← hsm.1, ← hbn] at h64
        refine xj_iconst (v := nI 0) C a_R_takesPhase_67 (by decide) ?_
        refine xj_zret C a_R_takesPhase_68 rfl ?_
        have e : pg_t23 r 3 S m = none := by
          unfold pg_t23
          have h64 : pg_nts S 3 (pg_f S.1 m) (pg_a S.1 m) (pg_b S.1 m) = true := by simpa using h64
          rw [h64]
          simp
        rw [e]
        exact ⟨rfl, rfl⟩
    · rw [nI_eq (by omega) (by omega)] at h34
      omega
  · rw [xp_b0] at h5
    refine xj_iconst (v := nI 0) C a_R_takesPhase_8 (by decide) ?_
    refine xj_zret C a_R_takesPhase_9 rfl ?_
    have e : pg_t23 r 3 S m = none := by unfold pg_t23; rw [h5]; rfl
    rw [e]
    exact ⟨rfl, rfl⟩
