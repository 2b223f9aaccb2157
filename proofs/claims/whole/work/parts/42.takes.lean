/-! NEW-VIEW; what a replica takes, all in all -/
/-- what r takes of a NEW-VIEW -/
def pg_t6 (r : Nat) (S : pg_S) (m : Nat) : Option pg_S := if pg_f S.1 m != r && (pg_later S m && (decide ((pg_a S.1 m).toInt.toNat % 4 = pg_f S.1 m) && pg_gn S.1 m)) then some (S.1, pg_ent S m) else none
theorem pg_gn_a {B : pg_B} {m : Nat} (h : pg_gn B m = true) : ∃ w, 1 ≤ w ∧ w ≤ 15 ∧ pg_a B m = nI w := by
  unfold pg_gn at h
  simp only [Bool.and_eq_true, decide_eq_true_eq] at h
  have h1 := h.2.1
  have h2 := h.2.2.1
  have h0 : ¬ pg_a B m < 0 := Int32.not_lt.mpr (Int32.le_trans (by decide) h1)
  obtain ⟨w, hw, e⟩ := nI_of h0
  rw [e] at h1 h2
  have h1 : nI 1 ≤ nI w := h1
  have h2 : nI w ≤ nI 15 := h2
  rw [nI_leI (by omega) (by omega)] at h1 h2
  exact ⟨w, h1, h2, e⟩
theorem c_R_takesNewView (l : Launch) (G : xj_G) (v : xn_V) (r : Nat) (hr : r < 4) (S : pg_S) (hR : xc_R r S v) (hN : pg_num S.2) (hB : xc_B S.1 v) (hK : pg_kno S) (hT : pg_top S) (m : Nat) (hm : m < S.1.1) (hk : pg_k S.1 m = 6) (hE : pg_gn S.1 m = true → pg_later S m = true → pg_eok S m) (hV : v.1 7 0 0 m = xp_b (pg_gn S.1 m)) : xj_Mx l G 4 93 0 0 m_R_takesNewView [.ref (xj_ad G (11, r, 0)), .int (nI m)] (xn_W v) (xp_tk r v (pg_t6 r S m)) := by
  have hz := hB.2.1
  have hF := hR.1
  have hf4 : pg_f S.1 m < 4 := pg_wf4 hB.2.2.1 hm (by omega)
  refine xj_Mx_of (by decide) (Nat.le_of_ble_eq_true rfl) (fun E hE C _ => ?_)
  subst hE
  replace C : xj_C E G prog_5_method_16_code "ThreePhaseGroup$Replica" 3 4 93 0 0 (some .boolean) := C
  show xn_X E G _ 0 0 0 [some (.ref (xj_ad G (11, r, 0))), some (.int (nI m)), none] [] v
  have no : pg_t6 r S m = none → ∀ z1 : Option Value, xn_X E G (xj_R E G (xp_tk r v (pg_t6 r S m)) 0 0) 0 0 54 [some (.ref (xj_ad G (11, r, 0))), some (.int (nI m)), z1] [] v := by
    intro h z1
    rw [h]
    refine xj_iconst (v := nI 0) C a_R_takesNewView_54 (by decide) ?_
    refine xj_zret C a_R_takesNewView_55 rfl ?_
    exact ⟨rfl, rfl⟩
  refine xj_aload_n C a_R_takesNewView_0 rfl ?_
  refine xn_g_R_board C a_R_takesNewView_1 fl_R_61 (by first | assumption | omega) ?_
  refine xn_g_B_sender C a_R_takesNewView_4 fl_R_76 ?_
  refine xj_iload_n C a_R_takesNewView_7 rfl ?_
  refine xn_ld_3 C a_R_takesNewView_8 (by first | assumption | omega) ?_
  refine xj_topi (hB.f (by omega)) ?_
  refine xj_istore2 C a_R_takesNewView_9 rfl ?_
  refine xj_aload_n C a_R_takesNewView_10 rfl ?_
  refine xn_g_R_board C a_R_takesNewView_11 fl_R_61 (by first | assumption | omega) ?_
  refine xn_g_B_valid C a_R_takesNewView_14 fl_R_164 ?_
  refine xj_iload_n C a_R_takesNewView_17 rfl ?_
  refine xn_ld_7 C a_R_takesNewView_18 (by first | assumption | omega) ?_
  refine xj_topi (hV) ?_
  refine xj_if_eq C a_R_takesNewView_19 rfl (fun h19 => ?_) (fun h19 => ?_)
  · rw [xp_b0] at h19
    exact no (by unfold pg_t6; simp [h19]) _
  · rw [xp_b0] at h19
    have h19 : pg_gn S.1 m = true := by simpa using h19
    obtain ⟨w, hw1, hw2, hwa⟩ := pg_gn_a h19
    refine xj_iload_n C a_R_takesNewView_22 rfl ?_
    refine xj_aload_n C a_R_takesNewView_23 rfl ?_
    refine xn_g_R_self C a_R_takesNewView_24 fl_R_58 (by first | assumption | omega) ?_
    refine xj_topi hF.self ?_
    refine xj_icmp_eq C a_R_takesNewView_27 rfl (fun h27 => ?_) (fun h27 => ?_)
    · rw [nI_eq (by omega) (by omega)] at h27
      exact no (by unfold pg_t6; simp [h27]) _
    · rw [nI_eq (by omega) (by omega)] at h27
      refine xj_iload_n C a_R_takesNewView_30 rfl ?_
      refine xj_aload_n C a_R_takesNewView_31 rfl ?_
      refine xn_g_R_board C a_R_takesNewView_32 fl_R_61 (by first | assumption | omega) ?_
      refine xn_g_B_a C a_R_takesNewView_35 fl_R_81 ?_
      refine xj_iload_n C a_R_takesNewView_38 rfl ?_
      refine xn_ld_4 C a_R_takesNewView_39 (by first | assumption | omega) ?_
      refine xj_topi (y := nI w) (by rw [hB.a (by omega), hwa]) ?_
      have ew : (pg_a S.1 m).toInt.toNat = w := by rw [hwa, xp_nat (by omega)]
      refine xn_callS1i C a_R_takesNewView_40 (c_G_primaryOf _ _ v w (by omega)) ms_G_primaryOf lk_R_72 ⟨by decide, by decide⟩ rfl (Nat.le_of_ble_eq_true rfl) ⟨Nat.le_refl _, Nat.le_refl _⟩ ?_
      refine xj_icmp_ne C a_R_takesNewView_43 rfl (fun h43 => ?_) (fun h43 => ?_)
      · rw [nI_eq (by omega) (by omega)] at h43
        refine no ?_ _
        unfold pg_t6
        rw [ew]
        have : ¬ w % 4 = pg_f S.1 m := fun e => h43 e.symm
        simp [this]
      · rw [nI_eq (by omega) (by omega)] at h43
        refine xj_aload_n C a_R_takesNewView_46 rfl ?_
        refine xj_iload_n C a_R_takesNewView_47 rfl ?_
        refine xn_callV1i C a_R_takesNewView_48 (c_R_isAhead _ _ v r hr S hF hN hB m hm) mv_R_isAhead lk_R_168 ⟨rfl, rfl, rfl⟩ (xj_ok11 (by first | assumption | omega)) ⟨by decide, by decide⟩ rfl (Nat.le_of_ble_eq_true rfl) ⟨Nat.le_refl _, Nat.le_refl _⟩ ?_
        refine xj_if_ne C a_R_takesNewView_51 rfl (fun h51 => ?_) (fun h51 => ?_)
        · rw [xp_b0] at h51
          have h51 : pg_later S m = true := by simpa using h51
          have e : pg_t6 r S m = some (S.1, pg_ent S m) := by
            unfold pg_t6
            rw [ew]
            simp [h19, h27, h43.symm, h51]
          rw [e]
          refine xj_aload_n C a_R_takesNewView_56 rfl ?_
          refine xj_iload_n C a_R_takesNewView_57 rfl ?_
          refine xj_callV1 C a_R_takesNewView_58 (c_R_enter _ _ v r hr S hR hN hB hK hT m hm (hE h19 h51)) mv_R_enter lk_R_171 ⟨rfl, rfl, rfl⟩ (xj_ok11 (by first | assumption | omega)) ⟨by decide, by decide⟩ rfl (Nat.le_of_ble_eq_true rfl) ⟨Nat.le_refl _, Nat.le_refl _⟩ (fun a' w' h => ?_)
          obtain ⟨rfl, v', rfl, h1, h2⟩ := h
          refine xj_iconst (v := nI 1) C a_R_takesNewView_61 (by decide) ?_
          refine xj_zret C a_R_takesNewView_62 rfl ?_
          exact ⟨rfl, v', rfl, h1, h2⟩
        · rw [xp_b0] at h51
          exact no (by unfold pg_t6; simp [h51]) _
/-- what r takes, by the message's kind -/
theorem pg_takes_k {r : Nat} {S : pg_S} {m : Nat} (hr : r < 4) (hw : pg_wf S.1) (hm : m < S.1.1) : pg_takes r S m = if pg_k S.1 m = 0 then pg_tReq S m else if pg_k S.1 m = 1 then pg_t1 r S m else if pg_k S.1 m = 2 then (if pg_f S.1 m = pg_vw S.2 % 4 then none else pg_t23 r 2 S m) else if pg_k S.1 m = 3 then pg_t23 r 3 S m else if pg_k S.1 m = 5 then pg_t5 r S m else if pg_k S.1 m = 6 then pg_t6 r S m else if pg_k S.1 m = 7 then pg_t7 r S m else none := by
  have h := hw m hm
  unfold pg_takes
  by_cases hf : pg_f S.1 m = r
  · rw [if_pos hf]
    have hk0 : ¬ pg_k S.1 m = 0 := by omega
    rw [if_neg hk0]
    have e : (pg_f S.1 m != r) = false := by simp [hf]
    unfold pg_t1 pg_t23 pg_t5 pg_t6 pg_t7
    rw [e]
    simp
  · rw [if_neg hf]
    have e : (pg_f S.1 m != r) = true := by simpa using hf
    have hk := h.1
    rcases (show pg_k S.1 m = 0 ∨ pg_k S.1 m = 1 ∨ pg_k S.1 m = 2 ∨ pg_k S.1 m = 3 ∨ pg_k S.1 m = 4 ∨ pg_k S.1 m = 5 ∨ pg_k S.1 m = 6 ∨ pg_k S.1 m = 7 by omega) with h0 | h0 | h0 | h0 | h0 | h0 | h0 | h0
    · rw [h0]; rfl
    · rw [h0]
      unfold pg_t1
      rw [e]
      simp
    · rw [h0]
      unfold pg_t23
      rw [e]
      by_cases e2 : pg_f S.1 m = pg_vw S.2 % 4
      · simp [e2]
      · simp [e2]
    · rw [h0]
      unfold pg_t23
      rw [e]
      simp
    · rw [h0]; rfl
    · rw [h0]
      unfold pg_t5
      rw [e]
      simp
    · rw [h0]
      unfold pg_t6
      rw [e]
      simp
    · rw [h0]
      unfold pg_t7
      rw [e]
      simp
/-- taking m is in order -/
def pg_tok (r : Nat) (S : pg_S) (m : Nat) : Prop := pg_num S.2 ∧ pg_kno S ∧ pg_top S ∧ pg_vcu r S ∧ (pg_k S.1 m = 6 → pg_gn S.1 m = true → pg_later S m = true → pg_eok S m)
theorem c_R_takes (l : Launch) (G : xj_G) (v : xn_V) (r : Nat) (hr : r < 4) (S : pg_S) (hR : xc_R r S v) (hB : xc_B S.1 v) (m : Nat) (hm : m < S.1.1) (hI : pg_tok r S m) (hV : v.1 7 0 0 m = xp_b (pg_gc S.1 m || pg_gn S.1 m)) : xj_Mx l G 5 115 0 0 m_R_takes [.ref (xj_ad G (11, r, 0)), .int (nI m)] (xn_W v) (xp_tk r v (pg_takes r S m)) := by
  obtain ⟨hN, hK, hT, hU, hE⟩ := hI
  have hz := hB.2.1
  have hF := hR.1
  have hvw := hN.1
  have hw := hB.2.2.1 m hm
  rw [pg_takes_k hr hB.2.2.1 hm]
  refine xj_Mx_of (by decide) (Nat.le_of_ble_eq_true rfl) (fun E hE C _ => ?_)
  subst hE
  replace C : xj_C E G prog_5_method_8_code "ThreePhaseGroup$Replica" 2 5 115 0 0 (some .boolean) := C
  show xn_X E G _ 0 0 0 [some (.ref (xj_ad G (11, r, 0))), some (.int (nI m))] [] v
  refine xj_aload_n C a_R_takes_0 rfl ?_
  refine xn_g_R_board C a_R_takes_1 fl_R_61 (by first | assumption | omega) ?_
  refine xn_g_B_kind C a_R_takes_4 fl_R_104 ?_
  refine xj_iload_n C a_R_takes_7 rfl ?_
  refine xn_ld_2 C a_R_takes_8 (by first | assumption | omega) ?_
  refine xj_topi (hB.k (by omega)) ?_
  have hk := hw.1
  have sw : ∀ (k off tgt : Nat), k < 8 → pg_k S.1 m = k → (#[(47 : Int), 53, 59, 92, 116, 104, 110, 98])[k]? = some (off : Int) → 9 + off = tgt → ∀ Q, xn_X E G Q 0 0 tgt [some (.ref (xj_ad G (11, r, 0))), some (.int (nI m))] [] v → xn_X E G Q 0 0 9 [some (.ref (xj_ad G (11, r, 0))), some (.int (nI m))] [.int (nI (pg_k S.1 m))] v := by
    intro k off tgt hk8 hkk ho ht Q kk
    rw [hkk]
    have ti : (nI k).toInt = (k : Int) := nI_toInt (by omega)
    refine xj_tableIn C a_R_takes_9 (by rw [ti]; omega) (by rw [ti]; omega) (off := (off : Int)) ?_ ?_ kk
    · rw [ti]
      have : ((k : Int) - 0).toNat = k := by omega
      rw [this]
      exact ho
    · omega
  rcases (show pg_k S.1 m = 0 ∨ pg_k S.1 m = 1 ∨ pg_k S.1 m = 2 ∨ pg_k S.1 m = 3 ∨ pg_k S.1 m = 4 ∨ pg_k S.1 m = 5 ∨ pg_k S.1 m = 6 ∨ pg_k S.1 m = 7 by omega) with h0 | h0 | h0 | h0 | h0 | h0 | h0 | h0
  · refine sw 0 47 56 (by omega) h0 rfl rfl _ ?_
    rw [if_pos h0]
    refine xj_aload_n C a_R_takes_56 rfl ?_
    refine xj_iload_n C a_R_takes_57 rfl ?_
    refine xj_callV1 C a_R_takes_58 (c_R_takesRequest _ _ v r hr S hR hB hK m hm h0) mv_R_takesRequest lk_R_107 ⟨rfl, rfl, rfl⟩ (xj_ok11 (by first | assumption | omega)) ⟨by decide, by decide⟩ rfl (Nat.le_of_ble_eq_true rfl) ⟨Nat.le_refl _, Nat.le_refl _⟩ (fun a' w' h => ?_)
    cases e : pg_tReq S m with
    | none =>
      rw [e] at h
      obtain ⟨rfl, rfl⟩ := h
      exact xj_zret C a_R_takes_61 rfl ⟨rfl, rfl⟩
    | some S' =>
      rw [e] at h
      obtain ⟨rfl, v', rfl, h1⟩ := h
      exact xj_zret C a_R_takes_61 rfl ⟨rfl, v', rfl, h1⟩
  · refine sw 1 53 62 (by omega) h0 rfl rfl _ ?_
    rw [if_neg (by omega), if_pos h0]
    refine xj_aload_n C a_R_takes_62 rfl ?_
    refine xj_iload_n C a_R_takes_63 rfl ?_
    refine xj_callV1 C a_R_takes_64 (c_R_takesPrePrepare _ _ v r hr S hR hN hB hK m hm) mv_R_takesPrePrepare lk_R_110 ⟨rfl, rfl, rfl⟩ (xj_ok11 (by first | assumption | omega)) ⟨by decide, by decide⟩ rfl (Nat.le_of_ble_eq_true rfl) ⟨Nat.le_refl _, Nat.le_refl _⟩ (fun a' w' h => ?_)
    cases e : pg_t1 r S m with
    | none =>
      rw [e] at h
      obtain ⟨rfl, rfl⟩ := h
      exact xj_zret C a_R_takes_67 rfl ⟨rfl, rfl⟩
    | some S' =>
      rw [e] at h
      obtain ⟨rfl, v', rfl, h1⟩ := h
      exact xj_zret C a_R_takes_67 rfl ⟨rfl, v', rfl, h1⟩
  · refine sw 2 59 68 (by omega) h0 rfl rfl _ ?_
    rw [if_neg (by omega), if_neg (by omega), if_pos h0]
    refine xj_aload_n C a_R_takes_68 rfl ?_
    refine xn_g_R_board C a_R_takes_69 fl_R_61 (by first | assumption | omega) ?_
    refine xn_g_B_sender C a_R_takes_72 fl_R_76 ?_
    refine xj_iload_n C a_R_takes_75 rfl ?_
    refine xn_ld_3 C a_R_takes_76 (by first | assumption | omega) ?_
    refine xj_topi (hB.f (by omega)) ?_
    refine xj_aload_n C a_R_takes_77 rfl ?_
    refine xn_g_R_view C a_R_takes_78 fl_R_31 (by first | assumption | omega) ?_
    refine xj_topi hF.vw ?_
    refine xn_callS1i C a_R_takes_81 (c_G_primaryOf _ _ v (pg_vw S.2) (by omega)) ms_G_primaryOf lk_R_72 ⟨by decide, by decide⟩ rfl (Nat.le_of_ble_eq_true rfl) ⟨Nat.le_refl _, Nat.le_refl _⟩ ?_
    refine xj_icmp_eq C a_R_takes_84 rfl (fun h84 => ?_) (fun h84 => ?_)
    · rw [nI_eq (by omega) (by omega)] at h84
      rw [if_pos h84]
      refine xj_iconst (v := nI 0) C a_R_takes_99 (by decide) ?_
      exact xj_zret C a_R_takes_100 rfl ⟨rfl, rfl⟩
    · rw [nI_eq (by omega) (by omega)] at h84
      rw [if_neg h84]
      refine xj_aload_n C a_R_takes_87 rfl ?_
      refine xj_iload_n C a_R_takes_88 rfl ?_
      refine xj_callV1 C a_R_takes_89 (c_R_takesPhase2 _ _ v r hr S hR hN hB m hm h0) mv_R_takesPhase lk_R_113 ⟨rfl, rfl, rfl⟩ (xj_ok11 (by first | assumption | omega)) ⟨by decide, by decide⟩ rfl (Nat.le_of_ble_eq_true rfl) ⟨Nat.le_refl _, Nat.le_refl _⟩ (fun a' w' h => ?_)
      cases e : pg_t23 r 2 S m with
      | none =>
        rw [e] at h
        obtain ⟨rfl, rfl⟩ := h
        refine xj_if_eq C a_R_takes_92 rfl (fun h92 => ?_) (fun h92 => absurd rfl h92)
        refine xj_iconst (v := nI 0) C a_R_takes_99 (by decide) ?_
        exact xj_zret C a_R_takes_100 rfl ⟨rfl, rfl⟩
      | some S' =>
        rw [e] at h
        obtain ⟨rfl, v', rfl, h1⟩ := h
        refine xj_if_eq C a_R_takes_92 rfl (fun h92 => absurd h92 (by decide)) (fun h92 => ?_)
        refine xj_iconst (v := nI 1) C a_R_takes_95 (by decide) ?_
        refine xj_goto C a_R_takes_96 rfl ?_
        exact xj_zret C a_R_takes_100 rfl ⟨rfl, v', rfl, h1⟩
  · refine sw 3 92 101 (by omega) h0 rfl rfl _ ?_
    rw [if_neg (by omega), if_neg (by omega), if_neg (by omega), if_pos h0]
    refine xj_aload_n C a_R_takes_101 rfl ?_
    refine xj_iload_n C a_R_takes_102 rfl ?_
    refine xj_callV1 C a_R_takes_103 (c_R_takesPhase3 _ _ v r hr S hR hN hB m hm h0) mv_R_takesPhase lk_R_113 ⟨rfl, rfl, rfl⟩ (xj_ok11 (by first | assumption | omega)) ⟨by decide, by decide⟩ rfl (Nat.le_of_ble_eq_true rfl) ⟨Nat.le_refl _, Nat.le_refl _⟩ (fun a' w' h => ?_)
    cases e : pg_t23 r 3 S m with
    | none =>
      rw [e] at h
      obtain ⟨rfl, rfl⟩ := h
      exact xj_zret C a_R_takes_106 rfl ⟨rfl, rfl⟩
    | some S' =>
      rw [e] at h
      obtain ⟨rfl, v', rfl, h1⟩ := h
      exact xj_zret C a_R_takes_106 rfl ⟨rfl, v', rfl, h1⟩
  · refine sw 4 116 125 (by omega) h0 rfl rfl _ ?_
    rw [if_neg (by omega), if_neg (by omega), if_neg (by omega), if_neg (by omega), if_neg (by omega), if_neg (by omega), if_neg (by omega)]
    refine xj_iconst (v := nI 0) C a_R_takes_125 (by decide) ?_
    exact xj_zret C a_R_takes_126 rfl ⟨rfl, rfl⟩
  · refine sw 5 104 113 (by omega) h0 rfl rfl _ ?_
    rw [if_neg (by omega), if_neg (by omega), if_neg (by omega), if_neg (by omega), if_pos h0]
    have hgn : pg_gn S.1 m = false := by
      cases e : pg_gn S.1 m with
      | false => rfl
      | true => have := pg_gn6 e; omega
    rw [hgn, Bool.or_false] at hV
    refine xj_aload_n C a_R_takes_113 rfl ?_
    refine xj_iload_n C a_R_takes_114 rfl ?_
    refine xj_callV1 C a_R_takes_115 (c_R_takesViewChange _ _ v r hr S hR hN hU hB m hm h0 hV) mv_R_takesViewChange lk_R_119 ⟨rfl, rfl, rfl⟩ (xj_ok11 (by first | assumption | omega)) ⟨by decide, by decide⟩ rfl (Nat.le_of_ble_eq_true rfl) ⟨Nat.le_refl _, Nat.le_refl _⟩ (fun a' w' h => ?_)
    cases e : pg_t5 r S m with
    | none =>
      rw [e] at h
      obtain ⟨rfl, rfl⟩ := h
      exact xj_zret C a_R_takes_118 rfl ⟨rfl, rfl⟩
    | some S' =>
      rw [e] at h
      obtain ⟨rfl, v', rfl, h1⟩ := h
      exact xj_zret C a_R_takes_118 rfl ⟨rfl, v', rfl, h1⟩
  · refine sw 6 110 119 (by omega) h0 rfl rfl _ ?_
    rw [if_neg (by omega), if_neg (by omega), if_neg (by omega), if_neg (by omega), if_neg (by omega), if_pos h0]
    have hgc : pg_gc S.1 m = false := by
      cases e : pg_gc S.1 m with
      | false => rfl
      | true => have := pg_gc5 e; omega
    rw [hgc, Bool.false_or] at hV
    refine xj_aload_n C a_R_takes_119 rfl ?_
    refine xj_iload_n C a_R_takes_120 rfl ?_
    refine xj_callV1 C a_R_takes_121 (c_R_takesNewView _ _ v r hr S hR hN hB hK hT m hm h0 (hE h0) hV) mv_R_takesNewView lk_R_122 ⟨rfl, rfl, rfl⟩ (xj_ok11 (by first | assumption | omega)) ⟨by decide, by decide⟩ rfl (Nat.le_of_ble_eq_true rfl) ⟨Nat.le_refl _, Nat.le_refl _⟩ (fun a' w' h => ?_)
    cases e : pg_t6 r S m with
    | none =>
      rw [e] at h
      obtain ⟨rfl, rfl⟩ := h
      exact xj_zret C a_R_takes_124 rfl ⟨rfl, rfl⟩
    | some S' =>
      rw [e] at h
      obtain ⟨rfl, v', rfl, h1⟩ := h
      exact xj_zret C a_R_takes_124 rfl ⟨rfl, v', rfl, h1⟩
  · refine sw 7 98 107 (by omega) h0 rfl rfl _ ?_
    rw [if_neg (by omega), if_neg (by omega), if_neg (by omega), if_neg (by omega), if_neg (by omega), if_neg (by omega), if_pos h0]
    refine xj_aload_n C a_R_takes_107 rfl ?_
    refine xj_iload_n C a_R_takes_108 rfl ?_
    refine xj_callV1 C a_R_takes_109 (c_R_takesCheckpoint _ _ v r hr S hR hN hB m hm h0) mv_R_takesCheckpoint lk_R_116 ⟨rfl, rfl, rfl⟩ (xj_ok11 (by first | assumption | omega)) ⟨by decide, by decide⟩ rfl (Nat.le_of_ble_eq_true rfl) ⟨Nat.le_refl _, Nat.le_refl _⟩ (fun a' w' h => ?_)
    cases e : pg_t7 r S m with
    | none =>
      rw [e] at h
      obtain ⟨rfl, rfl⟩ := h
      exact xj_zret C a_R_takes_112 rfl ⟨rfl, rfl⟩
    | some S' =>
      rw [e] at h
      obtain ⟨rfl, v', rfl, h1⟩ := h
      exact xj_zret C a_R_takes_112 rfl ⟨rfl, v', rfl, h1⟩
