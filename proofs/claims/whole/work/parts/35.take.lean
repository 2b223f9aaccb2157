/-! what a replica takes -/
def xp_tk (r : Nat) (v : xn_V) (o : Option pg_S) (a : Option Value) (w' : xj_W) : Prop := match o with
  | none => a = some (.int (nI 0)) ∧ w' = xn_W v
  | some S' => a = some (.int (nI 1)) ∧ ∃ v', w' = xn_W v' ∧ xc_R r S' v' ∧ xf_R r v v'
theorem c_R_learn (l : Launch) (G : xj_G) (v : xn_V) (r : Nat) (hr : r < 4) (z : Nat) (hz : v.1 16 r 0 1 = nI z) (hz2 : z ≤ 256) (q : Int32) : xn_M l G 2 43 m_R_learn [.ref (xj_ad G (11, r, 0)), .int q] v none (if q = -1 then v else xn_add v r 0 z q) := by
  refine xn_M_of (by decide) (Nat.le_of_ble_eq_true rfl) (fun E hE C => ?_)
  subst hE
  replace C : xj_C E G prog_5_method_7_code "ThreePhaseGroup$Replica" 2 2 43 0 0 none := C
  show xn_X E G _ 0 0 0 [some (.ref (xj_ad G (11, r, 0))), some (.int q)] [] v
  refine xj_iload_n C a_R_learn_0 rfl ?_
  refine xj_iconst (v := -1) C a_R_learn_1 (by decide) ?_
  refine xj_icmp_eq C a_R_learn_2 rfl (fun h2 => ?_) (fun h2 => ?_)
  · refine xj_vret C a_R_learn_13 ?_
    exact ⟨rfl, by rw [if_pos h2]⟩
  · refine xj_aload_n C a_R_learn_5 rfl ?_
    refine xn_g_R_known C a_R_learn_6 fl_R_20 (by first | assumption | omega) ?_
    refine xj_iload_n C a_R_learn_9 rfl ?_
    refine xn_callV1 C a_R_learn_10 (c_N_add _ _ v r 0 z hr (by omega) hz hz2 q) mv_N_add lk_R_100 ⟨rfl, rfl, rfl⟩ (xj_ok16 (by first | assumption | omega) (by first | assumption | omega)) ⟨by decide, by decide⟩ rfl (Nat.le_of_ble_eq_true rfl) ⟨Nat.le_refl _, Nat.le_refl _⟩ ?_
    refine xj_vret C a_R_learn_13 ?_
    exact ⟨rfl, by rw [if_neg h2]⟩
theorem xp_nem1 {x : Nat} (h : x < 2 ^ 31) : ¬ nI x = -1 := by
  intro e
  have h1 := nI_toInt h
  rw [e] at h1
  have h2 : (-1 : Int32).toInt = -1 := by decide
  rw [h2] at h1
  omega
theorem c_R_takesRequest (l : Launch) (G : xj_G) (v : xn_V) (r : Nat) (hr : r < 4) (S : pg_S) (hR : xc_R r S v) (hB : xc_B S.1 v) (hK : pg_kno S) (m : Nat) (hm : m < S.1.1) (hk : pg_k S.1 m = 0) : xj_Mx l G 3 64 0 0 m_R_takesRequest [.ref (xj_ad G (11, r, 0)), .int (nI m)] (xn_W v) (xp_tk r v (pg_tReq S m)) := by
  have hz := hB.2.1
  obtain ⟨kl, hL, hkl⟩ := hR.2.1
  have hb : ∀ q, q ∈ kl → q < 2 ^ 31 := fun q hq => by have := hK.1 q ((hkl q).mp hq); omega
  have hwt : pg_wt (S.1, pg_u S.2 10 m 1) m = decide (nI (pg_ts S.2.2 (pg_f S.1 m - 4)) < pg_a S.1 m) := by
    unfold pg_wt
    show (pg_k S.1 m == 0 && ((if 10 = 10 ∧ m = m then 1 else pg_kn S.2 m) == 1 && _)) = _
    rw [hk]
    simp
    rfl
  refine xj_Mx_of (by decide) (Nat.le_of_ble_eq_true rfl) (fun E hE C _ => ?_)
  subst hE
  replace C : xj_C E G prog_5_method_9_code "ThreePhaseGroup$Replica" 2 3 64 0 0 (some .boolean) := C
  show xn_X E G _ 0 0 0 [some (.ref (xj_ad G (11, r, 0))), some (.int (nI m))] [] v
  have no : pg_tReq S m = none → xn_X E G (xj_R E G (xp_tk r v (pg_tReq S m)) 0 0) 0 0 19 [some (.ref (xj_ad G (11, r, 0))), some (.int (nI m))] [] v := by
    intro h
    rw [h]
    refine xj_iconst (v := nI 0) C a_R_takesRequest_19 (by decide) ?_
    refine xj_zret C a_R_takesRequest_20 rfl ?_
    exact ⟨rfl, rfl⟩
  refine xj_aload_n C a_R_takesRequest_0 rfl ?_
  refine xn_g_R_known C a_R_takesRequest_1 fl_R_20 (by first | assumption | omega) ?_
  refine xj_iload_n C a_R_takesRequest_4 rfl ?_
  refine xn_callV1i C a_R_takesRequest_5 (c_N_has _ _ v r 0 kl.length hr (by omega) hL.2.2.1 hL.2.1 (nI m)) mv_N_has lk_R_125 ⟨rfl, rfl, rfl⟩ (xj_ok16 (by first | assumption | omega) (by first | assumption | omega)) ⟨by decide, by decide⟩ rfl (Nat.le_of_ble_eq_true rfl) ⟨Nat.le_refl _, Nat.le_refl _⟩ ?_
  refine xj_if_ne C a_R_takesRequest_8 rfl (fun h8 => ?_) (fun h8 => ?_)
  · rw [xp_b0, hL.any hb (by omega), decide_eq_false_iff_not, Classical.not_not, hkl] at h8
    exact no (by unfold pg_tReq; rw [if_pos h8])
  · rw [xp_b0, hL.any hb (by omega), decide_eq_false_iff_not, hkl] at h8
    refine xj_aload_n C a_R_takesRequest_11 rfl ?_
    refine xj_iload_n C a_R_takesRequest_12 rfl ?_
    refine xn_callV1i C a_R_takesRequest_13 (c_R_wouldWait _ _ v r hr S hR.1 hB m hm hk) mv_R_wouldWait lk_R_96 ⟨rfl, rfl, rfl⟩ (xj_ok11 (by first | assumption | omega)) ⟨by decide, by decide⟩ rfl (Nat.le_of_ble_eq_true rfl) ⟨Nat.le_refl _, Nat.le_refl _⟩ ?_
    refine xj_if_ne C a_R_takesRequest_16 rfl (fun h16 => ?_) (fun h16 => ?_)
    · rw [xp_b0, ← hwt] at h16
      have h16 : pg_wt (S.1, pg_u S.2 10 m 1) m = true := by simpa using h16
      refine xj_aload_n C a_R_takesRequest_21 rfl ?_
      refine xj_iload_n C a_R_takesRequest_22 rfl ?_
      refine xn_callV1 C a_R_takesRequest_23 (c_R_learn _ _ v r hr kl.length hL.2.2.1 hL.2.1 (nI m)) mv_R_learn lk_R_128 ⟨rfl, rfl, rfl⟩ (xj_ok11 (by first | assumption | omega)) ⟨by decide, by decide⟩ rfl (Nat.le_of_ble_eq_true rfl) ⟨Nat.le_refl _, Nat.le_refl _⟩ ?_
      refine xj_iconst (v := nI 1) C a_R_takesRequest_26 (by decide) ?_
      rw [if_neg (xp_nem1 (by omega))]
      refine xj_zret C a_R_takesRequest_27 rfl ?_
      have e : pg_tReq S m = some (S.1, pg_u S.2 10 m 1) := by unfold pg_tReq; rw [if_neg h8, if_pos h16]
      rw [e]
      exact ⟨rfl, _, rfl, hR.learn hK hz hL hkl hm, (xf_R.rf r v).add⟩
    · rw [xp_b0, ← hwt] at h16
      exact no (by unfold pg_tReq; rw [if_neg h8, if_neg (by rw [h16]; decide)])
theorem c_R_isOfThisView (l : Launch) (G : xj_G) (v : xn_V) (r : Nat) (hr : r < 4) (S : pg_S) (hF : xc_F r S.2 v) (hN : pg_num S.2) (hB : xc_B S.1 v) (m : Nat) (hm : m < S.1.1) : xn_M l G 1 22 m_R_isOfThisView [.ref (xj_ad G (11, r, 0)), .int (nI m)] v (some (.int (xp_b (pg_same S m && pg_f S.1 m != r)))) v := by
  have hz := hB.2.1
  have hw := hB.2.2.1 m hm
  have hch := hN.2.1
  refine xn_M_of (by decide) (Nat.le_of_ble_eq_true rfl) (fun E hE C => ?_)
  subst hE
  replace C : xj_C E G prog_5_method_10_code "ThreePhaseGroup$Replica" 2 1 22 0 0 (some .boolean) := C
  show xn_X E G _ 0 0 0 [some (.ref (xj_ad G (11, r, 0))), some (.int (nI m))] [] v
  have no : (pg_same S m && pg_f S.1 m != r) = false → xn_X E G (xj_R E G (fun a' w' => a' = some (.int (xp_b (pg_same S m && pg_f S.1 m != r))) ∧ w' = xn_W v) 0 0) 0 0 59 [some (.ref (xj_ad G (11, r, 0))), some (.int (nI m))] [] v := by
    intro h
    refine xj_iconst (v := nI 0) C a_R_isOfThisView_59 (by decide) ?_
    refine xj_zret C a_R_isOfThisView_60 rfl ?_
    exact ⟨xp_f h, rfl⟩
  refine xj_aload_n C a_R_isOfThisView_0 rfl ?_
  refine xn_g_R_changing C a_R_isOfThisView_1 fl_R_35 (by first | assumption | omega) ?_
  refine xj_topi hF.ch ?_
  refine xj_if_ne C a_R_isOfThisView_4 rfl (fun h4 => ?_) (fun h4 => ?_)
  · refine no ?_
    have : ¬ pg_ch S.2 = 0 := fun e => h4 (by rw [e]; rfl)
    unfold pg_same
    simp [this]
  · have h4 : pg_ch S.2 = 0 := by
      have e : nI (pg_ch S.2) = nI 0 := h4
      rw [nI_eq (by omega) (by omega)] at e
      exact e
    refine xj_aload_n C a_R_isOfThisView_7 rfl ?_
    refine xn_g_R_board C a_R_isOfThisView_8 fl_R_61 (by first | assumption | omega) ?_
    refine xn_g_B_a C a_R_isOfThisView_11 fl_R_81 ?_
    refine xj_iload_n C a_R_isOfThisView_14 rfl ?_
    refine xn_ld_4 C a_R_isOfThisView_15 (by first | assumption | omega) ?_
    refine xj_topi (hB.a (by omega)) ?_
    refine xj_aload_n C a_R_isOfThisView_16 rfl ?_
    refine xn_g_R_view C a_R_isOfThisView_17 fl_R_31 (by first | assumption | omega) ?_
    refine xj_topi hF.vw ?_
    refine xj_icmp_ne C a_R_isOfThisView_20 rfl (fun h20 => ?_) (fun h20 => ?_)
    · refine no ?_
      unfold pg_same
      simp [h20]
    · refine xj_aload_n C a_R_isOfThisView_23 rfl ?_
      refine xn_g_R_board C a_R_isOfThisView_24 fl_R_61 (by first | assumption | omega) ?_
      refine xn_g_B_sender C a_R_isOfThisView_27 fl_R_76 ?_
      refine xj_iload_n C a_R_isOfThisView_30 rfl ?_
      refine xn_ld_3 C a_R_isOfThisView_31 (by first | assumption | omega) ?_
      refine xj_topi (hB.f (by omega)) ?_
      refine xj_aload_n C a_R_isOfThisView_32 rfl ?_
      refine xn_g_R_self C a_R_isOfThisView_33 fl_R_58 (by first | assumption | omega) ?_
      refine xj_topi hF.self ?_
      refine xj_icmp_eq C a_R_isOfThisView_36 rfl (fun h36 => ?_) (fun h36 => ?_)
      · rw [nI_eq (by omega) (by omega)] at h36
        exact no (by simp [h36])
      · rw [nI_eq (by omega) (by omega)] at h36
        refine xj_aload_n C a_R_isOfThisView_39 rfl ?_
        refine xj_aload_n C a_R_isOfThisView_40 rfl ?_
        refine xn_g_R_board C a_R_isOfThisView_41 fl_R_61 (by first | assumption | omega) ?_
        refine xn_g_B_b C a_R_isOfThisView_44 fl_R_131 ?_
        refine xj_iload_n C a_R_isOfThisView_47 rfl ?_
        refine xn_ld_5 C a_R_isOfThisView_48 (by first | assumption | omega) ?_
        refine xj_topl (hB.b (by omega)) ?_
        refine xn_callV1i C a_R_isOfThisView_49 (c_R_inWindow _ _ v r hr S.2 hF hN (pg_b S.1 m)) mv_R_inWindow lk_R_135 ⟨rfl, rfl, rfl⟩ (xj_ok11 (by first | assumption | omega)) ⟨by decide, by decide⟩ rfl (Nat.le_of_ble_eq_true rfl) ⟨Nat.le_refl _, Nat.le_refl _⟩ ?_
        refine xj_if_eq C a_R_isOfThisView_52 rfl (fun h52 => ?_) (fun h52 => ?_)
        · rw [xp_b0] at h52
          refine no ?_
          unfold pg_same
          simp [h52]
        · rw [xp_b0] at h52
          have h52 : pg_win S.2 (pg_b S.1 m) = true := by simpa using h52
          refine xj_iconst (v := nI 1) C a_R_isOfThisView_55 (by decide) ?_
          refine xj_goto C a_R_isOfThisView_56 rfl ?_
          refine xj_zret C a_R_isOfThisView_60 rfl ?_
          refine ⟨xp_t ?_, rfl⟩
          unfold pg_same
          simp [h4, h20, h36, h52]
theorem pg_win_n {R : pg_R} {x : Int64} (hN : pg_num R) (h : pg_win R x = true) : ∃ n, x = lN n ∧ pg_h R < n ∧ n ≤ pg_h R + 4 := by
  have hh := hN.2.2.1
  unfold pg_win at h
  simp only [Bool.and_eq_true, decide_eq_true_eq] at h
  have h1 : ¬ x < 0 := by
    intro e
    have : lN (pg_h R) < 0 := Int64.lt_trans h.1 e
    rw [Int64.lt_iff_toInt_lt, pk_lT (by omega)] at this
    have h0 : (0 : Int64).toInt = 0 := by decide
    omega
  obtain ⟨n, hn, rfl⟩ := pk_lOf h1
  rw [pk_lLT (by omega) hn, pk_lLE hn (by omega)] at h
  exact ⟨n, rfl, h.1, h.2⟩
theorem pg_nb_n {B : pg_B} {m n : Nat} (h : pg_b B m = lN n) (hn : n < 2 ^ 31) : pg_nb B m = n := by
  unfold pg_nb
  rw [h, pk_lT (by omega)]
  rfl
theorem xp_acc {q : Nat} (h : q < 2 ^ 30) : nI q - 2 = -2 ↔ q = 0 := by
  constructor
  · intro e
    have h1 : nI q = nI 0 := by
      have : nI q - 2 + 2 = -2 + 2 := by rw [e]
      rw [Int32.sub_add_cancel] at this
      rw [this]
      decide
    rwa [nI_eq (by omega) (by omega)] at h1
  · rintro rfl
    decide
theorem xp_cq {c : Int32} (h : -1 ≤ c) (h2 : c < 1000) : nI (pg_cq c) - 2 = c ∧ pg_cq c < 1002 ∧ 0 < pg_cq c := by
  have h3 : -1 ≤ c.toInt := by
    have := Int32.le_iff_toInt_le.mp h
    have h0 : (-1 : Int32).toInt = -1 := by decide
    omega
  have h4 : c.toInt < 1000 := by
    have := Int32.lt_iff_toInt_lt.mp h2
    have h0 : (1000 : Int32).toInt = 1000 := by decide
    omega
  have h5 : (c + 2).toInt = c.toInt + 2 := by
    rw [Int32.toInt_add]
    have h0 : (2 : Int32).toInt = 2 := by decide
    rw [h0, Int.bmod_def]
    omega
  have h6 : pg_cq c = (c.toInt + 2).toNat := by unfold pg_cq; rw [h5]
  refine ⟨?_, by omega, by omega⟩
  have h7 : nI (pg_cq c) = c + 2 := by
    apply Int32.toInt_inj.mp
    rw [nI_toInt (by omega), h5, h6]
    omega
  rw [h7, Int32.add_sub_cancel]
