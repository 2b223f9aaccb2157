/-! a replica's cells, and what they stand for -/
/-- a row of different numbers -/
def xc_L (r i : Nat) (l : List Nat) (v : xn_V) : Prop := l.Nodup ∧ l.length ≤ 256 ∧ v.1 16 r i 1 = nI l.length ∧ ∀ (j : Nat) (h : j < l.length), v.1 17 r i j = nI l[j]
/-- the latest noted VIEW-CHANGE of s -/
def pg_lvc (S : pg_S) (s : Nat) : Option Nat := ((List.range S.1.1).filter (fun i => pg_no S.2 i == 1 && (pg_k S.1 i == 5 && pg_f S.1 i == s))).getLast?
/-- what is noted of s for VIEW and n -/
def pg_nv (S : pg_S) (k n s : Nat) : Int64 := match (List.range S.1.1).find? (fun i => pg_no S.2 i == 1 && (pg_k S.1 i == k && (pg_f S.1 i == s && (pg_a S.1 i == nI (pg_vw S.2) && pg_b S.1 i == lN n)))) with
  | some i => (pg_c S.1 i).toInt64
  | none => 1099511627776
/-- the slot of n -/
def xc_S (r : Nat) (S : pg_S) (n : Nat) (v : xn_V) : Prop := v.1 13 r (n % 4) 2 = nI (pg_ac S.2 n) - 2 ∧ v.1 13 r (n % 4) 3 = nI (pg_de S.2 n) - 2 ∧ v.1 13 r (n % 4) 4 = nI (pg_ct S.2 n) ∧ ∀ s, s < 4 → v.2 14 r (n % 4) s = pg_nv S 2 n s ∧ v.2 15 r (n % 4) s = pg_nv S 3 n s
/-- a replica's own numbers -/
def xc_F (r : Nat) (R : pg_R) (v : xn_V) : Prop := v.1 11 r 0 0 = nI r ∧ v.1 11 r 0 6 = nI (pg_vw R) ∧ v.1 11 r 0 7 = nI (pg_ch R) ∧ v.1 11 r 0 8 = nI (pg_h R) ∧ v.1 11 r 0 9 = nI (pg_e R) ∧ v.2 11 r 0 10 = R.2 ∧ v.1 11 r 0 11 = nI (pg_tm R) ∧ v.1 11 r 0 12 = nI (pg_sp R) ∧ v.1 11 r 0 13 = nI (pg_af R)
/-- the class's replica r -/
def xc_R (r : Nat) (S : pg_S) (v : xn_V) : Prop := xc_F r S.2 v ∧ (∃ kl, xc_L r 0 kl v ∧ ∀ q, q ∈ kl ↔ pg_kn S.2 q = 1) ∧ (∃ cl, xc_L r 1 cl v ∧ ∀ q, q ∈ cl ↔ (q < S.1.1 ∧ pg_no S.2 q = 1 ∧ pg_k S.1 q = 7)) ∧ (∀ s, s < 4 → v.1 18 r 0 s = xp_o (pg_lvc S s)) ∧ ∀ n, pg_h S.2 < n → n ≤ pg_h S.2 + 4 → xc_S r S n v
/-- the numbers keep their bounds -/
def pg_num (R : pg_R) : Prop := pg_vw R ≤ 15 ∧ pg_ch R ≤ 1 ∧ pg_h R < 400 ∧ pg_e R < 400 ∧ pg_tm R < 64 ∧ pg_sp R ≤ 32 ∧ pg_af R ≤ 1 ∧ ∀ n, pg_ac R n < 300 ∧ pg_de R n < 300 ∧ pg_ct R n ≤ 16
/-- known are requests; what is noted lies on the board -/
def pg_kno (S : pg_S) : Prop := (∀ q, pg_kn S.2 q = 1 → q < S.1.1 ∧ pg_k S.1 q = 0) ∧ ∀ q, pg_no S.2 q = 1 → q < S.1.1
theorem xc_F.self {r : Nat} {R : pg_R} {v : xn_V} (h : xc_F r R v) : v.1 11 r 0 0 = nI r := h.1
theorem xc_F.vw {r : Nat} {R : pg_R} {v : xn_V} (h : xc_F r R v) : v.1 11 r 0 6 = nI (pg_vw R) := h.2.1
theorem xc_F.ch {r : Nat} {R : pg_R} {v : xn_V} (h : xc_F r R v) : v.1 11 r 0 7 = nI (pg_ch R) := h.2.2.1
theorem xc_F.h {r : Nat} {R : pg_R} {v : xn_V} (h : xc_F r R v) : v.1 11 r 0 8 = nI (pg_h R) := h.2.2.2.1
theorem xc_F.e {r : Nat} {R : pg_R} {v : xn_V} (h : xc_F r R v) : v.1 11 r 0 9 = nI (pg_e R) := h.2.2.2.2.1
theorem xc_F.st {r : Nat} {R : pg_R} {v : xn_V} (h : xc_F r R v) : v.2 11 r 0 10 = R.2 := h.2.2.2.2.2.1
theorem xc_F.tm {r : Nat} {R : pg_R} {v : xn_V} (h : xc_F r R v) : v.1 11 r 0 11 = nI (pg_tm R) := h.2.2.2.2.2.2.1
theorem xc_F.sp {r : Nat} {R : pg_R} {v : xn_V} (h : xc_F r R v) : v.1 11 r 0 12 = nI (pg_sp R) := h.2.2.2.2.2.2.2.1
theorem xc_F.af {r : Nat} {R : pg_R} {v : xn_V} (h : xc_F r R v) : v.1 11 r 0 13 = nI (pg_af R) := h.2.2.2.2.2.2.2.2
theorem c_R_inWindow (l : Launch) (G : xj_G) (v : xn_V) (r : Nat) (hr : r < 4) (R : pg_R) (hF : xc_F r R v) (hN : pg_num R) (n : Int64) : xn_M l G 0 0 m_R_inWindow [.ref (xj_ad G (11, r, 0)), .long n] v (some (.int (xp_b (pg_win R n)))) v := by
  have hh := hN.2.2.1
  have e1 : (nI (pg_h R)).toInt64 = lN (pg_h R) := nI_l (by omega)
  have e2 : (nI (pg_h R + 4)).toInt64 = lN (pg_h R + 4) := nI_l (by omega)
  refine xn_M_of (by decide) (Nat.le_of_ble_eq_true rfl) (fun E hE C => ?_)
  subst hE
  replace C : xj_C E G prog_5_method_2_code "ThreePhaseGroup$Replica" 3 0 0 0 0 (some .boolean) := C
  show xn_X E G _ 0 0 0 [some (.ref (xj_ad G (11, r, 0))), some (.long n), none] [] v
  refine xj_lload_n C a_R_inWindow_0 rfl ?_
  refine xj_aload_n C a_R_inWindow_1 rfl ?_
  refine xn_g_R_stable C a_R_inWindow_2 fl_R_39 (by first | assumption | omega) ?_
  refine xj_topi hF.h ?_
  refine xj_i2l C a_R_inWindow_5 ?_
  refine xj_lcmp C a_R_inWindow_6 ?_
  refine xj_if_le C a_R_inWindow_7 rfl (fun h7 => ?_) (fun h7 => ?_)
  · rw [xp_cmp_le, e1] at h7
    refine xj_iconst (v := nI 0) C a_R_inWindow_26 (by decide) ?_
    refine xj_zret C a_R_inWindow_27 rfl ?_
    refine ⟨xp_f ?_, rfl⟩
    unfold pg_win
    rw [decide_eq_false (Int64.not_lt.mpr h7)]
    rfl
  · rw [xp_cmp_le, e1] at h7
    refine xj_lload_n C a_R_inWindow_10 rfl ?_
    refine xj_aload_n C a_R_inWindow_11 rfl ?_
    refine xn_g_R_stable C a_R_inWindow_12 fl_R_39 (by first | assumption | omega) ?_
    refine xj_topi hF.h ?_
    refine xj_iconst (v := nI 4) C a_R_inWindow_15 (by decide) ?_
    refine xj_iadd C a_R_inWindow_16 ?_
    refine xj_topi (nI_add _ 4) ?_
    refine xj_i2l C a_R_inWindow_17 ?_
    refine xj_lcmp C a_R_inWindow_18 ?_
    refine xj_if_gt C a_R_inWindow_19 rfl (fun h19 => ?_) (fun h19 => ?_)
    · rw [xp_cmp_gt, e2] at h19
      refine xj_iconst (v := nI 0) C a_R_inWindow_26 (by decide) ?_
      refine xj_zret C a_R_inWindow_27 rfl ?_
      refine ⟨xp_f ?_, rfl⟩
      unfold pg_win
      rw [decide_eq_false (Int64.not_le.mpr h19), Bool.and_false]
    · rw [xp_cmp_gt, e2] at h19
      refine xj_iconst (v := nI 1) C a_R_inWindow_22 (by decide) ?_
      refine xj_goto C a_R_inWindow_23 rfl ?_
      refine xj_zret C a_R_inWindow_27 rfl ?_
      refine ⟨xp_t ?_, rfl⟩
      unfold pg_win
      rw [decide_eq_true (Int64.not_le.mp h7), decide_eq_true (Int64.not_lt.mp h19)]
      rfl
theorem c_R_slotAt (l : Launch) (G : xj_G) (v : xn_V) (r n : Nat) (hr : r < 4) (hn : n < 2 ^ 31) : xn_M l G 0 0 m_R_slotAt [.ref (xj_ad G (11, r, 0)), .long (lN n)] v (some (.ref (xj_ad G (13, r, n % 4)))) v := by
  have h4 : n % 4 < 4 := Nat.mod_lt _ (by decide)
  refine xn_M_of (by decide) (Nat.le_of_ble_eq_true rfl) (fun E hE C => ?_)
  subst hE
  replace C : xj_C E G prog_5_method_3_code "ThreePhaseGroup$Replica" 3 0 0 0 0 (some (.object "ThreePhaseGroup$Slot")) := C
  show xn_X E G _ 0 0 0 [some (.ref (xj_ad G (11, r, 0))), some (.long (lN n)), none] [] v
  refine xj_aload_n C a_R_slotAt_0 rfl ?_
  refine xn_g_R_slots C a_R_slotAt_1 fl_R_11 (by first | assumption | omega) ?_
  refine xj_lload_n C a_R_slotAt_4 rfl ?_
  refine xj_l2i C a_R_slotAt_5 ?_
  refine xj_topi (lN_i n) ?_
  refine xj_iconst (v := nI 3) C a_R_slotAt_6 (by decide) ?_
  refine xj_iand C a_R_slotAt_7 ?_
  refine xj_topi (y := nI (n % 4)) (pk_andN (by omega) 2 (by decide)) ?_
  refine xn_ld_12 C a_R_slotAt_8 (by first | assumption | omega) (by first | assumption | omega) ?_
  refine xj_aret C a_R_slotAt_9 ?_
  exact ⟨rfl, rfl⟩
theorem c_R_isPrimary (l : Launch) (G : xj_G) (v : xn_V) (r : Nat) (hr : r < 4) (R : pg_R) (hF : xc_F r R v) (hN : pg_num R) : xn_M l G 1 20 m_R_isPrimary [.ref (xj_ad G (11, r, 0))] v (some (.int (xp_b (decide (pg_vw R % 4 = r))))) v := by
  have hv := hN.1
  refine xn_M_of (by decide) (Nat.le_of_ble_eq_true rfl) (fun E hE C => ?_)
  subst hE
  replace C : xj_C E G prog_5_method_4_code "ThreePhaseGroup$Replica" 1 1 20 0 0 (some .boolean) := C
  show xn_X E G _ 0 0 0 [some (.ref (xj_ad G (11, r, 0)))] [] v
  refine xj_aload_n C a_R_isPrimary_0 rfl ?_
  refine xn_g_R_view C a_R_isPrimary_1 fl_R_31 (by first | assumption | omega) ?_
  refine xj_topi hF.vw ?_
  refine xn_callS1i C a_R_isPrimary_4 (c_G_primaryOf _ _ v (pg_vw R) (by omega)) ms_G_primaryOf lk_R_72 ⟨by decide, by decide⟩ rfl (Nat.le_of_ble_eq_true rfl) ⟨Nat.le_refl _, Nat.le_refl _⟩ ?_
  refine xj_aload_n C a_R_isPrimary_7 rfl ?_
  refine xn_g_R_self C a_R_isPrimary_8 fl_R_58 (by first | assumption | omega) ?_
  refine xj_topi hF.self ?_
  refine xj_icmp_ne C a_R_isPrimary_11 rfl (fun h11 => ?_) (fun h11 => ?_)
  · rw [nI_eq (by omega) (by omega)] at h11
    refine xj_iconst (v := nI 0) C a_R_isPrimary_18 (by decide) ?_
    refine xj_zret C a_R_isPrimary_19 rfl ?_
    exact ⟨xp_f (by simpa using h11), rfl⟩
  · rw [nI_eq (by omega) (by omega)] at h11
    refine xj_iconst (v := nI 1) C a_R_isPrimary_14 (by decide) ?_
    refine xj_goto C a_R_isPrimary_15 rfl ?_
    refine xj_zret C a_R_isPrimary_19 rfl ?_
    exact ⟨xp_t (by simpa using h11), rfl⟩
theorem c_R_wouldWait (l : Launch) (G : xj_G) (v : xn_V) (r : Nat) (hr : r < 4) (S : pg_S) (hF : xc_F r S.2 v) (hB : xc_B S.1 v) (m : Nat) (hm : m < S.1.1) (hk : pg_k S.1 m = 0) : xn_M l G 1 22 m_R_wouldWait [.ref (xj_ad G (11, r, 0)), .int (nI m)] v (some (.int (xp_b (decide (nI (pg_ts S.2.2 (pg_f S.1 m - 4)) < pg_a S.1 m))))) v := by
  have hz := hB.2.1
  have hw := hB.2.2.1 m hm
  have h4 : 4 ≤ pg_f S.1 m := hw.2.2.mp hk
  have hf6 := hw.2.1
  refine xn_M_of (by decide) (Nat.le_of_ble_eq_true rfl) (fun E hE C => ?_)
  subst hE
  replace C : xj_C E G prog_5_method_5_code "ThreePhaseGroup$Replica" 3 1 22 0 0 (some .boolean) := C
  show xn_X E G _ 0 0 0 [some (.ref (xj_ad G (11, r, 0))), some (.int (nI m)), none] [] v
  refine xj_aload_n C a_R_wouldWait_0 rfl ?_
  refine xn_g_R_board C a_R_wouldWait_1 fl_R_61 (by first | assumption | omega) ?_
  refine xn_g_B_sender C a_R_wouldWait_4 fl_R_76 ?_
  refine xj_iload_n C a_R_wouldWait_7 rfl ?_
  refine xn_ld_3 C a_R_wouldWait_8 (by first | assumption | omega) ?_
  refine xj_topi (hB.f (by omega)) ?_
  refine xj_iconst (v := nI 4) C a_R_wouldWait_9 (by decide) ?_
  refine xj_isub C a_R_wouldWait_10 ?_
  refine xj_topi (y := nI (pg_f S.1 m - 4)) (pk_sub (by omega)) ?_
  refine xj_istore2 C a_R_wouldWait_11 rfl ?_
  refine xj_aload_n C a_R_wouldWait_12 rfl ?_
  refine xn_g_R_board C a_R_wouldWait_13 fl_R_61 (by first | assumption | omega) ?_
  refine xn_g_B_a C a_R_wouldWait_16 fl_R_81 ?_
  refine xj_iload_n C a_R_wouldWait_19 rfl ?_
  refine xn_ld_4 C a_R_wouldWait_20 (by first | assumption | omega) ?_
  refine xj_topi (hB.a (by omega)) ?_
  refine xj_aload_n C a_R_wouldWait_21 rfl ?_
  refine xn_g_R_state C a_R_wouldWait_22 fl_R_45 (by first | assumption | omega) ?_
  refine xj_topl hF.st ?_
  refine xj_iload_n C a_R_wouldWait_25 rfl ?_
  refine xn_callS2i C a_R_wouldWait_26 (c_V_timestampOf _ _ v S.2.2 (pg_f S.1 m - 4) (by omega)) ms_V_timestampOf lk_R_84 ⟨by decide, by decide⟩ rfl (Nat.le_of_ble_eq_true rfl) ⟨Nat.le_refl _, Nat.le_refl _⟩ ?_
  refine xj_icmp_le C a_R_wouldWait_29 rfl (fun h29 => ?_) (fun h29 => ?_)
  · refine xj_iconst (v := nI 0) C a_R_wouldWait_36 (by decide) ?_
    refine xj_zret C a_R_wouldWait_37 rfl ?_
    exact ⟨xp_f (decide_eq_false (Int32.not_lt.mpr h29)), rfl⟩
  · refine xj_iconst (v := nI 1) C a_R_wouldWait_32 (by decide) ?_
    refine xj_goto C a_R_wouldWait_33 rfl ?_
    refine xj_zret C a_R_wouldWait_37 rfl ?_
    exact ⟨xp_t (decide_eq_true (Int32.not_le.mp h29)), rfl⟩
theorem xc_L.at {r i : Nat} {l : List Nat} {v : xn_V} (h : xc_L r i l v) {j : Nat} (hj : j < l.length) : v.1 17 r i j = nI l[j] := h.2.2.2 j hj
theorem xp_c_list (P : Nat → Bool) (l : List Nat) : xp_c (fun j => P (l.getD j 0)) l.length = (l.filter P).length := by
  unfold xp_c
  have : (List.range l.length).map (fun j => l.getD j 0) = l := by
    apply List.ext_getElem
    · simp
    · intro n h1 h2
      simp at h1
      simp [h1]
  conv => rhs; rw [← this, List.filter_map, List.length_map]
  rfl
/-- known ones that wait, in the class's row, are those that wait -/
theorem xp_wn (S : pg_S) (kl : List Nat) (hn : kl.Nodup) (hk : ∀ q, q ∈ kl ↔ pg_kn S.2 q = 1) (hK : pg_kno S) : (kl.filter (fun m => decide (nI (pg_ts S.2.2 (pg_f S.1 m - 4)) < pg_a S.1 m))).length = pg_wn S := by
  unfold pg_wn
  apply List.Perm.length_eq
  rw [List.perm_ext_iff_of_nodup (hn.filter _) (List.nodup_range.filter _)]
  intro a
  rw [List.mem_filter, List.mem_filter, List.mem_range, hk]
  unfold pg_wt
  constructor
  · rintro ⟨h1, h2⟩
    obtain ⟨h3, h4⟩ := hK.1 a h1
    exact ⟨h3, by rw [h2, h1, h4]; rfl⟩
  · rintro ⟨h1, h2⟩
    simp only [Bool.and_eq_true] at h2
    exact ⟨by simpa using h2.2.1, h2.2.2⟩
theorem c_R_countWaiting (l : Launch) (G : xj_G) (v : xn_V) (r : Nat) (hr : r < 4) (S : pg_S) (hF : xc_F r S.2 v) (hB : xc_B S.1 v) (kl : List Nat) (hL : xc_L r 0 kl v) (hk : ∀ q, q ∈ kl ↔ pg_kn S.2 q = 1) (hK : pg_kno S) : xn_M l G 2 44 m_R_countWaiting [.ref (xj_ad G (11, r, 0))] v (some (.int (nI (pg_wn S)))) v := by
  have hz := hB.2.1
  have hl := hL.2.1
  rw [← xp_wn S kl hL.1 hk hK, ← xp_c_list]
  refine xn_M_of (by decide) (Nat.le_of_ble_eq_true rfl) (fun E hE C => ?_)
  subst hE
  replace C : xj_C E G prog_5_method_6_code "ThreePhaseGroup$Replica" 3 2 44 0 0 (some .int) := C
  show xn_X E G _ 0 0 0 [some (.ref (xj_ad G (11, r, 0))), none, none] [] v
  generalize hP : (fun j => decide (nI (pg_ts S.2.2 (pg_f S.1 (kl.getD j 0) - 4)) < pg_a S.1 (kl.getD j 0))) = P
  refine xj_iconst (v := nI 0) C a_R_countWaiting_0 (by decide) ?_
  refine xj_istore1 C a_R_countWaiting_1 rfl ?_
  refine xj_iconst (v := nI 0) C a_R_countWaiting_2 (by decide) ?_
  refine xj_istore2 C a_R_countWaiting_3 rfl ?_
  have loop : ∀ n j : Nat, j ≤ kl.length → kl.length - j < n → xn_X E G (xj_R E G (fun a' w' => a' = some (.int (nI (xp_c P kl.length))) ∧ w' = xn_W v) 0 0) 0 0 4 [some (.ref (xj_ad G (11, r, 0))), some (.int (nI (xp_c P j))), some (.int (nI j))] [] v := by
    intro n
    induction n with
    | zero => intro j _ h; omega
    | succ n ih =>
      intro j hj hn
      refine xj_iload_n C a_R_countWaiting_4 rfl ?_
      refine xj_aload_n C a_R_countWaiting_5 rfl ?_
      refine xn_g_R_known C a_R_countWaiting_6 fl_R_20 (by first | assumption | omega) ?_
      refine xn_g_N_size C a_R_countWaiting_9 fl_R_90 (by first | assumption | omega) (by first | assumption | omega) ?_
      refine xj_topi hL.2.2.1 ?_
      refine xj_icmp_ge C a_R_countWaiting_12 rfl (fun h12 => ?_) (fun h12 => ?_)
      · rw [nI_leI (by omega) (by omega)] at h12
        have : j = kl.length := by omega
        subst this
        refine xj_iload_n C a_R_countWaiting_40 rfl ?_
        refine xj_iret C a_R_countWaiting_41 ?_
        exact ⟨rfl, rfl⟩
      · rw [nI_leI (by omega) (by omega)] at h12
        have hq := hK.1 kl[j] ((hk _).mp (List.getElem_mem (by omega)))
        have hPj : P j = decide (nI (pg_ts S.2.2 (pg_f S.1 kl[j] - 4)) < pg_a S.1 kl[j]) := by
          rw [← hP]
          simp [List.getD, List.getElem?_eq_getElem (show j < kl.length by omega)]
        have step : ∀ c, c = xp_c P (j + 1) → xn_X E G (xj_R E G (fun a' w' => a' = some (.int (nI (xp_c P kl.length))) ∧ w' = xn_W v) 0 0) 0 0 34 [some (.ref (xj_ad G (11, r, 0))), some (.int (nI c)), some (.int (nI j))] [] v := by
          intro c hc
          subst hc
          refine xj_iincN2 C a_R_countWaiting_34 rfl ?_
          refine xj_goto C a_R_countWaiting_37 rfl ?_
          exact ih (j + 1) (by omega) (by omega)
        refine xj_aload_n C a_R_countWaiting_15 rfl ?_
        refine xj_aload_n C a_R_countWaiting_16 rfl ?_
        refine xn_g_R_known C a_R_countWaiting_17 fl_R_20 (by first | assumption | omega) ?_
        refine xn_g_N_at C a_R_countWaiting_20 fl_R_93 (by first | assumption | omega) (by first | assumption | omega) ?_
        refine xj_iload_n C a_R_countWaiting_23 rfl ?_
        refine xn_ld_17 C a_R_countWaiting_24 (by first | assumption | omega) (by first | assumption | omega) (by first | assumption | omega) ?_
        refine xj_topi (hL.at (by omega)) ?_
        refine xn_callV1i C a_R_countWaiting_25 (c_R_wouldWait _ _ v r hr S hF hB kl[j] hq.1 hq.2) mv_R_wouldWait lk_R_96 ⟨rfl, rfl, rfl⟩ (xj_ok11 (by first | assumption | omega)) ⟨by decide, by decide⟩ rfl (Nat.le_of_ble_eq_true rfl) ⟨Nat.le_refl _, Nat.le_refl _⟩ ?_
        refine xj_if_eq C a_R_countWaiting_28 rfl (fun h28 => ?_) (fun h28 => ?_)
        · rw [xp_b0, ← hPj] at h28
          exact step _ (by rw [xp_c_s, h28]; rfl)
        · rw [xp_b0, ← hPj] at h28
          have h28 : P j = true := by simpa using h28
          refine xj_iincN1 C a_R_countWaiting_31 rfl ?_
          exact step _ (by rw [xp_c_s, h28]; rfl)
  exact loop (kl.length + 1) 0 (by omega) (by omega)
