/-! more leaves -/
theorem c_S_countAccepted14 (l : Launch) (G : xj_G) (v : xn_V) (r i : Nat) (hr : r < 4) (hi : i < 4) : xn_M l G 0 0 m_S_countAccepted [.ref (xj_ad G (13, r, i)), .ref (xj_ad G (14, r, i))] v (some (.int (nI (xp_c (fun s => decide (¬ v.1 13 r i 2 = -2 ∧ v.2 14 r i s = (v.1 13 r i 2).toInt64)) 4)))) v := by
  refine xn_M_of (by decide) (Nat.le_of_ble_eq_true rfl) (fun E hE C => ?_)
  subst hE
  replace C : xj_C E G prog_7_method_6_code "ThreePhaseGroup$Slot" 4 0 0 0 0 (some .int) := C
  show xn_X E G _ 0 0 0 [some (.ref (xj_ad G (13, r, i))), some (.ref (xj_ad G (14, r, i))), none, none] [] v
  generalize hP : (fun s => decide (¬ v.1 13 r i 2 = -2 ∧ v.2 14 r i s = (v.1 13 r i 2).toInt64)) = P
  refine xj_iconst (v := nI 0) C a_S_countAccepted_0 (by decide) ?_
  refine xj_istore2 C a_S_countAccepted_1 rfl ?_
  refine xj_iconst (v := nI 0) C a_S_countAccepted_2 (by decide) ?_
  refine xj_istore3 C a_S_countAccepted_3 rfl ?_
  have loop : ∀ n s : Nat, s ≤ 4 → 4 - s < n → xn_X E G (xj_R E G (fun a' w' => a' = some (.int (nI (xp_c P 4))) ∧ w' = xn_W v) 0 0) 0 0 4 [some (.ref (xj_ad G (13, r, i))), some (.ref (xj_ad G (14, r, i))), some (.int (nI (xp_c P s))), some (.int (nI s))] [] v := by
    intro n
    induction n with
    | zero => intro s _ h; omega
    | succ n ih =>
      intro s hs hn
      refine xj_iload_n C a_S_countAccepted_4 rfl ?_
      refine xj_iconst (v := nI 4) C a_S_countAccepted_5 (by decide) ?_
      refine xj_icmp_ge C a_S_countAccepted_6 rfl (fun h6 => ?_) (fun h6 => ?_)
      · rw [nI_leI (by omega) (by omega)] at h6
        have : s = 4 := by omega
        subst this
        refine xj_iload_n C a_S_countAccepted_39 rfl ?_
        refine xj_iret C a_S_countAccepted_40 ?_
        exact ⟨rfl, rfl⟩
      · rw [nI_leI (by omega) (by omega)] at h6
        have step : ∀ c, c = xp_c P (s + 1) → xn_X E G (xj_R E G (fun a' w' => a' = some (.int (nI (xp_c P 4))) ∧ w' = xn_W v) 0 0) 0 0 33 [some (.ref (xj_ad G (13, r, i))), some (.ref (xj_ad G (14, r, i))), some (.int (nI c)), some (.int (nI s))] [] v := by
          intro c hc
          subst hc
          refine xj_iincN3 C a_S_countAccepted_33 rfl ?_
          refine xj_goto C a_S_countAccepted_36 rfl ?_
          exact ih (s + 1) (by omega) (by omega)
        refine xj_aload_n C a_S_countAccepted_9 rfl ?_
        refine xn_g_S_accepted C a_S_countAccepted_10 fl_S_28 (by first | assumption | omega) (by first | assumption | omega) ?_
        refine xj_bipush (v := -2) C a_S_countAccepted_13 (by decide) ?_
        refine xj_icmp_eq C a_S_countAccepted_15 rfl (fun h15 => ?_) (fun h15 => ?_)
        · exact step _ (by rw [xp_c_s, ← hP]; simp [h15])
        · refine xj_aload_n C a_S_countAccepted_18 rfl ?_
          refine xj_iload_n C a_S_countAccepted_19 rfl ?_
          refine xn_ld_14 C a_S_countAccepted_20 (by first | assumption | omega) (by first | assumption | omega) (by first | assumption | omega) ?_
          refine xj_aload_n C a_S_countAccepted_21 rfl ?_
          refine xn_g_S_accepted C a_S_countAccepted_22 fl_S_28 (by first | assumption | omega) (by first | assumption | omega) ?_
          refine xj_i2l C a_S_countAccepted_25 ?_
          refine xj_lcmp C a_S_countAccepted_26 ?_
          refine xj_if_ne C a_S_countAccepted_27 rfl (fun h27 => ?_) (fun h27 => ?_)
          · rw [xp_cmp_eq] at h27
            exact step _ (by rw [xp_c_s, ← hP]; simp [h15, h27])
          · rw [xp_cmp_eq] at h27
            refine xj_iincN2 C a_S_countAccepted_30 rfl ?_
            exact step _ (by rw [xp_c_s, ← hP]; simp [h15, h27])
  exact loop 5 0 (by omega) (by omega)
theorem c_S_countAccepted15 (l : Launch) (G : xj_G) (v : xn_V) (r i : Nat) (hr : r < 4) (hi : i < 4) : xn_M l G 0 0 m_S_countAccepted [.ref (xj_ad G (13, r, i)), .ref (xj_ad G (15, r, i))] v (some (.int (nI (xp_c (fun s => decide (¬ v.1 13 r i 2 = -2 ∧ v.2 15 r i s = (v.1 13 r i 2).toInt64)) 4)))) v := by
  refine xn_M_of (by decide) (Nat.le_of_ble_eq_true rfl) (fun E hE C => ?_)
  subst hE
  replace C : xj_C E G prog_7_method_6_code "ThreePhaseGroup$Slot" 4 0 0 0 0 (some .int) := C
  show xn_X E G _ 0 0 0 [some (.ref (xj_ad G (13, r, i))), some (.ref (xj_ad G (15, r, i))), none, none] [] v
  generalize hP : (fun s => decide (¬ v.1 13 r i 2 = -2 ∧ v.2 15 r i s = (v.1 13 r i 2).toInt64)) = P
  refine xj_iconst (v := nI 0) C a_S_countAccepted_0 (by decide) ?_
  refine xj_istore2 C a_S_countAccepted_1 rfl ?_
  refine xj_iconst (v := nI 0) C a_S_countAccepted_2 (by decide) ?_
  refine xj_istore3 C a_S_countAccepted_3 rfl ?_
  have loop : ∀ n s : Nat, s ≤ 4 → 4 - s < n → xn_X E G (xj_R E G (fun a' w' => a' = some (.int (nI (xp_c P 4))) ∧ w' = xn_W v) 0 0) 0 0 4 [some (.ref (xj_ad G (13, r, i))), some (.ref (xj_ad G (15, r, i))), some (.int (nI (xp_c P s))), some (.int (nI s))] [] v := by
    intro n
    induction n with
    | zero => intro s _ h; omega
    | succ n ih =>
      intro s hs hn
      refine xj_iload_n C a_S_countAccepted_4 rfl ?_
      refine xj_iconst (v := nI 4) C a_S_countAccepted_5 (by decide) ?_
      refine xj_icmp_ge C a_S_countAccepted_6 rfl (fun h6 => ?_) (fun h6 => ?_)
      · rw [nI_leI (by omega) (by omega)] at h6
        have : s = 4 := by omega
        subst this
        refine xj_iload_n C a_S_countAccepted_39 rfl ?_
        refine xj_iret C a_S_countAccepted_40 ?_
        exact ⟨rfl, rfl⟩
      · rw [nI_leI (by omega) (by omega)] at h6
        have step : ∀ c, c = xp_c P (s + 1) → xn_X E G (xj_R E G (fun a' w' => a' = some (.int (nI (xp_c P 4))) ∧ w' = xn_W v) 0 0) 0 0 33 [some (.ref (xj_ad G (13, r, i))), some (.ref (xj_ad G (15, r, i))), some (.int (nI c)), some (.int (nI s))] [] v := by
          intro c hc
          subst hc
          refine xj_iincN3 C a_S_countAccepted_33 rfl ?_
          refine xj_goto C a_S_countAccepted_36 rfl ?_
          exact ih (s + 1) (by omega) (by omega)
        refine xj_aload_n C a_S_countAccepted_9 rfl ?_
        refine xn_g_S_accepted C a_S_countAccepted_10 fl_S_28 (by first | assumption | omega) (by first | assumption | omega) ?_
        refine xj_bipush (v := -2) C a_S_countAccepted_13 (by decide) ?_
        refine xj_icmp_eq C a_S_countAccepted_15 rfl (fun h15 => ?_) (fun h15 => ?_)
        · exact step _ (by rw [xp_c_s, ← hP]; simp [h15])
        · refine xj_aload_n C a_S_countAccepted_18 rfl ?_
          refine xj_iload_n C a_S_countAccepted_19 rfl ?_
          refine xn_ld_15 C a_S_countAccepted_20 (by first | assumption | omega) (by first | assumption | omega) (by first | assumption | omega) ?_
          refine xj_aload_n C a_S_countAccepted_21 rfl ?_
          refine xn_g_S_accepted C a_S_countAccepted_22 fl_S_28 (by first | assumption | omega) (by first | assumption | omega) ?_
          refine xj_i2l C a_S_countAccepted_25 ?_
          refine xj_lcmp C a_S_countAccepted_26 ?_
          refine xj_if_ne C a_S_countAccepted_27 rfl (fun h27 => ?_) (fun h27 => ?_)
          · rw [xp_cmp_eq] at h27
            exact step _ (by rw [xp_c_s, ← hP]; simp [h15, h27])
          · rw [xp_cmp_eq] at h27
            refine xj_iincN2 C a_S_countAccepted_30 rfl ?_
            exact step _ (by rw [xp_c_s, ← hP]; simp [h15, h27])
  exact loop 5 0 (by omega) (by omega)
def xn_cp (v : xn_V) (r i : Nat) : Nat := xp_c (fun s => decide (¬ v.1 13 r i 2 = -2 ∧ v.2 14 r i s = (v.1 13 r i 2).toInt64)) 4
def xn_cc (v : xn_V) (r i : Nat) : Nat := xp_c (fun s => decide (¬ v.1 13 r i 2 = -2 ∧ v.2 15 r i s = (v.1 13 r i 2).toInt64)) 4
theorem c_S_countPrepares (l : Launch) (G : xj_G) (v : xn_V) (r i : Nat) (hr : r < 4) (hi : i < 4) : xn_M l G 1 23 m_S_countPrepares [.ref (xj_ad G (13, r, i))] v (some (.int (nI (xn_cp v r i)))) v := by
  refine xn_M_of (by decide) (Nat.le_of_ble_eq_true rfl) (fun E hE C => ?_)
  subst hE
  replace C : xj_C E G prog_7_method_4_code "ThreePhaseGroup$Slot" 1 1 23 0 0 (some .int) := C
  show xn_X E G _ 0 0 0 [some (.ref (xj_ad G (13, r, i)))] [] v
  refine xj_aload_n C a_S_countPrepares_0 rfl ?_
  refine xj_aload_n C a_S_countPrepares_1 rfl ?_
  refine xn_g_S_prepares C a_S_countPrepares_2 fl_S_9 (by first | assumption | omega) (by first | assumption | omega) ?_
  refine xn_callV1i C a_S_countPrepares_5 (c_S_countAccepted14 _ _ v r i hr hi) mv_S_countAccepted lk_S_33 ⟨rfl, rfl, rfl⟩ (xj_ok13 (by first | assumption | omega) (by first | assumption | omega)) ⟨by decide, by decide⟩ rfl (Nat.le_of_ble_eq_true rfl) ⟨Nat.le_refl _, Nat.le_refl _⟩ ?_
  refine xj_iret C a_S_countPrepares_8 ?_
  exact ⟨rfl, rfl⟩
theorem c_S_countCommits (l : Launch) (G : xj_G) (v : xn_V) (r i : Nat) (hr : r < 4) (hi : i < 4) : xn_M l G 1 23 m_S_countCommits [.ref (xj_ad G (13, r, i))] v (some (.int (nI (xn_cc v r i)))) v := by
  refine xn_M_of (by decide) (Nat.le_of_ble_eq_true rfl) (fun E hE C => ?_)
  subst hE
  replace C : xj_C E G prog_7_method_5_code "ThreePhaseGroup$Slot" 1 1 23 0 0 (some .int) := C
  show xn_X E G _ 0 0 0 [some (.ref (xj_ad G (13, r, i)))] [] v
  refine xj_aload_n C a_S_countCommits_0 rfl ?_
  refine xj_aload_n C a_S_countCommits_1 rfl ?_
  refine xn_g_S_commits C a_S_countCommits_2 fl_S_15 (by first | assumption | omega) (by first | assumption | omega) ?_
  refine xn_callV1i C a_S_countCommits_5 (c_S_countAccepted15 _ _ v r i hr hi) mv_S_countAccepted lk_S_33 ⟨rfl, rfl, rfl⟩ (xj_ok13 (by first | assumption | omega) (by first | assumption | omega)) ⟨by decide, by decide⟩ rfl (Nat.le_of_ble_eq_true rfl) ⟨Nat.le_refl _, Nat.le_refl _⟩ ?_
  refine xj_iret C a_S_countCommits_8 ?_
  exact ⟨rfl, rfl⟩
/-- a slot's summary -/
def xn_sm (v : xn_V) (r i w : Nat) : Int32 :=
  let s := nI 8 * nI (xn_cp v r i) + nI 64 * nI (xn_cc v r i) + nI 1024 * v.1 13 r i 4
  let s2 := if v.1 13 r i 2 = -2 then s else s + (if v.2 15 r i w = 1099511627776 then nI 1 else nI 3)
  if v.1 13 r i 3 = -2 then s2 else s2 + 4
theorem c_S_summary (l : Launch) (G : xj_G) (v : xn_V) (r i w : Nat) (hr : r < 4) (hi : i < 4) (hw : w < 4) : xn_M l G 2 43 m_S_summary [.ref (xj_ad G (13, r, i)), .int (nI w)] v (some (.int (xn_sm v r i w))) v := by
  refine xn_M_of (by decide) (Nat.le_of_ble_eq_true rfl) (fun E hE C => ?_)
  subst hE
  replace C : xj_C E G prog_7_method_7_code "ThreePhaseGroup$Slot" 3 2 43 0 0 (some .int) := C
  show xn_X E G _ 0 0 0 [some (.ref (xj_ad G (13, r, i))), some (.int (nI w)), none] [] v
  refine xj_bipush (v := nI 8) C a_S_summary_0 (by decide) ?_
  refine xj_aload_n C a_S_summary_2 rfl ?_
  refine xn_callV0i C a_S_summary_3 (c_S_countPrepares _ _ v r i hr hi) mv_S_countPrepares lk_S_37 ⟨rfl, rfl, rfl⟩ (xj_ok13 (by first | assumption | omega) (by first | assumption | omega)) ⟨by decide, by decide⟩ rfl (Nat.le_of_ble_eq_true rfl) ⟨Nat.le_refl _, Nat.le_refl _⟩ ?_
  refine xj_imul C a_S_summary_6 ?_
  refine xj_bipush (v := nI 64) C a_S_summary_7 (by decide) ?_
  refine xj_aload_n C a_S_summary_9 rfl ?_
  refine xn_callV0i C a_S_summary_10 (c_S_countCommits _ _ v r i hr hi) mv_S_countCommits lk_S_41 ⟨rfl, rfl, rfl⟩ (xj_ok13 (by first | assumption | omega) (by first | assumption | omega)) ⟨by decide, by decide⟩ rfl (Nat.le_of_ble_eq_true rfl) ⟨Nat.le_refl _, Nat.le_refl _⟩ ?_
  refine xj_imul C a_S_summary_13 ?_
  refine xj_iadd C a_S_summary_14 ?_
  refine xj_sipush (v := nI 1024) C a_S_summary_15 (by decide) ?_
  refine xj_aload_n C a_S_summary_18 rfl ?_
  refine xn_g_S_claim C a_S_summary_19 fl_S_22 (by first | assumption | omega) (by first | assumption | omega) ?_
  refine xj_imul C a_S_summary_22 ?_
  refine xj_iadd C a_S_summary_23 ?_
  refine xj_istore2 C a_S_summary_24 rfl ?_
  refine xj_aload_n C a_S_summary_25 rfl ?_
  refine xn_g_S_accepted C a_S_summary_26 fl_S_28 (by first | assumption | omega) (by first | assumption | omega) ?_
  refine xj_bipush (v := -2) C a_S_summary_29 (by decide) ?_
  refine xj_icmp_eq C a_S_summary_31 rfl (fun h31 => ?_) (fun h31 => ?_)
  · refine xj_aload_n C a_S_summary_55 rfl ?_
    refine xn_g_S_decided C a_S_summary_56 fl_S_18 (by first | assumption | omega) (by first | assumption | omega) ?_
    refine xj_bipush (v := -2) C a_S_summary_59 (by decide) ?_
    refine xj_icmp_eq C a_S_summary_61 rfl (fun h61 => ?_) (fun h61 => ?_)
    · refine xj_iload_n C a_S_summary_67 rfl ?_
      refine xj_iret C a_S_summary_68 ?_
      exact ⟨by unfold xn_sm; simp [h31, h61], rfl⟩
    · refine xj_iinc2 (v := 4) C a_S_summary_64 (by decide) rfl ?_
      refine xj_iload_n C a_S_summary_67 rfl ?_
      refine xj_iret C a_S_summary_68 ?_
      exact ⟨by unfold xn_sm; simp [h31, h61], rfl⟩
  · refine xj_iload_n C a_S_summary_34 rfl ?_
    refine xj_aload_n C a_S_summary_35 rfl ?_
    refine xn_g_S_commits C a_S_summary_36 fl_S_15 (by first | assumption | omega) (by first | assumption | omega) ?_
    refine xj_iload_n C a_S_summary_39 rfl ?_
    refine xn_ld_15 C a_S_summary_40 (by first | assumption | omega) (by first | assumption | omega) (by first | assumption | omega) ?_
    refine xj_ldc2 C a_S_summary_41 kl_S_31 ?_
    refine xj_lcmp C a_S_summary_44 ?_
    refine xj_if_eq C a_S_summary_45 rfl (fun h45 => ?_) (fun h45 => ?_)
    · rw [xp_cmp_eq] at h45
      refine xj_iconst (v := nI 1) C a_S_summary_52 (by decide) ?_
      refine xj_iadd C a_S_summary_53 ?_
      refine xj_istore2 C a_S_summary_54 rfl ?_
      refine xj_aload_n C a_S_summary_55 rfl ?_
      refine xn_g_S_decided C a_S_summary_56 fl_S_18 (by first | assumption | omega) (by first | assumption | omega) ?_
      refine xj_bipush (v := -2) C a_S_summary_59 (by decide) ?_
      refine xj_icmp_eq C a_S_summary_61 rfl (fun h61 => ?_) (fun h61 => ?_)
      · refine xj_iload_n C a_S_summary_67 rfl ?_
        refine xj_iret C a_S_summary_68 ?_
        exact ⟨by unfold xn_sm; simp [h31, h45, h61], rfl⟩
      · refine xj_iinc2 (v := 4) C a_S_summary_64 (by decide) rfl ?_
        refine xj_iload_n C a_S_summary_67 rfl ?_
        refine xj_iret C a_S_summary_68 ?_
        exact ⟨by unfold xn_sm; simp [h31, h45, h61], rfl⟩
    · rw [xp_cmp_eq] at h45
      refine xj_iconst (v := nI 3) C a_S_summary_48 (by decide) ?_
      refine xj_goto C a_S_summary_49 rfl ?_
      refine xj_iadd C a_S_summary_53 ?_
      refine xj_istore2 C a_S_summary_54 rfl ?_
      refine xj_aload_n C a_S_summary_55 rfl ?_
      refine xn_g_S_decided C a_S_summary_56 fl_S_18 (by first | assumption | omega) (by first | assumption | omega) ?_
      refine xj_bipush (v := -2) C a_S_summary_59 (by decide) ?_
      refine xj_icmp_eq C a_S_summary_61 rfl (fun h61 => ?_) (fun h61 => ?_)
      · refine xj_iload_n C a_S_summary_67 rfl ?_
        refine xj_iret C a_S_summary_68 ?_
        exact ⟨by unfold xn_sm; simp [h31, h45, h61], rfl⟩
      · refine xj_iinc2 (v := 4) C a_S_summary_64 (by decide) rfl ?_
        refine xj_iload_n C a_S_summary_67 rfl ?_
        refine xj_iret C a_S_summary_68 ?_
        exact ⟨by unfold xn_sm; simp [h31, h45, h61], rfl⟩
theorem c_C_countReplies (l : Launch) (G : xj_G) (v : xn_V) (k : Nat) (hk : k < 2) (x : Int32) : xn_M l G 0 0 m_C_countReplies [.ref (xj_ad G (19, k, 0)), .int x] v (some (.int (nI (xp_c (fun s => decide (v.2 20 k 0 s = x.toInt64)) 4)))) v := by
  refine xn_M_of (by decide) (Nat.le_of_ble_eq_true rfl) (fun E hE C => ?_)
  subst hE
  replace C : xj_C E G prog_3_method_4_code "ThreePhaseGroup$Client" 4 0 0 0 0 (some .int) := C
  show xn_X E G _ 0 0 0 [some (.ref (xj_ad G (19, k, 0))), some (.int x), none, none] [] v
  generalize hP : (fun s => decide (v.2 20 k 0 s = x.toInt64)) = P
  refine xj_iconst (v := nI 0) C a_C_countReplies_0 (by decide) ?_
  refine xj_istore2 C a_C_countReplies_1 rfl ?_
  refine xj_iconst (v := nI 0) C a_C_countReplies_2 (by decide) ?_
  refine xj_istore3 C a_C_countReplies_3 rfl ?_
  have loop : ∀ n s : Nat, s ≤ 4 → 4 - s < n → xn_X E G (xj_R E G (fun a' w' => a' = some (.int (nI (xp_c P 4))) ∧ w' = xn_W v) 0 0) 0 0 4 [some (.ref (xj_ad G (19, k, 0))), some (.int x), some (.int (nI (xp_c P s))), some (.int (nI s))] [] v := by
    intro n
    induction n with
    | zero => intro s _ h; omega
    | succ n ih =>
      intro s hs hn
      refine xj_iload_n C a_C_countReplies_4 rfl ?_
      refine xj_iconst (v := nI 4) C a_C_countReplies_5 (by decide) ?_
      refine xj_icmp_ge C a_C_countReplies_6 rfl (fun h6 => ?_) (fun h6 => ?_)
      · rw [nI_leI (by omega) (by omega)] at h6
        have : s = 4 := by omega
        subst this
        refine xj_iload_n C a_C_countReplies_30 rfl ?_
        refine xj_iret C a_C_countReplies_31 ?_
        exact ⟨rfl, rfl⟩
      · rw [nI_leI (by omega) (by omega)] at h6
        refine xj_aload_n C a_C_countReplies_9 rfl ?_
        refine xn_g_C_replies C a_C_countReplies_10 fl_C_9 (by first | assumption | omega) ?_
        refine xj_iload_n C a_C_countReplies_13 rfl ?_
        refine xn_ld_20 C a_C_countReplies_14 (by first | assumption | omega) (by first | assumption | omega) ?_
        refine xj_iload_n C a_C_countReplies_15 rfl ?_
        refine xj_i2l C a_C_countReplies_16 ?_
        refine xj_lcmp C a_C_countReplies_17 ?_
        refine xj_if_ne C a_C_countReplies_18 rfl (fun h18 => ?_) (fun h18 => ?_)
        · rw [xp_cmp_eq] at h18
          refine xj_loc (L2 := [some (.ref (xj_ad G (19, k, 0))), some (.int x), some (.int (nI (xp_c P (s + 1)))), some (.int (nI s))]) (by rw [xp_c_s, ← hP]; simp [h18]) ?_
          refine xj_iincN3 C a_C_countReplies_24 rfl ?_
          refine xj_goto C a_C_countReplies_27 rfl ?_
          exact ih (s + 1) (by omega) (by omega)
        · rw [xp_cmp_eq] at h18
          refine xj_iincN2 C a_C_countReplies_21 rfl ?_
          refine xj_loc (L2 := [some (.ref (xj_ad G (19, k, 0))), some (.int x), some (.int (nI (xp_c P (s + 1)))), some (.int (nI s))]) (by rw [xp_c_s, ← hP]; simp [h18]) ?_
          refine xj_iincN3 C a_C_countReplies_24 rfl ?_
          refine xj_goto C a_C_countReplies_27 rfl ?_
          exact ih (s + 1) (by omega) (by omega)
  exact loop 5 0 (by omega) (by omega)
theorem c_V_valueOf (l : Launch) (G : xj_G) (v : xn_V) (st : Int64) (k : Nat) (hk : k < 4) : xn_M l G 0 0 m_V_valueOf [.long st, .int (nI k)] v (some (.int (nI (pg_vl st k)))) v := by
  refine xn_M_of (by decide) (Nat.le_of_ble_eq_true rfl) (fun E hE C => ?_)
  subst hE
  replace C : xj_C E G prog_6_method_2_code "ThreePhaseGroup$Service" 3 0 0 0 0 (some .int) := C
  show xn_X E G _ 0 0 0 [some (.long st), none, some (.int (nI k))] [] v
  refine xj_lload_n C a_V_valueOf_0 rfl ?_
  refine xj_iconst (v := nI 4) C a_V_valueOf_1 (by decide) ?_
  refine xj_iload_n C a_V_valueOf_2 rfl ?_
  refine xj_imul C a_V_valueOf_3 ?_
  refine xj_topi (y := nI (4 * k)) (pk_mul 4 k) ?_
  refine xj_lushr C a_V_valueOf_4 ?_
  refine xj_l2i C a_V_valueOf_5 ?_
  refine xj_bipush (v := nI 15) C a_V_valueOf_6 (by decide) ?_
  refine xj_iand C a_V_valueOf_8 ?_
  refine xj_iret C a_V_valueOf_9 ?_
  exact ⟨by rw [show nI 15 = nI (2 ^ 4 - 1) from rfl, xb_ush st (by omega) (by omega)]; rfl, rfl⟩
theorem c_V_timestampOf (l : Launch) (G : xj_G) (v : xn_V) (st : Int64) (k : Nat) (hk : k < 2) : xn_M l G 0 0 m_V_timestampOf [.long st, .int (nI k)] v (some (.int (nI (pg_ts st k)))) v := by
  refine xn_M_of (by decide) (Nat.le_of_ble_eq_true rfl) (fun E hE C => ?_)
  subst hE
  replace C : xj_C E G prog_6_method_3_code "ThreePhaseGroup$Service" 3 0 0 0 0 (some .int) := C
  show xn_X E G _ 0 0 0 [some (.long st), none, some (.int (nI k))] [] v
  refine xj_lload_n C a_V_timestampOf_0 rfl ?_
  refine xj_bipush (v := nI 16) C a_V_timestampOf_1 (by decide) ?_
  refine xj_bipush (v := nI 12) C a_V_timestampOf_3 (by decide) ?_
  refine xj_iload_n C a_V_timestampOf_5 rfl ?_
  refine xj_imul C a_V_timestampOf_6 ?_
  refine xj_iadd C a_V_timestampOf_7 ?_
  refine xj_topi (y := nI (16 + 12 * k)) (by rw [pk_mul, nI_add]) ?_
  refine xj_lushr C a_V_timestampOf_8 ?_
  refine xj_l2i C a_V_timestampOf_9 ?_
  refine xj_sipush (v := nI 255) C a_V_timestampOf_10 (by decide) ?_
  refine xj_iand C a_V_timestampOf_13 ?_
  refine xj_iret C a_V_timestampOf_14 ?_
  exact ⟨by rw [show nI 255 = nI (2 ^ 8 - 1) from rfl, xb_ush st (by omega) (by omega)]; rfl, rfl⟩
theorem c_V_valueAfter (l : Launch) (G : xj_G) (v : xn_V) (op : Int32) (b x : Nat) (hb : b < 16) (hx : x < 16) : xn_M l G 0 0 m_V_valueAfter [.int op, .int (nI b), .int (nI x)] v (some (.int (nI (if op = 0 then b else if op = nI 1 then x else (b + x) % 16)))) v := by
  refine xn_M_of (by decide) (Nat.le_of_ble_eq_true rfl) (fun E hE C => ?_)
  subst hE
  replace C : xj_C E G prog_6_method_4_code "ThreePhaseGroup$Service" 3 0 0 0 0 (some .int) := C
  show xn_X E G _ 0 0 0 [some (.int op), some (.int (nI b)), some (.int (nI x))] [] v
  refine xj_iload_n C a_V_valueAfter_0 rfl ?_
  refine xj_if_ne C a_V_valueAfter_1 rfl (fun h1 => ?_) (fun h1 => ?_)
  · refine xj_iload_n C a_V_valueAfter_6 rfl ?_
    refine xj_iconst (v := nI 1) C a_V_valueAfter_7 (by decide) ?_
    refine xj_icmp_ne C a_V_valueAfter_8 rfl (fun h8 => ?_) (fun h8 => ?_)
    · refine xj_iload_n C a_V_valueAfter_15 rfl ?_
      refine xj_iload_n C a_V_valueAfter_16 rfl ?_
      refine xj_iadd C a_V_valueAfter_17 ?_
      refine xj_topi (nI_add b x) ?_
      refine xj_bipush (v := nI 16) C a_V_valueAfter_18 (by decide) ?_
      refine xj_irem C a_V_valueAfter_20 (by decide) ?_
      refine xj_iret C a_V_valueAfter_21 ?_
      exact ⟨by rw [pk_rem (by omega) (by decide) (by decide), if_neg h1, if_neg h8], rfl⟩
    · refine xj_iload_n C a_V_valueAfter_11 rfl ?_
      refine xj_goto C a_V_valueAfter_12 rfl ?_
      refine xj_iret C a_V_valueAfter_21 ?_
      exact ⟨by rw [if_neg h1, if_pos h8], rfl⟩
  · refine xj_iload_n C a_V_valueAfter_4 rfl ?_
    refine xj_iret C a_V_valueAfter_5 ?_
    exact ⟨by rw [if_pos h1], rfl⟩
def xn_wb (st : Int64) (s : Int32) (mk bt : Int64) : Int64 := (st &&& ((mk <<< (s.toInt64 &&& 63)) ^^^ (-1))) ||| ((bt &&& mk) <<< (s.toInt64 &&& 63))
theorem c_V_withBits (l : Launch) (G : xj_G) (v : xn_V) (st : Int64) (s : Int32) (mk bt : Int64) : xn_M l G 0 0 m_V_withBits [.long st, .int s, .long mk, .long bt] v (some (.long (xn_wb st s mk bt))) v := by
  refine xn_M_of (by decide) (Nat.le_of_ble_eq_true rfl) (fun E hE C => ?_)
  subst hE
  replace C : xj_C E G prog_6_method_7_code "ThreePhaseGroup$Service" 7 0 0 0 0 (some .long) := C
  show xn_X E G _ 0 0 0 [some (.long st), none, some (.int s), some (.long mk), none, some (.long bt), none] [] v
  refine xj_lload_n C a_V_withBits_0 rfl ?_
  refine xj_lload_n C a_V_withBits_1 rfl ?_
  refine xj_iload_n C a_V_withBits_2 rfl ?_
  refine xj_lshl C a_V_withBits_3 ?_
  refine xj_ldc2 C a_V_withBits_4 kl_V_19 ?_
  refine xj_lxor C a_V_withBits_7 ?_
  refine xj_land C a_V_withBits_8 ?_
  refine xj_lload C a_V_withBits_9 rfl ?_
  refine xj_lload_n C a_V_withBits_11 rfl ?_
  refine xj_land C a_V_withBits_12 ?_
  refine xj_iload_n C a_V_withBits_13 rfl ?_
  refine xj_lshl C a_V_withBits_14 ?_
  refine xj_lor C a_V_withBits_15 ?_
  refine xj_lret C a_V_withBits_16 ?_
  exact ⟨rfl, rfl⟩
theorem c_V_withValue (l : Launch) (G : xj_G) (v : xn_V) (st : Int64) (k x : Int32) : xn_M l G 1 26 m_V_withValue [.long st, .int k, .int x] v (some (.long (xn_wb st (nI 4 * k) 15 x.toInt64))) v := by
  refine xn_M_of (by decide) (Nat.le_of_ble_eq_true rfl) (fun E hE C => ?_)
  subst hE
  replace C : xj_C E G prog_6_method_5_code "ThreePhaseGroup$Service" 4 1 26 0 0 (some .long) := C
  show xn_X E G _ 0 0 0 [some (.long st), none, some (.int k), some (.int x)] [] v
  refine xj_lload_n C a_V_withValue_0 rfl ?_
  refine xj_iconst (v := nI 4) C a_V_withValue_1 (by decide) ?_
  refine xj_iload_n C a_V_withValue_2 rfl ?_
  refine xj_imul C a_V_withValue_3 ?_
  refine xj_ldc2 C a_V_withValue_4 kl_V_11 ?_
  refine xj_iload_n C a_V_withValue_7 rfl ?_
  refine xj_i2l C a_V_withValue_8 ?_
  refine xn_callS4l C a_V_withValue_9 (c_V_withBits _ _ v _ _ _ _) ms_V_withBits lk_V_13 ⟨by decide, by decide⟩ rfl (Nat.le_of_ble_eq_true rfl) ⟨Nat.le_refl _, Nat.le_refl _⟩ ?_
  refine xj_lret C a_V_withValue_12 ?_
  exact ⟨rfl, rfl⟩
theorem c_V_withResult (l : Launch) (G : xj_G) (v : xn_V) (st : Int64) (k t x : Int32) : xn_M l G 1 26 m_V_withResult [.long st, .int k, .int t, .int x] v (some (.long (xn_wb st (nI 16 + nI 12 * k) 4095 (t + nI 256 * x).toInt64))) v := by
  refine xn_M_of (by decide) (Nat.le_of_ble_eq_true rfl) (fun E hE C => ?_)
  subst hE
  replace C : xj_C E G prog_6_method_6_code "ThreePhaseGroup$Service" 5 1 26 0 0 (some .long) := C
  show xn_X E G _ 0 0 0 [some (.long st), none, some (.int k), some (.int t), some (.int x)] [] v
  refine xj_lload_n C a_V_withResult_0 rfl ?_
  refine xj_bipush (v := nI 16) C a_V_withResult_1 (by decide) ?_
  refine xj_bipush (v := nI 12) C a_V_withResult_3 (by decide) ?_
  refine xj_iload_n C a_V_withResult_5 rfl ?_
  refine xj_imul C a_V_withResult_6 ?_
  refine xj_iadd C a_V_withResult_7 ?_
  refine xj_ldc2 C a_V_withResult_8 kl_V_17 ?_
  refine xj_iload_n C a_V_withResult_11 rfl ?_
  refine xj_sipush (v := nI 256) C a_V_withResult_12 (by decide) ?_
  refine xj_iload C a_V_withResult_15 rfl ?_
  refine xj_imul C a_V_withResult_17 ?_
  refine xj_iadd C a_V_withResult_18 ?_
  refine xj_i2l C a_V_withResult_19 ?_
  refine xn_callS4l C a_V_withResult_20 (c_V_withBits _ _ v _ _ _ _) ms_V_withBits lk_V_13 ⟨by decide, by decide⟩ rfl (Nat.le_of_ble_eq_true rfl) ⟨Nat.le_refl _, Nat.le_refl _⟩ ?_
  refine xj_lret C a_V_withResult_23 ?_
  exact ⟨rfl, rfl⟩
