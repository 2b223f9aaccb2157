/-! leaves: methods that read and decide -/
theorem xp_t {b : Bool} (h : b = true) : some (Value.int (nI 1)) = some (Value.int (xp_b b)) := by subst h; rfl
theorem xp_f {b : Bool} (h : b = false) : some (Value.int (nI 0)) = some (Value.int (xp_b b)) := by subst h; rfl
theorem c_G_isReplica (l : Launch) (G : xj_G) (v : xn_V) (r : Int32) : xn_M l G 0 0 m_G_isReplica [.int r] v (some (.int (xp_b (decide (¬ r < 0 ∧ ¬ nI 4 ≤ r))))) v := by
  refine xn_M_of (by decide) (Nat.le_of_ble_eq_true rfl) (fun E hE C => ?_)
  subst hE
  replace C : xj_C E G prog_1_method_22_code "ThreePhaseGroup" 1 0 0 0 0 (some .boolean) := C
  show xn_X E G _ 0 0 0 [some (.int r)] [] v
  refine xj_iload_n C a_G_isReplica_0 rfl ?_
  refine xj_if_lt C a_G_isReplica_1 rfl (fun h1 => ?_) (fun h1 => ?_)
  · refine xj_iconst (v := nI 0) C a_G_isReplica_13 (by decide) ?_
    refine xj_zret C a_G_isReplica_14 rfl ?_
    exact ⟨xp_f (by simp [h1]), rfl⟩
  · refine xj_iload_n C a_G_isReplica_4 rfl ?_
    refine xj_iconst (v := nI 4) C a_G_isReplica_5 (by decide) ?_
    refine xj_icmp_ge C a_G_isReplica_6 rfl (fun h6 => ?_) (fun h6 => ?_)
    · refine xj_iconst (v := nI 0) C a_G_isReplica_13 (by decide) ?_
      refine xj_zret C a_G_isReplica_14 rfl ?_
      exact ⟨xp_f (by simp [h1, h6]), rfl⟩
    · refine xj_iconst (v := nI 1) C a_G_isReplica_9 (by decide) ?_
      refine xj_goto C a_G_isReplica_10 rfl ?_
      refine xj_zret C a_G_isReplica_14 rfl ?_
      exact ⟨xp_t (by simp [h1, h6]), rfl⟩
theorem c_G_isClient (l : Launch) (G : xj_G) (v : xn_V) (r : Int32) : xn_M l G 0 0 m_G_isClient [.int r] v (some (.int (xp_b (decide (¬ r < 0 ∧ ¬ nI 2 ≤ r))))) v := by
  refine xn_M_of (by decide) (Nat.le_of_ble_eq_true rfl) (fun E hE C => ?_)
  subst hE
  replace C : xj_C E G prog_1_method_23_code "ThreePhaseGroup" 1 0 0 0 0 (some .boolean) := C
  show xn_X E G _ 0 0 0 [some (.int r)] [] v
  refine xj_iload_n C a_G_isClient_0 rfl ?_
  refine xj_if_lt C a_G_isClient_1 rfl (fun h1 => ?_) (fun h1 => ?_)
  · refine xj_iconst (v := nI 0) C a_G_isClient_13 (by decide) ?_
    refine xj_zret C a_G_isClient_14 rfl ?_
    exact ⟨xp_f (by simp [h1]), rfl⟩
  · refine xj_iload_n C a_G_isClient_4 rfl ?_
    refine xj_iconst (v := nI 2) C a_G_isClient_5 (by decide) ?_
    refine xj_icmp_ge C a_G_isClient_6 rfl (fun h6 => ?_) (fun h6 => ?_)
    · refine xj_iconst (v := nI 0) C a_G_isClient_13 (by decide) ?_
      refine xj_zret C a_G_isClient_14 rfl ?_
      exact ⟨xp_f (by simp [h1, h6]), rfl⟩
    · refine xj_iconst (v := nI 1) C a_G_isClient_9 (by decide) ?_
      refine xj_goto C a_G_isClient_10 rfl ?_
      refine xj_zret C a_G_isClient_14 rfl ?_
      exact ⟨xp_t (by simp [h1, h6]), rfl⟩
theorem c_G_isParty (l : Launch) (G : xj_G) (v : xn_V) (r : Int32) : xn_M l G 0 0 m_G_isParty [.int r] v (some (.int (xp_b (decide (¬ r < 0 ∧ ¬ nI 6 ≤ r))))) v := by
  refine xn_M_of (by decide) (Nat.le_of_ble_eq_true rfl) (fun E hE C => ?_)
  subst hE
  replace C : xj_C E G prog_1_method_24_code "ThreePhaseGroup" 1 0 0 0 0 (some .boolean) := C
  show xn_X E G _ 0 0 0 [some (.int r)] [] v
  refine xj_iload_n C a_G_isParty_0 rfl ?_
  refine xj_if_lt C a_G_isParty_1 rfl (fun h1 => ?_) (fun h1 => ?_)
  · refine xj_iconst (v := nI 0) C a_G_isParty_14 (by decide) ?_
    refine xj_zret C a_G_isParty_15 rfl ?_
    exact ⟨xp_f (by simp [h1]), rfl⟩
  · refine xj_iload_n C a_G_isParty_4 rfl ?_
    refine xj_bipush (v := nI 6) C a_G_isParty_5 (by decide) ?_
    refine xj_icmp_ge C a_G_isParty_7 rfl (fun h7 => ?_) (fun h7 => ?_)
    · refine xj_iconst (v := nI 0) C a_G_isParty_14 (by decide) ?_
      refine xj_zret C a_G_isParty_15 rfl ?_
      exact ⟨xp_f (by simp [h1, h7]), rfl⟩
    · refine xj_iconst (v := nI 1) C a_G_isParty_10 (by decide) ?_
      refine xj_goto C a_G_isParty_11 rfl ?_
      refine xj_zret C a_G_isParty_15 rfl ?_
      exact ⟨xp_t (by simp [h1, h7]), rfl⟩
theorem c_G_isOperation (l : Launch) (G : xj_G) (v : xn_V) (a b c : Int32) : xn_M l G 0 0 m_G_isOperation [.int a, .int b, .int c] v (some (.int (xp_b (decide ((¬ a < 0 ∧ ¬ nI 2 < a) ∧ (¬ b < 0 ∧ ¬ nI 4 ≤ b) ∧ (¬ c < 0 ∧ ¬ nI 16 ≤ c)))))) v := by
  refine xn_M_of (by decide) (Nat.le_of_ble_eq_true rfl) (fun E hE C => ?_)
  subst hE
  replace C : xj_C E G prog_1_method_25_code "ThreePhaseGroup" 3 0 0 0 0 (some .boolean) := C
  show xn_X E G _ 0 0 0 [some (.int a), some (.int b), some (.int c)] [] v
  refine xj_iload_n C a_G_isOperation_0 rfl ?_
  refine xj_if_lt C a_G_isOperation_1 rfl (fun h1 => ?_) (fun h1 => ?_)
  · refine xj_iconst (v := nI 0) C a_G_isOperation_32 (by decide) ?_
    refine xj_zret C a_G_isOperation_33 rfl ?_
    exact ⟨xp_f (by simp [h1]), rfl⟩
  · refine xj_iload_n C a_G_isOperation_4 rfl ?_
    refine xj_iconst (v := nI 2) C a_G_isOperation_5 (by decide) ?_
    refine xj_icmp_gt C a_G_isOperation_6 rfl (fun h6 => ?_) (fun h6 => ?_)
    · refine xj_iconst (v := nI 0) C a_G_isOperation_32 (by decide) ?_
      refine xj_zret C a_G_isOperation_33 rfl ?_
      exact ⟨xp_f (by simp [h1, h6]), rfl⟩
    · refine xj_iload_n C a_G_isOperation_9 rfl ?_
      refine xj_if_lt C a_G_isOperation_10 rfl (fun h10 => ?_) (fun h10 => ?_)
      · refine xj_iconst (v := nI 0) C a_G_isOperation_32 (by decide) ?_
        refine xj_zret C a_G_isOperation_33 rfl ?_
        exact ⟨xp_f (by simp [h1, h6, h10]), rfl⟩
      · refine xj_iload_n C a_G_isOperation_13 rfl ?_
        refine xj_iconst (v := nI 4) C a_G_isOperation_14 (by decide) ?_
        refine xj_icmp_ge C a_G_isOperation_15 rfl (fun h15 => ?_) (fun h15 => ?_)
        · refine xj_iconst (v := nI 0) C a_G_isOperation_32 (by decide) ?_
          refine xj_zret C a_G_isOperation_33 rfl ?_
          exact ⟨xp_f (by simp [h1, h6, h10, h15]), rfl⟩
        · refine xj_iload_n C a_G_isOperation_18 rfl ?_
          refine xj_if_lt C a_G_isOperation_19 rfl (fun h19 => ?_) (fun h19 => ?_)
          · refine xj_iconst (v := nI 0) C a_G_isOperation_32 (by decide) ?_
            refine xj_zret C a_G_isOperation_33 rfl ?_
            exact ⟨xp_f (by simp [h1, h6, h10, h15, h19]), rfl⟩
          · refine xj_iload_n C a_G_isOperation_22 rfl ?_
            refine xj_bipush (v := nI 16) C a_G_isOperation_23 (by decide) ?_
            refine xj_icmp_ge C a_G_isOperation_25 rfl (fun h25 => ?_) (fun h25 => ?_)
            · refine xj_iconst (v := nI 0) C a_G_isOperation_32 (by decide) ?_
              refine xj_zret C a_G_isOperation_33 rfl ?_
              exact ⟨xp_f (by simp [h1, h6, h10, h15, h19, h25]), rfl⟩
            · refine xj_iconst (v := nI 1) C a_G_isOperation_28 (by decide) ?_
              refine xj_goto C a_G_isOperation_29 rfl ?_
              refine xj_zret C a_G_isOperation_33 rfl ?_
              exact ⟨xp_t (by simp [h1, h6, h10, h15, h19, h25]), rfl⟩
theorem c_G_primaryOf (l : Launch) (G : xj_G) (v : xn_V) (w : Nat) (hw : w < 2 ^ 31) : xn_M l G 0 0 m_G_primaryOf [.int (nI w)] v (some (.int (nI (w % 4)))) v := by
  refine xn_M_of (by decide) (Nat.le_of_ble_eq_true rfl) (fun E hE C => ?_)
  subst hE
  replace C : xj_C E G prog_1_method_28_code "ThreePhaseGroup" 1 0 0 0 0 (some .int) := C
  show xn_X E G _ 0 0 0 [some (.int (nI w))] [] v
  refine xj_iload_n C a_G_primaryOf_0 rfl ?_
  refine xj_iconst (v := nI 4) C a_G_primaryOf_1 (by decide) ?_
  refine xj_irem C a_G_primaryOf_2 (by decide) ?_
  refine xj_iret C a_G_primaryOf_3 ?_
  exact ⟨by rw [pk_rem hw (by decide) (by decide)], rfl⟩
theorem c_B_isFull (l : Launch) (G : xj_G) (v : xn_V) : xn_M l G 0 0 m_B_isFull [.ref (xj_ad G (1, 0, 0))] v (some (.int (xp_b (decide (¬ v.1 1 0 0 6 < nI 150))))) v := by
  refine xn_M_of (by decide) (Nat.le_of_ble_eq_true rfl) (fun E hE C => ?_)
  subst hE
  replace C : xj_C E G prog_2_method_2_code "ThreePhaseGroup$Board" 1 0 0 0 0 (some .boolean) := C
  show xn_X E G _ 0 0 0 [some (.ref (xj_ad G (1, 0, 0)))] [] v
  refine xj_aload_n C a_B_isFull_0 rfl ?_
  refine xn_g_B_size C a_B_isFull_1 fl_B_32 ?_
  refine xj_sipush (v := nI 150) C a_B_isFull_4 (by decide) ?_
  refine xj_icmp_lt C a_B_isFull_7 rfl (fun h7 => ?_) (fun h7 => ?_)
  · refine xj_iconst (v := nI 0) C a_B_isFull_14 (by decide) ?_
    refine xj_zret C a_B_isFull_15 rfl ?_
    exact ⟨xp_f (by simp [h7]), rfl⟩
  · refine xj_iconst (v := nI 1) C a_B_isFull_10 (by decide) ?_
    refine xj_goto C a_B_isFull_11 rfl ?_
    refine xj_zret C a_B_isFull_15 rfl ?_
    exact ⟨xp_t (by simp [h7]), rfl⟩
theorem c_B_has (l : Launch) (G : xj_G) (v : xn_V) (m : Int32) : xn_M l G 0 0 m_B_has [.ref (xj_ad G (1, 0, 0)), .int m] v (some (.int (xp_b (decide (¬ m < 0 ∧ ¬ v.1 1 0 0 6 ≤ m))))) v := by
  refine xn_M_of (by decide) (Nat.le_of_ble_eq_true rfl) (fun E hE C => ?_)
  subst hE
  replace C : xj_C E G prog_2_method_3_code "ThreePhaseGroup$Board" 2 0 0 0 0 (some .boolean) := C
  show xn_X E G _ 0 0 0 [some (.ref (xj_ad G (1, 0, 0))), some (.int m)] [] v
  refine xj_iload_n C a_B_has_0 rfl ?_
  refine xj_if_lt C a_B_has_1 rfl (fun h1 => ?_) (fun h1 => ?_)
  · refine xj_iconst (v := nI 0) C a_B_has_16 (by decide) ?_
    refine xj_zret C a_B_has_17 rfl ?_
    exact ⟨xp_f (by simp [h1]), rfl⟩
  · refine xj_iload_n C a_B_has_4 rfl ?_
    refine xj_aload_n C a_B_has_5 rfl ?_
    refine xn_g_B_size C a_B_has_6 fl_B_32 ?_
    refine xj_icmp_ge C a_B_has_9 rfl (fun h9 => ?_) (fun h9 => ?_)
    · refine xj_iconst (v := nI 0) C a_B_has_16 (by decide) ?_
      refine xj_zret C a_B_has_17 rfl ?_
      exact ⟨xp_f (by simp [h1, h9]), rfl⟩
    · refine xj_iconst (v := nI 1) C a_B_has_12 (by decide) ?_
      refine xj_goto C a_B_has_13 rfl ?_
      refine xj_zret C a_B_has_17 rfl ?_
      exact ⟨xp_t (by simp [h1, h9]), rfl⟩
theorem c_B_isChangedView (l : Launch) (G : xj_G) (v : xn_V) (m : Int32) : xn_M l G 0 0 m_B_isChangedView [.int m] v (some (.int (xp_b (decide (¬ m < nI 1 ∧ ¬ nI 15 < m))))) v := by
  refine xn_M_of (by decide) (Nat.le_of_ble_eq_true rfl) (fun E hE C => ?_)
  subst hE
  replace C : xj_C E G prog_2_method_7_code "ThreePhaseGroup$Board" 1 0 0 0 0 (some .boolean) := C
  show xn_X E G _ 0 0 0 [some (.int m)] [] v
  refine xj_iload_n C a_B_isChangedView_0 rfl ?_
  refine xj_iconst (v := nI 1) C a_B_isChangedView_1 (by decide) ?_
  refine xj_icmp_lt C a_B_isChangedView_2 rfl (fun h2 => ?_) (fun h2 => ?_)
  · refine xj_iconst (v := nI 0) C a_B_isChangedView_15 (by decide) ?_
    refine xj_zret C a_B_isChangedView_16 rfl ?_
    exact ⟨xp_f (by simp [h2]), rfl⟩
  · refine xj_iload_n C a_B_isChangedView_5 rfl ?_
    refine xj_bipush (v := nI 15) C a_B_isChangedView_6 (by decide) ?_
    refine xj_icmp_gt C a_B_isChangedView_8 rfl (fun h8 => ?_) (fun h8 => ?_)
    · refine xj_iconst (v := nI 0) C a_B_isChangedView_15 (by decide) ?_
      refine xj_zret C a_B_isChangedView_16 rfl ?_
      exact ⟨xp_f (by simp [h2, h8]), rfl⟩
    · refine xj_iconst (v := nI 1) C a_B_isChangedView_11 (by decide) ?_
      refine xj_goto C a_B_isChangedView_12 rfl ?_
      refine xj_zret C a_B_isChangedView_16 rfl ?_
      exact ⟨xp_t (by simp [h2, h8]), rfl⟩
theorem c_B_isPrepare (l : Launch) (G : xj_G) (v : xn_V) (m : Nat) (hm : m < 256) (w n : Int32) : xn_M l G 0 0 m_B_isPrepare [.ref (xj_ad G (1, 0, 0)), .int (nI m), .int w, .int n] v (some (.int (xp_b (decide (v.1 2 0 0 m = nI 2 ∧ v.1 4 0 0 m = w ∧ v.2 5 0 0 m = n.toInt64))))) v := by
  refine xn_M_of (by decide) (Nat.le_of_ble_eq_true rfl) (fun E hE C => ?_)
  subst hE
  replace C : xj_C E G prog_2_method_13_code "ThreePhaseGroup$Board" 4 0 0 0 0 (some .boolean) := C
  show xn_X E G _ 0 0 0 [some (.ref (xj_ad G (1, 0, 0))), some (.int (nI m)), some (.int w), some (.int n)] [] v
  refine xj_aload_n C a_B_isPrepare_0 rfl ?_
  refine xn_g_B_kind C a_B_isPrepare_1 fl_B_9 ?_
  refine xj_iload_n C a_B_isPrepare_4 rfl ?_
  refine xn_ld_2 C a_B_isPrepare_5 (by first | assumption | omega) ?_
  refine xj_iconst (v := nI 2) C a_B_isPrepare_6 (by decide) ?_
  refine xj_icmp_ne C a_B_isPrepare_7 rfl (fun h7 => ?_) (fun h7 => ?_)
  · refine xj_iconst (v := nI 0) C a_B_isPrepare_36 (by decide) ?_
    refine xj_zret C a_B_isPrepare_37 rfl ?_
    exact ⟨xp_f (by simp [h7]), rfl⟩
  · refine xj_aload_n C a_B_isPrepare_10 rfl ?_
    refine xn_g_B_a C a_B_isPrepare_11 fl_B_18 ?_
    refine xj_iload_n C a_B_isPrepare_14 rfl ?_
    refine xn_ld_4 C a_B_isPrepare_15 (by first | assumption | omega) ?_
    refine xj_iload_n C a_B_isPrepare_16 rfl ?_
    refine xj_icmp_ne C a_B_isPrepare_17 rfl (fun h17 => ?_) (fun h17 => ?_)
    · refine xj_iconst (v := nI 0) C a_B_isPrepare_36 (by decide) ?_
      refine xj_zret C a_B_isPrepare_37 rfl ?_
      exact ⟨xp_f (by simp [h7, h17]), rfl⟩
    · refine xj_aload_n C a_B_isPrepare_20 rfl ?_
      refine xn_g_B_b C a_B_isPrepare_21 fl_B_21 ?_
      refine xj_iload_n C a_B_isPrepare_24 rfl ?_
      refine xn_ld_5 C a_B_isPrepare_25 (by first | assumption | omega) ?_
      refine xj_iload_n C a_B_isPrepare_26 rfl ?_
      refine xj_i2l C a_B_isPrepare_27 ?_
      refine xj_lcmp C a_B_isPrepare_28 ?_
      refine xj_if_ne C a_B_isPrepare_29 rfl (fun h29 => ?_) (fun h29 => ?_)
      · rw [xp_cmp_ne] at h29
        refine xj_iconst (v := nI 0) C a_B_isPrepare_36 (by decide) ?_
        refine xj_zret C a_B_isPrepare_37 rfl ?_
        exact ⟨xp_f (by simp [h7, h17, h29]), rfl⟩
      · rw [xp_cmp_ne] at h29
        refine xj_iconst (v := nI 1) C a_B_isPrepare_32 (by decide) ?_
        refine xj_goto C a_B_isPrepare_33 rfl ?_
        refine xj_zret C a_B_isPrepare_37 rfl ?_
        exact ⟨xp_t (by simp [h7, h17, h29]), rfl⟩
