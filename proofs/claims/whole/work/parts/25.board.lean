/-! the board's reads -/
theorem xp_ix {x : Int32} {b : Nat} (h0 : ¬ x < 0) (h1 : ¬ nI b ≤ x) (hb : b < 2 ^ 31) : ∃ j, j < b ∧ x = nI j := by
  rcases pk_ix x hb with h | h | h
  · exact absurd h h0
  · exact absurd h h1
  · exact h
theorem xp_mk_s (P : Nat → Bool) (f : Nat → Nat) (m : Nat) : xp_mk P f (m + 1) = if P m then xp_mk P f m ||| 2 ^ f m else xp_mk P f m := rfl
theorem xp_nat {j : Nat} (h : j < 2 ^ 31) : (nI j).toInt.toNat = j := by rw [nI_toInt h]; rfl
theorem pg_cnt_le (m : Nat) (f : Nat → Nat) (P : Nat → Bool) (b : Nat) : pg_cnt m f P b ≤ 4 := by
  have := List.length_filter_le (fun s => s != b && (List.range m).any (fun i => f i == s && P i)) (List.range 4)
  simpa [pg_cnt] using this
theorem c_B_post (l : Launch) (G : xj_G) (v : xn_V) (z : Nat) (hz : v.1 1 0 0 6 = nI z) (hz2 : z < 256) (k f a : Int32) (b : Int64) (c : Int32) : xn_M l G 0 0 m_B_post [.ref (xj_ad G (1, 0, 0)), .int k, .int f, .int a, .long b, .int c] v (some (.int (nI z))) (xn_post v z k f a b c) := by
  refine xn_M_of (by decide) (Nat.le_of_ble_eq_true rfl) (fun E hE C => ?_)
  subst hE
  replace C : xj_C E G prog_2_method_5_code "ThreePhaseGroup$Board" 8 0 0 0 0 (some .int) := C
  show xn_X E G _ 0 0 0 [some (.ref (xj_ad G (1, 0, 0))), some (.int k), some (.int f), some (.int a), some (.long b), none, some (.int c), none] [] v
  refine xj_aload_n C a_B_post_0 rfl ?_
  refine xn_g_B_size C a_B_post_1 fl_B_32 ?_
  refine xj_topi hz ?_
  refine xj_sipush (v := nI 256) C a_B_post_4 (by decide) ?_
  refine xj_icmp_lt C a_B_post_7 rfl (fun h7 => ?_) (fun h7 => ?_)
  · refine xj_aload_n C a_B_post_14 rfl ?_
    refine xn_g_B_size C a_B_post_15 fl_B_32 ?_
    refine xj_topi hz ?_
    refine xj_istore7 C a_B_post_18 rfl ?_
    refine xj_aload_n C a_B_post_20 rfl ?_
    refine xn_g_B_kind C a_B_post_21 fl_B_9 ?_
    refine xj_iload C a_B_post_24 rfl ?_
    refine xj_iload_n C a_B_post_26 rfl ?_
    refine xn_st_2 C a_B_post_27 (by first | assumption | omega) ?_
    refine xj_aload_n C a_B_post_28 rfl ?_
    refine xn_g_B_sender C a_B_post_29 fl_B_15 ?_
    refine xj_iload C a_B_post_32 rfl ?_
    refine xj_iload_n C a_B_post_34 rfl ?_
    refine xn_st_3 C a_B_post_35 (by first | assumption | omega) ?_
    refine xj_aload_n C a_B_post_36 rfl ?_
    refine xn_g_B_a C a_B_post_37 fl_B_18 ?_
    refine xj_iload C a_B_post_40 rfl ?_
    refine xj_iload_n C a_B_post_42 rfl ?_
    refine xn_st_4 C a_B_post_43 (by first | assumption | omega) ?_
    refine xj_aload_n C a_B_post_44 rfl ?_
    refine xn_g_B_b C a_B_post_45 fl_B_21 ?_
    refine xj_iload C a_B_post_48 rfl ?_
    refine xj_lload C a_B_post_50 rfl ?_
    refine xn_st_5 C a_B_post_52 (by first | assumption | omega) ?_
    refine xj_aload_n C a_B_post_53 rfl ?_
    refine xn_g_B_c C a_B_post_54 fl_B_25 ?_
    refine xj_iload C a_B_post_57 rfl ?_
    refine xj_iload C a_B_post_59 rfl ?_
    refine xn_st_6 C a_B_post_61 (by first | assumption | omega) ?_
    refine xj_aload_n C a_B_post_62 rfl ?_
    refine xj_dup C a_B_post_63 rfl ?_
    refine xn_g_B_size C a_B_post_64 fl_B_32 ?_
    refine xj_topi (y := nI z) (by simp [xn_uI, xn_uJ, hz]) ?_
    refine xj_iconst (v := nI 1) C a_B_post_67 (by decide) ?_
    refine xj_iadd C a_B_post_68 ?_
    refine xj_topi (nI_add z 1) ?_
    refine xn_p_B_size C a_B_post_69 fl_B_32 ?_
    refine xj_iload C a_B_post_72 rfl ?_
    refine xj_iret C a_B_post_74 ?_
    exact ⟨rfl, rfl⟩
  · rw [nI_ltI (by omega) (by omega)] at h7
    omega
theorem c_B_hasRequestBelow (l : Launch) (G : xj_G) (v : xn_V) (B : pg_B) (hB : xc_B B v) (m : Int32) (b : Nat) (hb : b ≤ B.1) : xn_M l G 0 0 m_B_hasRequestBelow [.ref (xj_ad G (1, 0, 0)), .int m, .int (nI b)] v (some (.int (xp_b (decide (¬ m < 0 ∧ ¬ nI b ≤ m ∧ pg_k B m.toInt.toNat = 0))))) v := by
  have hz := hB.2.1
  refine xn_M_of (by decide) (Nat.le_of_ble_eq_true rfl) (fun E hE C => ?_)
  subst hE
  replace C : xj_C E G prog_2_method_4_code "ThreePhaseGroup$Board" 3 0 0 0 0 (some .boolean) := C
  show xn_X E G _ 0 0 0 [some (.ref (xj_ad G (1, 0, 0))), some (.int m), some (.int (nI b))] [] v
  refine xj_iload_n C a_B_hasRequestBelow_0 rfl ?_
  refine xj_if_lt C a_B_hasRequestBelow_1 rfl (fun h1 => ?_) (fun h1 => ?_)
  · refine xj_iconst (v := nI 0) C a_B_hasRequestBelow_22 (by decide) ?_
    refine xj_zret C a_B_hasRequestBelow_23 rfl ?_
    exact ⟨xp_f (by simp [h1]), rfl⟩
  · refine xj_iload_n C a_B_hasRequestBelow_4 rfl ?_
    refine xj_iload_n C a_B_hasRequestBelow_5 rfl ?_
    refine xj_icmp_ge C a_B_hasRequestBelow_6 rfl (fun h6 => ?_) (fun h6 => ?_)
    · refine xj_iconst (v := nI 0) C a_B_hasRequestBelow_22 (by decide) ?_
      refine xj_zret C a_B_hasRequestBelow_23 rfl ?_
      exact ⟨xp_f (by simp [h6]), rfl⟩
    · obtain ⟨j, hj, rfl⟩ := xp_ix h1 h6 (by omega)
      have hk := (hB.2.2.1 j (by omega)).1
      refine xj_aload_n C a_B_hasRequestBelow_9 rfl ?_
      refine xn_g_B_kind C a_B_hasRequestBelow_10 fl_B_9 ?_
      refine xj_iload_n C a_B_hasRequestBelow_13 rfl ?_
      refine xn_ld_2 C a_B_hasRequestBelow_14 (by first | assumption | omega) ?_
      refine xj_topi (hB.k (by omega)) ?_
      refine xj_if_ne C a_B_hasRequestBelow_15 rfl (fun h15 => ?_) (fun h15 => ?_)
      · refine xj_iconst (v := nI 0) C a_B_hasRequestBelow_22 (by decide) ?_
        refine xj_zret C a_B_hasRequestBelow_23 rfl ?_
        refine ⟨xp_f ?_, rfl⟩
        rw [xp_nat (by omega)]
        have : ¬ pg_k B j = 0 := fun e => h15 (by rw [e]; rfl)
        simp [this]
      · refine xj_iconst (v := nI 1) C a_B_hasRequestBelow_18 (by decide) ?_
        refine xj_goto C a_B_hasRequestBelow_19 rfl ?_
        refine xj_zret C a_B_hasRequestBelow_23 rfl ?_
        refine ⟨xp_t ?_, rfl⟩
        rw [xp_nat (by omega)]
        have : pg_k B j = 0 := by
          have e : nI (pg_k B j) = nI 0 := h15
          rw [nI_eq (by omega) (by omega)] at e
          exact e
        simp [this, h1, h6]
theorem c_B_isPrepareB (l : Launch) (G : xj_G) (v : xn_V) (B : pg_B) (hB : xc_B B v) (m : Nat) (hm : m < B.1) (w n : Int32) : xn_M l G 0 0 m_B_isPrepare [.ref (xj_ad G (1, 0, 0)), .int (nI m), .int w, .int n] v (some (.int (xp_b (pg_pr B w n.toInt64 m)))) v := by
  have h := c_B_isPrepare l G v m (by have := hB.2.1; omega) w n
  rw [hB.k hm, hB.a hm, hB.b hm] at h
  have e : decide (nI (pg_k B m) = nI 2 ∧ pg_a B m = w ∧ pg_b B m = n.toInt64) = pg_pr B w n.toInt64 m := by
    have hk := (hB.2.2.1 m hm).1
    have e1 : (nI (pg_k B m) = nI 2) = (pg_k B m = 2) := propext (nI_eq (by omega) (by omega))
    simp only [e1]
    unfold pg_pr
    by_cases h1 : pg_k B m = 2 <;> by_cases h2 : pg_a B m = w <;> by_cases h3 : pg_b B m = n.toInt64 <;> simp [h1, h2, h3]
  rw [e] at h
  exact h
theorem c_B_countCheckpoints (l : Launch) (G : xj_G) (v : xn_V) (B : pg_B) (hB : xc_B B v) (k b : Nat) (hk : k < B.1) (hb : b ≤ B.1) : xn_M l G 1 20 m_B_countCheckpoints [.ref (xj_ad G (1, 0, 0)), .int (nI k), .int (nI b)] v (some (.int (nI (pg_cnt b (pg_f B) (pg_cp B (pg_a B k) (pg_b B k)) 9)))) v := by
  have hz := hB.2.1
  refine xn_M_of (by decide) (Nat.le_of_ble_eq_true rfl) (fun E hE C => ?_)
  subst hE
  replace C : xj_C E G prog_2_method_11_code "ThreePhaseGroup$Board" 5 1 20 0 0 (some .int) := C
  show xn_X E G _ 0 0 0 [some (.ref (xj_ad G (1, 0, 0))), some (.int (nI k)), some (.int (nI b)), none, none] [] v
  generalize hP : pg_cp B (pg_a B k) (pg_b B k) = P
  have hf4 : ∀ i, i < b → P i = true → pg_f B i < 4 := by
    intro i hi h
    rw [← hP] at h
    refine pg_wf4 hB.2.2.1 (by omega) ?_
    intro e
    simp [pg_cp, e] at h
  refine xj_iconst (v := nI 0) C a_B_countCheckpoints_0 (by decide) ?_
  refine xj_istore3 C a_B_countCheckpoints_1 rfl ?_
  refine xj_iconst (v := nI 0) C a_B_countCheckpoints_2 (by decide) ?_
  refine xj_istore4 C a_B_countCheckpoints_3 rfl ?_
  have loop : ∀ n j : Nat, j ≤ b → b - j < n → xn_X E G (xj_R E G (fun a' w' => a' = some (.int (nI (pg_cnt b (pg_f B) P 9))) ∧ w' = xn_W v) 0 0) 0 0 5 [some (.ref (xj_ad G (1, 0, 0))), some (.int (nI k)), some (.int (nI b)), some (.int (nI (xp_mk P (pg_f B) j))), some (.int (nI j))] [] v := by
    intro n
    induction n with
    | zero => intro j _ h; omega
    | succ n ih =>
      intro j hj hn
      refine xj_iload C a_B_countCheckpoints_5 rfl ?_
      refine xj_iload_n C a_B_countCheckpoints_7 rfl ?_
      refine xj_icmp_ge C a_B_countCheckpoints_8 rfl (fun h8 => ?_) (fun h8 => ?_)
      · rw [nI_leI (by omega) (by omega)] at h8
        have : j = b := by omega
        subst this
        refine xj_iload_n C a_B_countCheckpoints_74 rfl ?_
        refine xn_callS1i C a_B_countCheckpoints_75 (c_JI_bitCount _ _ v _) ms_JI_bitCount lk_B_64 ⟨by decide, by decide⟩ rfl (Nat.le_of_ble_eq_true rfl) ⟨Nat.le_refl _, Nat.le_refl _⟩ ?_
        refine xj_iret C a_B_countCheckpoints_78 ?_
        exact ⟨by rw [xp_mk_cnt hf4], rfl⟩
      · rw [nI_leI (by omega) (by omega)] at h8
        have hkj := (hB.2.2.1 j (by omega)).1
        have hfj := (hB.2.2.1 j (by omega)).2.1
        have step : ∀ c, c = xp_mk P (pg_f B) (j + 1) → xn_X E G (xj_R E G (fun a' w' => a' = some (.int (nI (pg_cnt b (pg_f B) P 9))) ∧ w' = xn_W v) 0 0) 0 0 68 [some (.ref (xj_ad G (1, 0, 0))), some (.int (nI k)), some (.int (nI b)), some (.int (nI c)), some (.int (nI j))] [] v := by
          intro c hc
          subst hc
          refine xj_iincN4 C a_B_countCheckpoints_68 rfl ?_
          refine xj_goto C a_B_countCheckpoints_71 rfl ?_
          exact ih (j + 1) (by omega) (by omega)
        refine xj_aload_n C a_B_countCheckpoints_11 rfl ?_
        refine xn_g_B_kind C a_B_countCheckpoints_12 fl_B_9 ?_
        refine xj_iload C a_B_countCheckpoints_15 rfl ?_
        refine xn_ld_2 C a_B_countCheckpoints_17 (by first | assumption | omega) ?_
        refine xj_topi (hB.k (by omega)) ?_
        refine xj_bipush (v := nI 7) C a_B_countCheckpoints_18 (by decide) ?_
        refine xj_icmp_ne C a_B_countCheckpoints_20 rfl (fun h20 => ?_) (fun h20 => ?_)
        · rw [nI_eq (by omega) (by omega)] at h20
          exact step _ (by rw [xp_mk_s, if_neg (by rw [← hP]; simp [pg_cp, h20])])
        · rw [nI_eq (by omega) (by omega)] at h20
          refine xj_aload_n C a_B_countCheckpoints_23 rfl ?_
          refine xn_g_B_a C a_B_countCheckpoints_24 fl_B_18 ?_
          refine xj_iload C a_B_countCheckpoints_27 rfl ?_
          refine xn_ld_4 C a_B_countCheckpoints_29 (by first | assumption | omega) ?_
          refine xj_topi (hB.a (by omega)) ?_
          refine xj_aload_n C a_B_countCheckpoints_30 rfl ?_
          refine xn_g_B_a C a_B_countCheckpoints_31 fl_B_18 ?_
          refine xj_iload_n C a_B_countCheckpoints_34 rfl ?_
          refine xn_ld_4 C a_B_countCheckpoints_35 (by first | assumption | omega) ?_
          refine xj_topi (hB.a (by omega)) ?_
          refine xj_icmp_ne C a_B_countCheckpoints_36 rfl (fun h36 => ?_) (fun h36 => ?_)
          · exact step _ (by rw [xp_mk_s, if_neg (by rw [← hP]; simp [pg_cp, h20, h36])])
          · refine xj_aload_n C a_B_countCheckpoints_39 rfl ?_
            refine xn_g_B_b C a_B_countCheckpoints_40 fl_B_21 ?_
            refine xj_iload C a_B_countCheckpoints_43 rfl ?_
            refine xn_ld_5 C a_B_countCheckpoints_45 (by first | assumption | omega) ?_
            refine xj_topl (hB.b (by omega)) ?_
            refine xj_aload_n C a_B_countCheckpoints_46 rfl ?_
            refine xn_g_B_b C a_B_countCheckpoints_47 fl_B_21 ?_
            refine xj_iload_n C a_B_countCheckpoints_50 rfl ?_
            refine xn_ld_5 C a_B_countCheckpoints_51 (by first | assumption | omega) ?_
            refine xj_topl (hB.b (by omega)) ?_
            refine xj_lcmp C a_B_countCheckpoints_52 ?_
            refine xj_if_ne C a_B_countCheckpoints_53 rfl (fun h53 => ?_) (fun h53 => ?_)
            · rw [xp_cmp_eq] at h53
              exact step _ (by rw [xp_mk_s, if_neg (by rw [← hP]; simp [pg_cp, h53])])
            · rw [xp_cmp_eq] at h53
              refine xj_iload_n C a_B_countCheckpoints_56 rfl ?_
              refine xj_iconst (v := nI 1) C a_B_countCheckpoints_57 (by decide) ?_
              refine xj_aload_n C a_B_countCheckpoints_58 rfl ?_
              refine xn_g_B_sender C a_B_countCheckpoints_59 fl_B_15 ?_
              refine xj_iload C a_B_countCheckpoints_62 rfl ?_
              refine xn_ld_3 C a_B_countCheckpoints_64 (by first | assumption | omega) ?_
              refine xj_topi (hB.f (by omega)) ?_
              refine xj_ishl C a_B_countCheckpoints_65 ?_
              refine xj_topi (xp_bit4 _ hfj) ?_
              refine xj_ior C a_B_countCheckpoints_66 ?_
              refine xj_topi (xp_or _ _) ?_
              refine xj_istore3 C a_B_countCheckpoints_67 rfl ?_
              exact step _ (by rw [xp_mk_s, if_pos (by rw [← hP]; simp [pg_cp, h20, h36, h53])])
  exact loop (b + 1) 0 (by omega) (by omega)
theorem c_B_certificate (l : Launch) (G : xj_G) (v : xn_V) (B : pg_B) (hB : xc_B B v) (x : Int64) (b : Nat) (hb : b ≤ B.1) : xn_M l G 2 44 m_B_certificate [.ref (xj_ad G (1, 0, 0)), .long x, .int (nI b)] v (some (.int (xp_o (pg_proof B x b)))) v := by
  have hz := hB.2.1
  refine xn_M_of (by decide) (Nat.le_of_ble_eq_true rfl) (fun E hE C => ?_)
  subst hE
  replace C : xj_C E G prog_2_method_10_code "ThreePhaseGroup$Board" 5 2 44 0 0 (some .int) := C
  show xn_X E G _ 0 0 0 [some (.ref (xj_ad G (1, 0, 0))), some (.long x), none, some (.int (nI b)), none] [] v
  unfold pg_proof
  generalize hP : (fun i => pg_k B i == 7 && ((pg_a B i).toInt64 == x && decide (3 ≤ pg_cnt b (pg_f B) (pg_cp B (pg_a B i) (pg_b B i)) 9))) = P
  refine xj_iconst (v := nI 0) C a_B_certificate_0 (by decide) ?_
  refine xj_istore4 C a_B_certificate_1 rfl ?_
  have loop : ∀ n j : Nat, j ≤ b → b - j < n → (∀ k, k < j → P k = false) → xn_X E G (xj_R E G (fun a' w' => a' = some (.int (xp_o ((List.range b).find? P))) ∧ w' = xn_W v) 0 0) 0 0 3 [some (.ref (xj_ad G (1, 0, 0))), some (.long x), none, some (.int (nI b)), some (.int (nI j))] [] v := by
    intro n
    induction n with
    | zero => intro j _ h; omega
    | succ n ih =>
      intro j hj hn hk
      refine xj_iload C a_B_certificate_3 rfl ?_
      refine xj_iload_n C a_B_certificate_5 rfl ?_
      refine xj_icmp_ge C a_B_certificate_6 rfl (fun h6 => ?_) (fun h6 => ?_)
      · rw [nI_leI (by omega) (by omega)] at h6
        have : j = b := by omega
        subst this
        refine xj_bipush (v := -2) C a_B_certificate_54 (by decide) ?_
        refine xj_iret C a_B_certificate_56 ?_
        exact ⟨by rw [xp_find_none hk]; rfl, rfl⟩
      · rw [nI_leI (by omega) (by omega)] at h6
        have hkj := (hB.2.2.1 j (by omega)).1
        have step : P j = false → xn_X E G (xj_R E G (fun a' w' => a' = some (.int (xp_o ((List.range b).find? P))) ∧ w' = xn_W v) 0 0) 0 0 48 [some (.ref (xj_ad G (1, 0, 0))), some (.long x), none, some (.int (nI b)), some (.int (nI j))] [] v := by
          intro hpj
          refine xj_iincN4 C a_B_certificate_48 rfl ?_
          refine xj_goto C a_B_certificate_51 rfl ?_
          exact ih (j + 1) (by omega) (by omega) (lt_s hk hpj)
        refine xj_aload_n C a_B_certificate_9 rfl ?_
        refine xn_g_B_kind C a_B_certificate_10 fl_B_9 ?_
        refine xj_iload C a_B_certificate_13 rfl ?_
        refine xn_ld_2 C a_B_certificate_15 (by first | assumption | omega) ?_
        refine xj_topi (hB.k (by omega)) ?_
        refine xj_bipush (v := nI 7) C a_B_certificate_16 (by decide) ?_
        refine xj_icmp_ne C a_B_certificate_18 rfl (fun h18 => ?_) (fun h18 => ?_)
        · rw [nI_eq (by omega) (by omega)] at h18
          exact step (by rw [← hP]; simp [h18])
        · rw [nI_eq (by omega) (by omega)] at h18
          refine xj_aload_n C a_B_certificate_21 rfl ?_
          refine xn_g_B_a C a_B_certificate_22 fl_B_18 ?_
          refine xj_iload C a_B_certificate_25 rfl ?_
          refine xn_ld_4 C a_B_certificate_27 (by first | assumption | omega) ?_
          refine xj_topi (hB.a (by omega)) ?_
          refine xj_i2l C a_B_certificate_28 ?_
          refine xj_lload_n C a_B_certificate_29 rfl ?_
          refine xj_lcmp C a_B_certificate_30 ?_
          refine xj_if_ne C a_B_certificate_31 rfl (fun h31 => ?_) (fun h31 => ?_)
          · rw [xp_cmp_eq] at h31
            exact step (by rw [← hP]; simp [h31])
          · rw [xp_cmp_eq] at h31
            have hle := pg_cnt_le b (pg_f B) (pg_cp B (pg_a B j) (pg_b B j)) 9
            refine xj_aload_n C a_B_certificate_34 rfl ?_
            refine xj_iload C a_B_certificate_35 rfl ?_
            refine xj_iload_n C a_B_certificate_37 rfl ?_
            refine xn_callV2i C a_B_certificate_38 (c_B_countCheckpoints _ _ v B hB j b (by omega) hb) mv_B_countCheckpoints lk_B_73 ⟨rfl, rfl, rfl⟩ xj_ok1 ⟨by decide, by decide⟩ rfl (Nat.le_of_ble_eq_true rfl) ⟨Nat.le_refl _, Nat.le_refl _⟩ ?_
            refine xj_iconst (v := nI 3) C a_B_certificate_41 (by decide) ?_
            refine xj_icmp_lt C a_B_certificate_42 rfl (fun h42 => ?_) (fun h42 => ?_)
            · rw [nI_ltI (by omega) (by omega)] at h42
              exact step (by rw [← hP]; simp; intros; omega)
            · rw [nI_ltI (by omega) (by omega)] at h42
              refine xj_iload C a_B_certificate_45 rfl ?_
              refine xj_iret C a_B_certificate_47 ?_
              have hpj : P j = true := by rw [← hP]; simp [h18, h31]; omega
              exact ⟨by rw [xp_find_some (by omega) hpj hk]; rfl, rfl⟩
  exact loop (b + 1) 0 (by omega) (by omega) (fun k h => absurd h (Nat.not_lt_zero k))
