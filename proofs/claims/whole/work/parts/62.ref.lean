/-! the reference: what is noted, heard, sent; what waits -/
theorem xp_nz {x : Nat} (hx : x < 2 ^ 31) : nI x = 0 ↔ x = 0 := by
  constructor
  · intro e
    have e : nI x = nI 0 := e
    rwa [nI_eq hx (by omega)] at e
  · rintro rfl; rfl
theorem c_T_window (l : Launch) (G : xj_G) (v : xn_V) (r : Nat) (hr : r < 4) (R : pg_R) (hR : xt_R r R v) (hh : pg_h R < 400) (n : Int64) : xn_M l G 0 0 m_T_window [.ref (xj_ad G (21, 0, 0)), .int (nI r), .long n] v (some (.int (xp_b (pg_win R n)))) v := by
  have e1 : (nI (pg_h R)).toInt64 = lN (pg_h R) := nI_l (by omega)
  have e2 : (nI (pg_h R + 4)).toInt64 = lN (pg_h R + 4) := nI_l (by omega)
  refine xn_M_of (by decide) (Nat.le_of_ble_eq_true rfl) (fun E hE C => ?_)
  subst hE
  replace C : xj_C E G prog_9_method_13_code "ThreePhaseGroupModel" 4 0 0 0 0 (some .boolean) := C
  show xn_X E G _ 0 0 0 [some (.ref (xj_ad G (21, 0, 0))), some (.int (nI r)), some (.long n), none] [] v
  refine xj_lload_n C a_T_window_0 rfl ?_
  refine xj_aload_n C a_T_window_1 rfl ?_
  refine xn_g_T_h C a_T_window_2 fl_T_42 ?_
  refine xj_iload_n C a_T_window_5 rfl ?_
  refine xn_ld_32 C a_T_window_6 (by first | assumption | omega) ?_
  refine xj_topi hR.h ?_
  refine xj_i2l C a_T_window_7 ?_
  refine xj_lcmp C a_T_window_8 ?_
  refine xj_if_le C a_T_window_9 rfl (fun h9 => ?_) (fun h9 => ?_)
  · rw [xp_cmp_le, e1] at h9
    refine xj_iconst (v := nI 0) C a_T_window_30 (by decide) ?_
    refine xj_zret C a_T_window_31 rfl ⟨xp_f ?_, rfl⟩
    unfold pg_win
    rw [decide_eq_false (Int64.not_lt.mpr h9), Bool.false_and]
  · rw [xp_cmp_le, e1] at h9
    refine xj_lload_n C a_T_window_12 rfl ?_
    refine xj_aload_n C a_T_window_13 rfl ?_
    refine xn_g_T_h C a_T_window_14 fl_T_42 ?_
    refine xj_iload_n C a_T_window_17 rfl ?_
    refine xn_ld_32 C a_T_window_18 (by first | assumption | omega) ?_
    refine xj_topi hR.h ?_
    refine xj_iconst (v := nI 4) C a_T_window_19 (by decide) ?_
    refine xj_iaddN C a_T_window_20 ?_
    refine xj_i2l C a_T_window_21 ?_
    refine xj_lcmp C a_T_window_22 ?_
    refine xj_if_gt C a_T_window_23 rfl (fun h23 => ?_) (fun h23 => ?_)
    · rw [xp_cmp_gt, e2] at h23
      refine xj_iconst (v := nI 0) C a_T_window_30 (by decide) ?_
      refine xj_zret C a_T_window_31 rfl ⟨xp_f ?_, rfl⟩
      unfold pg_win
      rw [decide_eq_false (Int64.not_le.mpr h23), Bool.and_false]
    · rw [xp_cmp_gt, e2] at h23
      refine xj_iconst (v := nI 1) C a_T_window_26 (by decide) ?_
      refine xj_goto C a_T_window_27 rfl ?_
      refine xj_zret C a_T_window_31 rfl ⟨xp_t ?_, rfl⟩
      unfold pg_win
      rw [decide_eq_true (Int64.not_le.mp h9), decide_eq_true (Int64.not_lt.mp h23)]
      rfl
theorem c_T_notes (l : Launch) (G : xj_G) (v : xn_V) (r : Nat) (hr : r < 4) (S : pg_S) (hB : xt_B S.1 v) (hR : xt_R r S.2 v) (k s : Nat) (hk : k < 1000) (hs : s < 1000) (x : Int32) (y : Int64) : xn_M l G 0 0 m_T_notes [.ref (xj_ad G (21, 0, 0)), .int (nI r), .int (nI k), .int (nI s), .int x, .long y] v (some (.int (xp_b (pg_nts S k s x y)))) v := by
  have hz := hB.2.1
  refine xn_M_of (by decide) (Nat.le_of_ble_eq_true rfl) (fun E hE C => ?_)
  subst hE
  replace C : xj_C E G prog_9_method_14_code "ThreePhaseGroupModel" 8 0 0 0 0 (some .boolean) := C
  show xn_X E G _ 0 0 0 [some (.ref (xj_ad G (21, 0, 0))), some (.int (nI r)), some (.int (nI k)), some (.int (nI s)), some (.int x), some (.long y), none, none] [] v
  obtain ⟨P, hP⟩ : ∃ P : Nat → Bool, P = fun i => pg_no S.2 i == 1 && (pg_k S.1 i == k && (pg_f S.1 i == s && (pg_a S.1 i == x && (k == 7 || pg_b S.1 i == y)))) := ⟨_, rfl⟩
  have hn : pg_nts S k s x y = (List.range S.1.1).any P := by rw [hP]; rfl
  rw [hn]
  refine xj_iconst (v := nI 0) C a_T_notes_0 (by decide) ?_
  refine xj_istore7 C a_T_notes_1 rfl ?_
  have loop : ∀ N i : Nat, i ≤ S.1.1 → S.1.1 - i < N → (∀ j, j < i → P j = false) → xn_X E G (xj_R E G (fun a' w' => a' = some (.int (xp_b ((List.range S.1.1).any P))) ∧ w' = xn_W v) 0 0) 0 0 3 [some (.ref (xj_ad G (21, 0, 0))), some (.int (nI r)), some (.int (nI k)), some (.int (nI s)), some (.int x), some (.long y), none, some (.int (nI i))] [] v := by
    intro N
    induction N with
    | zero => intro i _ h; omega
    | succ N ih =>
      intro i hi hN hno
      refine xj_iload C a_T_notes_3 rfl ?_
      refine xj_aload_n C a_T_notes_5 rfl ?_
      refine xn_g_T_count C a_T_notes_6 fl_T_88 ?_
      refine xj_topi hB.z ?_
      refine xj_icmp_ge C a_T_notes_9 rfl (fun h9 => ?_) (fun h9 => ?_)
      · rw [nI_leI (by omega) (by omega)] at h9
        refine xj_iconst (v := nI 0) C a_T_notes_89 (by decide) ?_
        refine xj_zret C a_T_notes_90 rfl ⟨xp_f ?_, rfl⟩
        rw [List.any_eq_false]
        intro j hj
        rw [hno j (by have := List.mem_range.mp hj; omega)]
        decide
      · rw [nI_leI (by omega) (by omega)] at h9
        have hw := hB.2.2.1 i (by omega)
        have h01 := (hR.2.2.2 i).1
        have step : P i = false → xn_X E G (xj_R E G (fun a' w' => a' = some (.int (xp_b ((List.range S.1.1).any P))) ∧ w' = xn_W v) 0 0) 0 0 83 [some (.ref (xj_ad G (21, 0, 0))), some (.int (nI r)), some (.int (nI k)), some (.int (nI s)), some (.int x), some (.long y), none, some (.int (nI i))] [] v := by
          intro h
          refine xj_iincN7 C a_T_notes_83 rfl ?_
          refine xj_goto C a_T_notes_86 rfl ?_
          refine ih (i + 1) (by omega) (by omega) (fun j hj => ?_)
          by_cases e : j = i
          · subst e; exact h
          · exact hno j (by omega)
        have yes : P i = true → xn_X E G (xj_R E G (fun a' w' => a' = some (.int (xp_b ((List.range S.1.1).any P))) ∧ w' = xn_W v) 0 0) 0 0 81 [some (.ref (xj_ad G (21, 0, 0))), some (.int (nI r)), some (.int (nI k)), some (.int (nI s)), some (.int x), some (.long y), none, some (.int (nI i))] [] v := by
          intro h
          refine xj_iconst (v := nI 1) C a_T_notes_81 (by decide) ?_
          refine xj_zret C a_T_notes_82 rfl ⟨xp_t ?_, rfl⟩
          rw [List.any_eq_true]
          exact ⟨i, List.mem_range.mpr (by omega), h⟩
        refine xj_aload_n C a_T_notes_12 rfl ?_
        refine xn_g_T_noted C a_T_notes_13 fl_T_30 ?_
        refine xj_sipush (v := nI 200) C a_T_notes_16 (by decide) ?_
        refine xj_iload_n C a_T_notes_19 rfl ?_
        refine xj_imulN C a_T_notes_20 ?_
        refine xj_iload C a_T_notes_21 rfl ?_
        refine xj_iaddN C a_T_notes_23 ?_
        refine xn_ld_28 C a_T_notes_24 (by first | assumption | omega) ?_
        refine xj_topi (hR.no (by omega)) ?_
        refine xj_if_eq C a_T_notes_25 rfl (fun h25 => ?_) (fun h25 => ?_)
        · rw [xp_nz (by omega)] at h25
          exact step (by rw [hP]; simp [h25])
        · rw [xp_nz (by omega)] at h25
          have h25 : pg_no S.2 i = 1 := by omega
          refine xj_aload_n C a_T_notes_28 rfl ?_
          refine xn_g_T_kind C a_T_notes_29 fl_T_7 ?_
          refine xj_iload C a_T_notes_32 rfl ?_
          refine xn_ld_22 C a_T_notes_34 (by first | assumption | omega) ?_
          refine xj_topi (hB.k (by omega)) ?_
          refine xj_iload_n C a_T_notes_35 rfl ?_
          refine xj_icmp_ne C a_T_notes_36 rfl (fun h36 => ?_) (fun h36 => ?_)
          · rw [nI_eq (by omega) (by omega)] at h36
            exact step (by rw [hP]; simp [h36])
          · rw [nI_eq (by omega) (by omega)] at h36
            have h36 : pg_k S.1 i = k := by simpa using h36
            refine xj_aload_n C a_T_notes_39 rfl ?_
            refine xn_g_T_from C a_T_notes_40 fl_T_13 ?_
            refine xj_iload C a_T_notes_43 rfl ?_
            refine xn_ld_23 C a_T_notes_45 (by first | assumption | omega) ?_
            refine xj_topi (hB.f (by omega)) ?_
            refine xj_iload_n C a_T_notes_46 rfl ?_
            refine xj_icmp_ne C a_T_notes_47 rfl (fun h47 => ?_) (fun h47 => ?_)
            · rw [nI_eq (by omega) (by omega)] at h47
              exact step (by rw [hP]; simp [h47])
            · rw [nI_eq (by omega) (by omega)] at h47
              have h47 : pg_f S.1 i = s := by simpa using h47
              refine xj_aload_n C a_T_notes_50 rfl ?_
              refine xn_g_T_a C a_T_notes_51 fl_T_16 ?_
              refine xj_iload C a_T_notes_54 rfl ?_
              refine xn_ld_24 C a_T_notes_56 (by first | assumption | omega) ?_
              refine xj_topi (hB.a (by omega)) ?_
              refine xj_iload C a_T_notes_57 rfl ?_
              refine xj_icmp_ne C a_T_notes_59 rfl (fun h59 => ?_) (fun h59 => ?_)
              · exact step (by rw [hP]; simp [h59])
              · have h59 : pg_a S.1 i = x := by simpa using h59
                refine xj_iload_n C a_T_notes_62 rfl ?_
                refine xj_bipush (v := nI 7) C a_T_notes_63 (by decide) ?_
                refine xj_icmp_eq C a_T_notes_65 rfl (fun h65 => ?_) (fun h65 => ?_)
                · rw [nI_eq (by omega) (by omega)] at h65
                  exact yes (by rw [hP]; simp [h25, h36, h47, h59, h65])
                · rw [nI_eq (by omega) (by omega)] at h65
                  refine xj_aload_n C a_T_notes_68 rfl ?_
                  refine xn_g_T_b C a_T_notes_69 fl_T_19 ?_
                  refine xj_iload C a_T_notes_72 rfl ?_
                  refine xn_ld_25 C a_T_notes_74 (by first | assumption | omega) ?_
                  refine xj_topl (hB.b (by omega)) ?_
                  refine xj_lload C a_T_notes_75 rfl ?_
                  refine xj_lcmp C a_T_notes_77 ?_
                  refine xj_if_ne C a_T_notes_78 rfl (fun h78 => ?_) (fun h78 => ?_)
                  · rw [xp_cmp_ne] at h78
                    exact step (by rw [hP]; simp [h65, h78])
                  · rw [xp_cmp_ne] at h78
                    have h78 : pg_b S.1 i = y := by simpa using h78
                    exact yes (by rw [hP]; simp [h25, h36, h47, h59, h78])
  exact loop (S.1.1 + 1) 0 (by omega) (by omega) (fun j hj => absurd hj (Nat.not_lt_zero j))
theorem c_T_heard (l : Launch) (G : xj_G) (v : xn_V) (r : Nat) (hr : r < 4) (S : pg_S) (hB : xt_B S.1 v) (hR : xt_R r S.2 v) (k : Nat) (hk : k < 1000) (x : Int32) (y : Int64) (z : Int32) : xn_M l G 0 0 m_T_heard [.ref (xj_ad G (21, 0, 0)), .int (nI r), .int (nI k), .int x, .long y, .int z] v (some (.int (nI (pg_hr S k x y z)))) v := by
  have hz := hB.2.1
  refine xn_M_of (by decide) (Nat.le_of_ble_eq_true rfl) (fun E hE C => ?_)
  subst hE
  replace C : xj_C E G prog_9_method_15_code "ThreePhaseGroupModel" 11 0 0 0 0 (some .int) := C
  show xn_X E G _ 0 0 0 [some (.ref (xj_ad G (21, 0, 0))), some (.int (nI r)), some (.int (nI k)), some (.int x), some (.long y), none, some (.int z), none, none, none, none] [] v
  obtain ⟨Q, hQ⟩ : ∃ Q : Nat → Nat → Bool, Q = fun s i => decide (¬ nI (pg_no S.2 i) = 0) && (decide (nI (pg_f S.1 i) = nI s) && (decide (nI (pg_k S.1 i) = nI k) && (decide (pg_a S.1 i = x) && (decide (pg_b S.1 i = y) && decide (pg_c S.1 i = z))))) := ⟨_, rfl⟩
  obtain ⟨P, hP⟩ : ∃ P : Nat → Bool, P = fun s => (List.range S.1.1).any (Q s) := ⟨_, rfl⟩
  have hh : pg_hr S k x y z = xp_c P 4 := by
    symm
    apply xp_cnt_c
    intro s hs
    have h9 : (s != 9) = true := by simp; omega
    rw [h9, Bool.and_true, hP, hQ]
    apply xp_any_congr
    intro i hi
    have hw := hB.2.2.1 i hi
    have h01 := (hR.2.2.2 i).1
    have e1 : decide (¬ nI (pg_no S.2 i) = 0) = (pg_no S.2 i == 1) := by
      rw [Bool.eq_iff_iff, decide_eq_true_eq, beq_iff_eq, xp_nz (by omega)]
      omega
    dsimp only
    rw [e1, xp_nd (by omega) (by omega), xp_nd (by omega) (by omega), xp_bd, xp_bd, xp_bd]
    cases pg_f S.1 i == s <;> simp
  rw [hh]
  refine xj_iconst (v := nI 0) C a_T_heard_0 (by decide) ?_
  refine xj_istore7 C a_T_heard_1 rfl ?_
  refine xj_iconst (v := nI 0) C a_T_heard_3 (by decide) ?_
  refine xj_istore8 C a_T_heard_4 rfl ?_
  have loop : ∀ n s : Nat, s ≤ 4 → 4 - s < n → ∀ z1 z2 : Option Value, xn_X E G (xj_R E G (fun a' w' => a' = some (.int (nI (xp_c P 4))) ∧ w' = xn_W v) 0 0) 0 0 6 [some (.ref (xj_ad G (21, 0, 0))), some (.int (nI r)), some (.int (nI k)), some (.int x), some (.long y), none, some (.int z), some (.int (nI (xp_c P s))), some (.int (nI s)), z1, z2] [] v := by
    intro n
    induction n with
    | zero => intro s _ h; omega
    | succ n ih =>
      intro s hs hn z1 z2
      refine xj_iload C a_T_heard_6 rfl ?_
      refine xj_iconst (v := nI 4) C a_T_heard_8 (by decide) ?_
      refine xj_icmp_ge C a_T_heard_9 rfl (fun h9 => ?_) (fun h9 => ?_)
      · rw [nI_leI (by omega) (by omega)] at h9
        have : s = 4 := by omega
        subst this
        refine xj_iload C a_T_heard_134 rfl ?_
        refine xj_iret C a_T_heard_136 ?_
        exact ⟨rfl, rfl⟩
      · rw [nI_leI (by omega) (by omega)] at h9
        have nxt := ih (s + 1) (by omega) (by omega)
        rw [xp_c_s P s] at nxt
        refine xj_iconst (v := nI 0) C a_T_heard_12 (by decide) ?_
        refine xj_istore9 C a_T_heard_13 rfl ?_
        refine xj_iconst (v := nI 0) C a_T_heard_15 (by decide) ?_
        refine xj_istore10 C a_T_heard_16 rfl ?_
        have inner : ∀ n2 i : Nat, i ≤ S.1.1 → S.1.1 - i < n2 → xn_X E G (xj_R E G (fun a' w' => a' = some (.int (nI (xp_c P 4))) ∧ w' = xn_W v) 0 0) 0 0 18 [some (.ref (xj_ad G (21, 0, 0))), some (.int (nI r)), some (.int (nI k)), some (.int x), some (.long y), none, some (.int z), some (.int (nI (xp_c P s))), some (.int (nI s)), some (.int (xp_b ((List.range i).any (Q s)))), some (.int (nI i))] [] v := by
          intro n2
          induction n2 with
          | zero => intro i _ h; omega
          | succ n2 ih2 =>
            intro i hi hn2
            refine xj_iload C a_T_heard_18 rfl ?_
            refine xj_aload_n C a_T_heard_20 rfl ?_
            refine xn_g_T_count C a_T_heard_21 fl_T_88 ?_
            refine xj_topi hB.z ?_
            refine xj_icmp_ge C a_T_heard_24 rfl (fun h24 => ?_) (fun h24 => ?_)
            · rw [nI_leI (by omega) (by omega)] at h24
              have : i = S.1.1 := by omega
              subst this
              have hPs : P s = (List.range S.1.1).any (Q s) := by rw [hP]
              refine xj_iload C a_T_heard_120 rfl ?_
              refine xj_if_eq C a_T_heard_122 rfl (fun h122 => ?_) (fun h122 => ?_)
              · rw [xp_b0] at h122
                rw [if_neg (by rw [hPs, h122]; decide)] at nxt
                refine xj_iincN8 C a_T_heard_128 rfl ?_
                refine xj_goto C a_T_heard_131 rfl ?_
                exact nxt _ _
              · rw [xp_b0] at h122
                rw [if_pos (by rw [hPs]; simpa using h122)] at nxt
                refine xj_iincN7 C a_T_heard_125 rfl ?_
                refine xj_iincN8 C a_T_heard_128 rfl ?_
                refine xj_goto C a_T_heard_131 rfl ?_
                exact nxt _ _
            · rw [nI_leI (by omega) (by omega)] at h24
              have nxt2 := ih2 (i + 1) (by omega) (by omega)
              rw [xp_any_s] at nxt2
              have t93 : ((List.range i).any (Q s) || Q s i) = true → xn_X E G (xj_R E G (fun a' w' => a' = some (.int (nI (xp_c P 4))) ∧ w' = xn_W v) 0 0) 0 0 107 [some (.ref (xj_ad G (21, 0, 0))), some (.int (nI r)), some (.int (nI k)), some (.int x), some (.long y), none, some (.int z), some (.int (nI (xp_c P s))), some (.int (nI s)), some (.int (xp_b ((List.range i).any (Q s)))), some (.int (nI i))] [] v := by
                intro h
                rw [h] at nxt2
                refine xj_iconst (v := nI 1) C a_T_heard_107 (by decide) ?_
                refine xj_goto C a_T_heard_108 rfl ?_
                refine xj_istore9 C a_T_heard_112 rfl ?_
                refine xj_iincN10 C a_T_heard_114 rfl ?_
                refine xj_goto C a_T_heard_117 rfl ?_
                exact nxt2
              have t97 : (List.range i).any (Q s) = false → Q s i = false → xn_X E G (xj_R E G (fun a' w' => a' = some (.int (nI (xp_c P 4))) ∧ w' = xn_W v) 0 0) 0 0 111 [some (.ref (xj_ad G (21, 0, 0))), some (.int (nI r)), some (.int (nI k)), some (.int x), some (.long y), none, some (.int z), some (.int (nI (xp_c P s))), some (.int (nI s)), some (.int (xp_b ((List.range i).any (Q s)))), some (.int (nI i))] [] v := by
                intro h h2
                rw [h, h2] at nxt2
                refine xj_iconst (v := nI 0) C a_T_heard_111 (by decide) ?_
                refine xj_istore9 C a_T_heard_112 rfl ?_
                refine xj_iincN10 C a_T_heard_114 rfl ?_
                refine xj_goto C a_T_heard_117 rfl ?_
                exact nxt2
              refine xj_iload C a_T_heard_27 rfl ?_
              refine xj_if_ne C a_T_heard_29 rfl (fun h29 => ?_) (fun h29 => ?_)
              · rw [xp_b0] at h29
                exact t93 (by rw [Bool.or_eq_true]; left; simpa using h29)
              · rw [xp_b0] at h29
                have h29 : (List.range i).any (Q s) = false := by simpa using h29
                refine xj_aload_n C a_T_heard_32 rfl ?_
                refine xn_g_T_noted C a_T_heard_33 fl_T_30 ?_
                refine xj_sipush (v := nI 200) C a_T_heard_36 (by decide) ?_
                refine xj_iload_n C a_T_heard_39 rfl ?_
                refine xj_imulN C a_T_heard_40 ?_
                refine xj_iload C a_T_heard_41 rfl ?_
                refine xj_iaddN C a_T_heard_43 ?_
                refine xn_ld_28 C a_T_heard_44 (by first | assumption | omega) ?_
                refine xj_topi (hR.no (by omega)) ?_
                refine xj_if_eq C a_T_heard_45 rfl (fun h45 => ?_) (fun h45 => ?_)
                · exact t97 h29 (by rw [hQ]; simp [h45])
                · refine xj_aload_n C a_T_heard_48 rfl ?_
                  refine xn_g_T_from C a_T_heard_49 fl_T_13 ?_
                  refine xj_iload C a_T_heard_52 rfl ?_
                  refine xn_ld_23 C a_T_heard_54 (by first | assumption | omega) ?_
                  refine xj_topi (hB.f (by omega)) ?_
                  refine xj_iload C a_T_heard_55 rfl ?_
                  refine xj_icmp_ne C a_T_heard_57 rfl (fun h57 => ?_) (fun h57 => ?_)
                  · exact t97 h29 (by rw [hQ]; simp [h45, h57])
                  · refine xj_aload_n C a_T_heard_60 rfl ?_
                    refine xn_g_T_kind C a_T_heard_61 fl_T_7 ?_
                    refine xj_iload C a_T_heard_64 rfl ?_
                    refine xn_ld_22 C a_T_heard_66 (by first | assumption | omega) ?_
                    refine xj_topi (hB.k (by omega)) ?_
                    refine xj_iload_n C a_T_heard_67 rfl ?_
                    refine xj_icmp_ne C a_T_heard_68 rfl (fun h68 => ?_) (fun h68 => ?_)
                    · exact t97 h29 (by rw [hQ]; simp [h45, h57, h68])
                    · refine xj_aload_n C a_T_heard_71 rfl ?_
                      refine xn_g_T_a C a_T_heard_72 fl_T_16 ?_
                      refine xj_iload C a_T_heard_75 rfl ?_
                      refine xn_ld_24 C a_T_heard_77 (by first | assumption | omega) ?_
                      refine xj_topi (hB.a (by omega)) ?_
                      refine xj_iload_n C a_T_heard_78 rfl ?_
                      refine xj_icmp_ne C a_T_heard_79 rfl (fun h79 => ?_) (fun h79 => ?_)
                      · exact t97 h29 (by rw [hQ]; simp [h45, h57, h68, h79])
                      · refine xj_aload_n C a_T_heard_82 rfl ?_
                        refine xn_g_T_b C a_T_heard_83 fl_T_19 ?_
                        refine xj_iload C a_T_heard_86 rfl ?_
                        refine xn_ld_25 C a_T_heard_88 (by first | assumption | omega) ?_
                        refine xj_topl (hB.b (by omega)) ?_
                        refine xj_lload C a_T_heard_89 rfl ?_
                        refine xj_lcmp C a_T_heard_91 ?_
                        refine xj_if_ne C a_T_heard_92 rfl (fun h92 => ?_) (fun h92 => ?_)
                        · rw [xp_cmp_ne] at h92
                          exact t97 h29 (by rw [hQ]; simp [h45, h57, h68, h79, h92])
                        · rw [xp_cmp_ne] at h92
                          refine xj_aload_n C a_T_heard_95 rfl ?_
                          refine xn_g_T_c C a_T_heard_96 fl_T_23 ?_
                          refine xj_iload C a_T_heard_99 rfl ?_
                          refine xn_ld_26 C a_T_heard_101 (by first | assumption | omega) ?_
                          refine xj_topi (hB.c (by omega)) ?_
                          refine xj_iload C a_T_heard_102 rfl ?_
                          refine xj_icmp_ne C a_T_heard_104 rfl (fun h104 => ?_) (fun h104 => ?_)
                          · exact t97 h29 (by rw [hQ]; simp [h45, h57, h68, h79, h92, h104])
                          · exact t93 (by rw [hQ]; simp [h45, h57, h68, h79, h92, h104])
        exact inner (S.1.1 + 1) 0 (by omega) (by omega)
  exact loop 5 0 (by omega) (by omega) none none
theorem c_T_sent (l : Launch) (G : xj_G) (v : xn_V) (r : Nat) (hr : r < 4) (S : pg_S) (hB : xt_B S.1 v) (hR : xt_R r S.2 v) (k n : Nat) (hk : k < 1000) (hn : n < 2 ^ 31) : xn_M l G 0 0 m_T_sent [.ref (xj_ad G (21, 0, 0)), .int (nI r), .int (nI k), .int (nI n)] v (some (.int (xp_b (pg_sent S.1 r k (pg_vw S.2) n)))) v := by
  have hz := hB.2.1
  have hl : (nI n).toInt64 = lN n := nI_l hn
  refine xn_M_of (by decide) (Nat.le_of_ble_eq_true rfl) (fun E hE C => ?_)
  subst hE
  replace C : xj_C E G prog_9_method_16_code "ThreePhaseGroupModel" 5 0 0 0 0 (some .boolean) := C
  show xn_X E G _ 0 0 0 [some (.ref (xj_ad G (21, 0, 0))), some (.int (nI r)), some (.int (nI k)), some (.int (nI n)), none] [] v
  obtain ⟨P, hP⟩ : ∃ P : Nat → Bool, P = fun i => pg_f S.1 i == r && (!pg_g S.1 i && (pg_k S.1 i == k && (pg_a S.1 i == nI (pg_vw S.2) && pg_b S.1 i == lN n))) := ⟨_, rfl⟩
  have hn : pg_sent S.1 r k (pg_vw S.2) n = (List.range S.1.1).any P := by rw [hP]; rfl
  rw [hn]
  refine xj_iconst (v := nI 0) C a_T_sent_0 (by decide) ?_
  refine xj_istore4 C a_T_sent_1 rfl ?_
  have loop : ∀ N i : Nat, i ≤ S.1.1 → S.1.1 - i < N → (∀ j, j < i → P j = false) → xn_X E G (xj_R E G (fun a' w' => a' = some (.int (xp_b ((List.range S.1.1).any P))) ∧ w' = xn_W v) 0 0) 0 0 3 [some (.ref (xj_ad G (21, 0, 0))), some (.int (nI r)), some (.int (nI k)), some (.int (nI n)), some (.int (nI i))] [] v := by
    intro N
    induction N with
    | zero => intro i _ h; omega
    | succ N ih =>
      intro i hi hN hno
      refine xj_iload C a_T_sent_3 rfl ?_
      refine xj_aload_n C a_T_sent_5 rfl ?_
      refine xn_g_T_count C a_T_sent_6 fl_T_88 ?_
      refine xj_topi hB.z ?_
      refine xj_icmp_ge C a_T_sent_9 rfl (fun h9 => ?_) (fun h9 => ?_)
      · rw [nI_leI (by omega) (by omega)] at h9
        refine xj_iconst (v := nI 0) C a_T_sent_81 (by decide) ?_
        refine xj_zret C a_T_sent_82 rfl ⟨xp_f ?_, rfl⟩
        rw [List.any_eq_false]
        intro j hj
        rw [hno j (by have := List.mem_range.mp hj; omega)]
        decide
      · rw [nI_leI (by omega) (by omega)] at h9
        have hw := hB.2.2.1 i (by omega)
        have step : P i = false → xn_X E G (xj_R E G (fun a' w' => a' = some (.int (xp_b ((List.range S.1.1).any P))) ∧ w' = xn_W v) 0 0) 0 0 75 [some (.ref (xj_ad G (21, 0, 0))), some (.int (nI r)), some (.int (nI k)), some (.int (nI n)), some (.int (nI i))] [] v := by
          intro h
          refine xj_iincN4 C a_T_sent_75 rfl ?_
          refine xj_goto C a_T_sent_78 rfl ?_
          refine ih (i + 1) (by omega) (by omega) (fun j hj => ?_)
          by_cases e : j = i
          · subst e; exact h
          · exact hno j (by omega)
        refine xj_aload_n C a_T_sent_12 rfl ?_
        refine xn_g_T_from C a_T_sent_13 fl_T_13 ?_
        refine xj_iload C a_T_sent_16 rfl ?_
        refine xn_ld_23 C a_T_sent_18 (by first | assumption | omega) ?_
        refine xj_topi (hB.f (by omega)) ?_
        refine xj_iload_n C a_T_sent_19 rfl ?_
        refine xj_icmp_ne C a_T_sent_20 rfl (fun h20 => ?_) (fun h20 => ?_)
        · rw [nI_eq (by omega) (by omega)] at h20
          exact step (by rw [hP]; simp [h20])
        · rw [nI_eq (by omega) (by omega)] at h20
          have h20 : pg_f S.1 i = r := by simpa using h20
          refine xj_aload_n C a_T_sent_23 rfl ?_
          refine xn_g_T_forged C a_T_sent_24 fl_T_26 ?_
          refine xj_iload C a_T_sent_27 rfl ?_
          refine xn_ld_27 C a_T_sent_29 (by first | assumption | omega) ?_
          refine xj_topi (hB.g (by omega)) ?_
          refine xj_if_ne C a_T_sent_30 rfl (fun h30 => ?_) (fun h30 => ?_)
          · rw [xp_b0] at h30
            exact step (by rw [hP]; simp [show pg_g S.1 i = true by simpa using h30])
          · rw [xp_b0] at h30
            have h30 : pg_g S.1 i = false := by simpa using h30
            refine xj_aload_n C a_T_sent_33 rfl ?_
            refine xn_g_T_kind C a_T_sent_34 fl_T_7 ?_
            refine xj_iload C a_T_sent_37 rfl ?_
            refine xn_ld_22 C a_T_sent_39 (by first | assumption | omega) ?_
            refine xj_topi (hB.k (by omega)) ?_
            refine xj_iload_n C a_T_sent_40 rfl ?_
            refine xj_icmp_ne C a_T_sent_41 rfl (fun h41 => ?_) (fun h41 => ?_)
            · rw [nI_eq (by omega) (by omega)] at h41
              exact step (by rw [hP]; simp [h41])
            · rw [nI_eq (by omega) (by omega)] at h41
              have h41 : pg_k S.1 i = k := by simpa using h41
              refine xj_aload_n C a_T_sent_44 rfl ?_
              refine xn_g_T_a C a_T_sent_45 fl_T_16 ?_
              refine xj_iload C a_T_sent_48 rfl ?_
              refine xn_ld_24 C a_T_sent_50 (by first | assumption | omega) ?_
              refine xj_topi (hB.a (by omega)) ?_
              refine xj_aload_n C a_T_sent_51 rfl ?_
              refine xn_g_T_view C a_T_sent_52 fl_T_36 ?_
              refine xj_iload_n C a_T_sent_55 rfl ?_
              refine xn_ld_30 C a_T_sent_56 (by first | assumption | omega) ?_
              refine xj_topi (hR.vw) ?_
              refine xj_icmp_ne C a_T_sent_57 rfl (fun h57 => ?_) (fun h57 => ?_)
              · exact step (by rw [hP]; simp [h57])
              · have h57 : pg_a S.1 i = nI (pg_vw S.2) := by simpa using h57
                refine xj_aload_n C a_T_sent_60 rfl ?_
                refine xn_g_T_b C a_T_sent_61 fl_T_19 ?_
                refine xj_iload C a_T_sent_64 rfl ?_
                refine xn_ld_25 C a_T_sent_66 (by first | assumption | omega) ?_
                refine xj_topl (hB.b (by omega)) ?_
                refine xj_iload_n C a_T_sent_67 rfl ?_
                refine xj_i2l C a_T_sent_68 ?_
                refine xj_topl hl ?_
                refine xj_lcmp C a_T_sent_69 ?_
                refine xj_if_ne C a_T_sent_70 rfl (fun h70 => ?_) (fun h70 => ?_)
                · rw [xp_cmp_ne] at h70
                  exact step (by rw [hP]; simp [h70])
                · rw [xp_cmp_ne] at h70
                  have h70 : pg_b S.1 i = lN n := by simpa using h70
                  refine xj_iconst (v := nI 1) C a_T_sent_73 (by decide) ?_
                  refine xj_zret C a_T_sent_74 rfl ⟨xp_t ?_, rfl⟩
                  rw [List.any_eq_true]
                  exact ⟨i, List.mem_range.mpr (by omega), by rw [hP]; simp [h20, h30, h41, h57, h70]⟩
  exact loop (S.1.1 + 1) 0 (by omega) (by omega) (fun j hj => absurd hj (Nat.not_lt_zero j))
theorem c_T_waits (l : Launch) (G : xj_G) (v : xn_V) (r : Nat) (hr : r < 4) (S : pg_S) (hB : xt_B S.1 v) (hR : xt_R r S.2 v) (m : Nat) (hm : m < S.1.1) : xn_M l G 0 0 m_T_waits [.ref (xj_ad G (21, 0, 0)), .int (nI r), .int (nI m)] v (some (.int (xp_b (pg_wt S m)))) v := by
  have hz := hB.2.1
  have hw := hB.2.2.1 m hm
  have h01 := (hR.2.2.2 m).2
  refine xn_M_of (by decide) (Nat.le_of_ble_eq_true rfl) (fun E hE C => ?_)
  subst hE
  replace C : xj_C E G prog_9_method_17_code "ThreePhaseGroupModel" 4 0 0 0 0 (some .boolean) := C
  show xn_X E G _ 0 0 0 [some (.ref (xj_ad G (21, 0, 0))), some (.int (nI r)), some (.int (nI m)), none] [] v
  have no : pg_wt S m = false → ∀ z : Option Value, xn_X E G (xj_R E G (fun a' w' => a' = some (.int (xp_b (pg_wt S m))) ∧ w' = xn_W v) 0 0) 0 0 65 [some (.ref (xj_ad G (21, 0, 0))), some (.int (nI r)), some (.int (nI m)), z] [] v := by
    intro h z
    refine xj_iconst (v := nI 0) C a_T_waits_65 (by decide) ?_
    exact xj_zret C a_T_waits_66 rfl ⟨xp_f h, rfl⟩
  refine xj_bipush (v := nI 16) C a_T_waits_0 (by decide) ?_
  refine xj_bipush (v := nI 12) C a_T_waits_2 (by decide) ?_
  refine xj_aload_n C a_T_waits_4 rfl ?_
  refine xn_g_T_from C a_T_waits_5 fl_T_13 ?_
  refine xj_iload_n C a_T_waits_8 rfl ?_
  refine xn_ld_23 C a_T_waits_9 (by first | assumption | omega) ?_
  refine xj_topi (hB.f hm) ?_
  refine xj_iconst (v := nI 4) C a_T_waits_10 (by decide) ?_
  refine xj_isub C a_T_waits_11 ?_
  refine xj_imul C a_T_waits_12 ?_
  refine xj_iadd C a_T_waits_13 ?_
  refine xj_istore3 C a_T_waits_14 rfl ?_
  refine xj_aload_n C a_T_waits_15 rfl ?_
  refine xn_g_T_kind C a_T_waits_16 fl_T_7 ?_
  refine xj_iload_n C a_T_waits_19 rfl ?_
  refine xn_ld_22 C a_T_waits_20 (by first | assumption | omega) ?_
  refine xj_topi (hB.k hm) ?_
  refine xj_if_ne C a_T_waits_21 rfl (fun h21 => ?_) (fun h21 => ?_)
  · rw [xp_nz (by omega)] at h21
    exact no (by unfold pg_wt; simp [h21]) _
  · rw [xp_nz (by omega)] at h21
    have h21 : pg_k S.1 m = 0 := by simpa using h21
    have h4 : 4 ≤ pg_f S.1 m := hw.2.2.mp h21
    have esh : nI 16 + nI 12 * (nI (pg_f S.1 m) - nI 4) = nI (16 + 12 * (pg_f S.1 m - 4)) := by
      rw [pk_sub h4, pk_mul, nI_add]
    rw [esh]
    refine xj_aload_n C a_T_waits_24 rfl ?_
    refine xn_g_T_known C a_T_waits_25 fl_T_33 ?_
    refine xj_sipush (v := nI 200) C a_T_waits_28 (by decide) ?_
    refine xj_iload_n C a_T_waits_31 rfl ?_
    refine xj_imul C a_T_waits_32 ?_
    refine xj_topi (pk_mul 200 r) ?_
    refine xj_iload_n C a_T_waits_33 rfl ?_
    refine xj_iadd C a_T_waits_34 ?_
    refine xj_topi (nI_add _ m) ?_
    refine xn_ld_29 C a_T_waits_35 (by first | assumption | omega) ?_
    refine xj_topi (hR.kn (by omega)) ?_
    refine xj_if_eq C a_T_waits_36 rfl (fun h36 => ?_) (fun h36 => ?_)
    · rw [xp_nz (by omega)] at h36
      exact no (by unfold pg_wt; simp [h36]) _
    · rw [xp_nz (by omega)] at h36
      have h36 : pg_kn S.2 m = 1 := by omega
      refine xj_aload_n C a_T_waits_39 rfl ?_
      refine xn_g_T_a C a_T_waits_40 fl_T_16 ?_
      refine xj_iload_n C a_T_waits_43 rfl ?_
      refine xn_ld_24 C a_T_waits_44 (by first | assumption | omega) ?_
      refine xj_topi (hB.a hm) ?_
      refine xj_aload_n C a_T_waits_45 rfl ?_
      refine xn_g_T_state C a_T_waits_46 fl_T_48 ?_
      refine xj_iload_n C a_T_waits_49 rfl ?_
      refine xn_ld_34 C a_T_waits_50 (by first | assumption | omega) ?_
      refine xj_topl (hR.st) ?_
      refine xj_iload_n C a_T_waits_51 rfl ?_
      refine xj_lshr C a_T_waits_52 ?_
      refine xj_ldc2 C a_T_waits_53 kl_T_107 ?_
      refine xj_land C a_T_waits_56 ?_
      refine xj_topl (y := lN (pg_ts S.2.2 (pg_f S.1 m - 4))) ?_ ?_
      · rw [xp_255, xb_ash _ (by omega) (by omega)]
        rfl
      refine xj_l2i C a_T_waits_57 ?_
      refine xj_topi (lN_i _) ?_
      refine xj_icmp_le C a_T_waits_58 rfl (fun h58 => ?_) (fun h58 => ?_)
      · refine no ?_ _
        unfold pg_wt
        rw [decide_eq_false (Int32.not_lt.mpr h58), Bool.and_false, Bool.and_false]
      · refine xj_iconst (v := nI 1) C a_T_waits_61 (by decide) ?_
        refine xj_goto C a_T_waits_62 rfl ?_
        refine xj_zret C a_T_waits_66 rfl ⟨xp_t ?_, rfl⟩
        unfold pg_wt
        rw [h21, h36, decide_eq_true (Int32.not_le.mp h58)]
        rfl
theorem xp_outR (r : Int32) : xp_b (decide (r < nI 0 ∨ ¬ r ≤ nI 3)) = 0 ↔ (xp_at 4 r).isSome = true := by
  rw [xp_b0, ← xp_at_d 4 (by decide), decide_eq_false_iff_not, decide_eq_true_eq, not_or, Classical.not_not]
  have h3 : (nI 3).toInt = 3 := by decide
  have h4 : (nI 4).toInt = 4 := by decide
  rw [Int32.le_iff_toInt_le, Int32.le_iff_toInt_le (x := nI 4), h3, h4]
  exact and_congr Iff.rfl (by omega)
theorem c_T_waiting (l : Launch) (G : xj_G) (v : xn_V) (r : Nat) (hr : r < 4) (S : pg_S) (hB : xt_B S.1 v) (hR : xt_R r S.2 v) : xn_M l G 1 23 m_T_waiting [.ref (xj_ad G (21, 0, 0)), .int (nI r)] v (some (.int (nI (pg_wn S)))) v := by
  have hz := hB.2.1
  have hwn : pg_wn S = xp_c (pg_wt S) S.1.1 := rfl
  rw [hwn]
  refine xn_M_of (by decide) (Nat.le_of_ble_eq_true rfl) (fun E hE C => ?_)
  subst hE
  replace C : xj_C E G prog_9_method_18_code "ThreePhaseGroupModel" 4 1 23 0 0 (some .int) := C
  show xn_X E G _ 0 0 0 [some (.ref (xj_ad G (21, 0, 0))), some (.int (nI r)), none, none] [] v
  refine xj_iload_n C a_T_waiting_0 rfl ?_
  refine xj_iconst (v := nI 0) C a_T_waiting_1 (by decide) ?_
  refine xj_iconst (v := nI 3) C a_T_waiting_2 (by decide) ?_
  refine xn_callS3i C a_T_waiting_3 (c_T_outside _ _ v (nI r) (nI 0) (nI 3)) ms_T_outside lk_T_95 ⟨by decide, by decide⟩ rfl (Nat.le_of_ble_eq_true rfl) ⟨Nat.le_refl _, Nat.le_refl _⟩ ?_
  refine xj_if_eq C a_T_waiting_6 rfl (fun _ => ?_) (fun h => absurd ((xp_outR (nI r)).mpr (by rw [xp_at_some (by decide) hr]; rfl)) h)
  refine xj_iconst (v := nI 0) C a_T_waiting_11 (by decide) ?_
  refine xj_istore2 C a_T_waiting_12 rfl ?_
  refine xj_iconst (v := nI 0) C a_T_waiting_13 (by decide) ?_
  refine xj_istore3 C a_T_waiting_14 rfl ?_
  have loop : ∀ N i : Nat, i ≤ S.1.1 → S.1.1 - i < N → xn_X E G (xj_R E G (fun a' w' => a' = some (.int (nI (xp_c (pg_wt S) S.1.1))) ∧ w' = xn_W v) 0 0) 0 0 15 [some (.ref (xj_ad G (21, 0, 0))), some (.int (nI r)), some (.int (nI (xp_c (pg_wt S) i))), some (.int (nI i))] [] v := by
    intro N
    induction N with
    | zero => intro i _ h; omega
    | succ N ih =>
      intro i hi hN
      refine xj_iload_n C a_T_waiting_15 rfl ?_
      refine xj_aload_n C a_T_waiting_16 rfl ?_
      refine xn_g_T_count C a_T_waiting_17 fl_T_88 ?_
      refine xj_topi hB.z ?_
      refine xj_icmp_ge C a_T_waiting_20 rfl (fun h20 => ?_) (fun h20 => ?_)
      · rw [nI_leI (by omega) (by omega)] at h20
        have : i = S.1.1 := by omega
        subst this
        refine xj_iload_n C a_T_waiting_41 rfl ?_
        refine xj_iret C a_T_waiting_42 ?_
        exact ⟨rfl, rfl⟩
      · rw [nI_leI (by omega) (by omega)] at h20
        have nxt := ih (i + 1) (by omega) (by omega)
        rw [xp_c_s (pg_wt S) i] at nxt
        refine xj_aload_n C a_T_waiting_23 rfl ?_
        refine xj_iload_n C a_T_waiting_24 rfl ?_
        refine xj_iload_n C a_T_waiting_25 rfl ?_
        refine xn_callV2i C a_T_waiting_26 (c_T_waits _ _ v r hr S hB hR i (by omega)) mv_T_waits lk_T_131 ⟨rfl, rfl, rfl⟩ xj_ok21 ⟨by decide, by decide⟩ rfl (Nat.le_of_ble_eq_true rfl) ⟨Nat.le_refl _, Nat.le_refl _⟩ ?_
        refine xj_if_eq C a_T_waiting_29 rfl (fun h29 => ?_) (fun h29 => ?_)
        · rw [xp_b0] at h29
          rw [if_neg (by rw [h29]; decide)] at nxt
          refine xj_iincN3 C a_T_waiting_35 rfl ?_
          refine xj_goto C a_T_waiting_38 rfl ?_
          exact nxt
        · rw [xp_b0] at h29
          rw [if_pos (by simpa using h29)] at nxt
          refine xj_iincN2 C a_T_waiting_32 rfl ?_
          refine xj_iincN3 C a_T_waiting_35 rfl ?_
          refine xj_goto C a_T_waiting_38 rfl ?_
          exact nxt
  exact loop (S.1.1 + 1) 0 (by omega) (by omega)
