/-! leaves with loops -/
theorem c_N_has (l : Launch) (G : xj_G) (v : xn_V) (r i z : Nat) (hr : r < 4) (hi : i < 2) (hz : v.1 16 r i 1 = nI z) (hz2 : z ≤ 256) (m : Int32) : xn_M l G 0 0 m_N_has [.ref (xj_ad G (16, r, i)), .int m] v (some (.int (xp_b ((List.range z).any (fun j => v.1 17 r i j == m))))) v := by
  refine xn_M_of (by decide) (Nat.le_of_ble_eq_true rfl) (fun E hE C => ?_)
  subst hE
  replace C : xj_C E G prog_4_method_2_code "ThreePhaseGroup$Numbers" 3 0 0 0 0 (some .boolean) := C
  show xn_X E G _ 0 0 0 [some (.ref (xj_ad G (16, r, i))), some (.int m), none] [] v
  generalize hA : (some (Value.int (xp_b ((List.range z).any (fun j => v.1 17 r i j == m)))) : Option Value) = A
  refine xj_iconst (v := nI 0) C a_N_has_0 (by decide) ?_
  refine xj_istore2 C a_N_has_1 rfl ?_
  have loop : ∀ n j : Nat, j ≤ z → z - j < n → (∀ k, k < j → ¬ v.1 17 r i k = m) → xn_X E G (xj_R E G (fun a' w' => a' = A ∧ w' = xn_W v) 0 0) 0 0 2 [some (.ref (xj_ad G (16, r, i))), some (.int m), some (.int (nI j))] [] v := by
    intro n
    induction n with
    | zero => intro j _ h; omega
    | succ n ih =>
      intro j hj hn hk
      refine xj_iload_n C a_N_has_2 rfl ?_
      refine xj_aload_n C a_N_has_3 rfl ?_
      refine xn_g_N_size C a_N_has_4 fl_N_15 (by first | assumption | omega) (by first | assumption | omega) ?_
      refine xj_topi hz ?_
      refine xj_icmp_ge C a_N_has_7 rfl (fun h7 => ?_) (fun h7 => ?_)
      · rw [nI_leI (by omega) (by omega)] at h7
        have : j = z := by omega
        subst this
        refine xj_iconst (v := nI 0) C a_N_has_28 (by decide) ?_
        refine xj_zret C a_N_has_29 rfl ?_
        refine ⟨?_, rfl⟩
        rw [← hA]
        refine xp_f ?_
        rw [List.any_eq_false]
        intro k hk2
        simpa using hk k (List.mem_range.mp hk2)
      · rw [nI_leI (by omega) (by omega)] at h7
        refine xj_aload_n C a_N_has_10 rfl ?_
        refine xn_g_N_at C a_N_has_11 fl_N_9 (by first | assumption | omega) (by first | assumption | omega) ?_
        refine xj_iload_n C a_N_has_14 rfl ?_
        refine xn_ld_17 C a_N_has_15 (by first | assumption | omega) (by first | assumption | omega) (by first | assumption | omega) ?_
        refine xj_iload_n C a_N_has_16 rfl ?_
        refine xj_icmp_ne C a_N_has_17 rfl (fun h17 => ?_) (fun h17 => ?_)
        · refine xj_iincN2 C a_N_has_22 rfl ?_
          refine xj_goto C a_N_has_25 rfl ?_
          exact ih (j + 1) (by omega) (by omega) (lt_s hk h17)
        · refine xj_iconst (v := nI 1) C a_N_has_20 (by decide) ?_
          refine xj_zret C a_N_has_21 rfl ?_
          refine ⟨?_, rfl⟩
          rw [← hA]
          refine xp_t ?_
          rw [List.any_eq_true]
          exact ⟨j, List.mem_range.mpr (by omega), by simpa using h17⟩
  exact loop (z + 1) 0 (by omega) (by omega) (fun k h => absurd h (Nat.not_lt_zero k))
/-- a number is added to a row, if there is room and it isn't there -/
def xn_add (v : xn_V) (r i z : Nat) (m : Int32) : xn_V := if z < 256 ∧ (List.range z).any (fun j => v.1 17 r i j == m) = false then xn_uI (xn_uI v 17 r i z m) 16 r i 1 (nI (z + 1)) else v
theorem c_N_add (l : Launch) (G : xj_G) (v : xn_V) (r i z : Nat) (hr : r < 4) (hi : i < 2) (hz : v.1 16 r i 1 = nI z) (hz2 : z ≤ 256) (m : Int32) : xn_M l G 1 22 m_N_add [.ref (xj_ad G (16, r, i)), .int m] v none (xn_add v r i z m) := by
  refine xn_M_of (by decide) (Nat.le_of_ble_eq_true rfl) (fun E hE C => ?_)
  subst hE
  replace C : xj_C E G prog_4_method_3_code "ThreePhaseGroup$Numbers" 2 1 22 0 0 none := C
  show xn_X E G _ 0 0 0 [some (.ref (xj_ad G (16, r, i))), some (.int m)] [] v
  refine xj_aload_n C a_N_add_0 rfl ?_
  refine xn_g_N_size C a_N_add_1 fl_N_15 (by first | assumption | omega) (by first | assumption | omega) ?_
  refine xj_topi hz ?_
  refine xj_sipush (v := nI 256) C a_N_add_4 (by decide) ?_
  refine xj_icmp_ge C a_N_add_7 rfl (fun h7 => ?_) (fun h7 => ?_)
  · rw [nI_leI (by omega) (by omega)] at h7
    refine xj_vret C a_N_add_38 ?_
    exact ⟨rfl, by unfold xn_add; rw [if_neg (by omega)]⟩
  · rw [nI_leI (by omega) (by omega)] at h7
    refine xj_aload_n C a_N_add_10 rfl ?_
    refine xj_iload_n C a_N_add_11 rfl ?_
    refine xn_callV1i C a_N_add_12 (c_N_has _ _ v r i z hr hi hz hz2 m) mv_N_has lk_N_19 ⟨rfl, rfl, rfl⟩ (xj_ok16 (by first | assumption | omega) (by first | assumption | omega)) ⟨by decide, by decide⟩ rfl (Nat.le_of_ble_eq_true rfl) ⟨Nat.le_refl _, Nat.le_refl _⟩ ?_
    refine xj_if_ne C a_N_add_15 rfl (fun h15 => ?_) (fun h15 => ?_)
    · refine xj_vret C a_N_add_38 ?_
      exact ⟨rfl, by unfold xn_add; rw [if_neg]; rintro ⟨-, h⟩; exact h15 (xp_b0.mpr h)⟩
    · rw [xp_b0] at h15
      refine xj_aload_n C a_N_add_18 rfl ?_
      refine xn_g_N_at C a_N_add_19 fl_N_9 (by first | assumption | omega) (by first | assumption | omega) ?_
      refine xj_aload_n C a_N_add_22 rfl ?_
      refine xn_g_N_size C a_N_add_23 fl_N_15 (by first | assumption | omega) (by first | assumption | omega) ?_
      refine xj_topi hz ?_
      refine xj_iload_n C a_N_add_26 rfl ?_
      refine xn_st_17 C a_N_add_27 hr hi (by omega) ?_
      refine xj_aload_n C a_N_add_28 rfl ?_
      refine xj_dup C a_N_add_29 rfl ?_
      refine xn_g_N_size C a_N_add_30 fl_N_15 (by first | assumption | omega) (by first | assumption | omega) ?_
      refine xj_topi (y := nI z) (by simp [xn_uI, hz]) ?_
      refine xj_iconst (v := nI 1) C a_N_add_33 (by decide) ?_
      refine xj_iadd C a_N_add_34 ?_
      refine xj_topi (nI_add z 1) ?_
      refine xn_p_N_size C a_N_add_35 fl_N_15 (by first | assumption | omega) (by first | assumption | omega) ?_
      refine xj_vret C a_N_add_38 ?_
      exact ⟨rfl, by unfold xn_add; rw [if_pos ⟨by omega, h15⟩]⟩
def xn_fp (v : xn_V) (r i : Nat) : xn_V := xn_uI (xn_uI v 13 r i 3 (-2)) 13 r i 4 (nI 0)
theorem c_S_forgetProofs (l : Launch) (G : xj_G) (v : xn_V) (r i : Nat) (hr : r < 4) (hi : i < 4) : xn_M l G 0 0 m_S_forgetProofs [.ref (xj_ad G (13, r, i))] v none (xn_fp v r i) := by
  refine xn_M_of (by decide) (Nat.le_of_ble_eq_true rfl) (fun E hE C => ?_)
  subst hE
  replace C : xj_C E G prog_7_method_3_code "ThreePhaseGroup$Slot" 1 0 0 0 0 none := C
  show xn_X E G _ 0 0 0 [some (.ref (xj_ad G (13, r, i)))] [] v
  refine xj_aload_n C a_S_forgetProofs_0 rfl ?_
  refine xj_bipush (v := -2) C a_S_forgetProofs_1 (by decide) ?_
  refine xn_p_S_decided C a_S_forgetProofs_3 fl_S_18 (by first | assumption | omega) (by first | assumption | omega) ?_
  refine xj_aload_n C a_S_forgetProofs_6 rfl ?_
  refine xj_iconst (v := nI 0) C a_S_forgetProofs_7 (by decide) ?_
  refine xn_p_S_claim C a_S_forgetProofs_8 fl_S_22 (by first | assumption | omega) (by first | assumption | omega) ?_
  refine xj_vret C a_S_forgetProofs_11 ?_
  exact ⟨rfl, rfl⟩
/-- a slot's notes and its accepted request are gone -/
def xn_fw (v : xn_V) (r i s : Nat) : xn_V := (fun k' r' i' x' => if k' = 13 ∧ r' = r ∧ i' = i ∧ x' = 2 then -2 else v.1 k' r' i' x', fun k' r' i' x' => if (k' = 14 ∨ k' = 15) ∧ r' = r ∧ i' = i ∧ x' < s then 1099511627776 else v.2 k' r' i' x')
theorem xn_fw_0 (v : xn_V) (r i : Nat) : xn_uI v 13 r i 2 (-2) = xn_fw v r i 0 := by
  unfold xn_uI xn_fw
  congr 1
  funext k' r' i' x'
  rw [if_neg (by omega)]
theorem xn_fw_s (v : xn_V) (r i s : Nat) : xn_uJ (xn_uJ (xn_fw v r i s) 14 r i s 1099511627776) 15 r i s 1099511627776 = xn_fw v r i (s + 1) := by
  unfold xn_uJ xn_fw
  congr 1
  funext k' r' i' x'
  dsimp only
  by_cases h1 : k' = 15 ∧ r' = r ∧ i' = i ∧ x' = s
  · rw [if_pos h1, if_pos (by omega)]
  · rw [if_neg h1]
    by_cases h2 : k' = 14 ∧ r' = r ∧ i' = i ∧ x' = s
    · rw [if_pos h2, if_pos (by omega)]
    · rw [if_neg h2]
      by_cases h3 : (k' = 14 ∨ k' = 15) ∧ r' = r ∧ i' = i ∧ x' < s
      · rw [if_pos h3, if_pos (by omega)]
      · rw [if_neg h3, if_neg (by omega)]
theorem c_S_forgetView (l : Launch) (G : xj_G) (v : xn_V) (r i : Nat) (hr : r < 4) (hi : i < 4) : xn_M l G 0 0 m_S_forgetView [.ref (xj_ad G (13, r, i))] v none (xn_fw v r i 4) := by
  refine xn_M_of (by decide) (Nat.le_of_ble_eq_true rfl) (fun E hE C => ?_)
  subst hE
  replace C : xj_C E G prog_7_method_2_code "ThreePhaseGroup$Slot" 2 0 0 0 0 none := C
  show xn_X E G _ 0 0 0 [some (.ref (xj_ad G (13, r, i))), none] [] v
  refine xj_aload_n C a_S_forgetView_0 rfl ?_
  refine xj_bipush (v := -2) C a_S_forgetView_1 (by decide) ?_
  refine xn_p_S_accepted C a_S_forgetView_3 fl_S_28 (by first | assumption | omega) (by first | assumption | omega) ?_
  refine xj_as (w2 := xn_W (xn_fw v r i 0)) (by rw [xn_fw_0]) ?_
  refine xj_iconst (v := nI 0) C a_S_forgetView_6 (by decide) ?_
  refine xj_istore1 C a_S_forgetView_7 rfl ?_
  have loop : ∀ n s : Nat, s ≤ 4 → 4 - s < n → xn_X E G (xj_R E G (fun a' w' => a' = none ∧ w' = xn_W (xn_fw v r i 4)) 0 0) 0 0 8 [some (.ref (xj_ad G (13, r, i))), some (.int (nI s))] [] (xn_fw v r i s) := by
    intro n
    induction n with
    | zero => intro s _ h; omega
    | succ n ih =>
      intro s hs hn
      refine xj_iload_n C a_S_forgetView_8 rfl ?_
      refine xj_iconst (v := nI 4) C a_S_forgetView_9 (by decide) ?_
      refine xj_icmp_ge C a_S_forgetView_10 rfl (fun h10 => ?_) (fun h10 => ?_)
      · rw [nI_leI (by omega) (by omega)] at h10
        have : s = 4 := by omega
        subst this
        refine xj_vret C a_S_forgetView_37 ?_
        exact ⟨rfl, rfl⟩
      · rw [nI_leI (by omega) (by omega)] at h10
        refine xj_aload_n C a_S_forgetView_13 rfl ?_
        refine xn_g_S_prepares C a_S_forgetView_14 fl_S_9 (by first | assumption | omega) (by first | assumption | omega) ?_
        refine xj_iload_n C a_S_forgetView_17 rfl ?_
        refine xj_ldc2 C a_S_forgetView_18 kl_S_31 ?_
        refine xn_st_14 C a_S_forgetView_21 (by first | assumption | omega) (by first | assumption | omega) (by first | assumption | omega) ?_
        refine xj_aload_n C a_S_forgetView_22 rfl ?_
        refine xn_g_S_commits C a_S_forgetView_23 fl_S_15 (by first | assumption | omega) (by first | assumption | omega) ?_
        refine xj_iload_n C a_S_forgetView_26 rfl ?_
        refine xj_ldc2 C a_S_forgetView_27 kl_S_31 ?_
        refine xn_st_15 C a_S_forgetView_30 (by first | assumption | omega) (by first | assumption | omega) (by first | assumption | omega) ?_
        refine xj_as (w2 := xn_W (xn_fw v r i (s + 1))) (by rw [xn_fw_s]) ?_
        refine xj_iincN1 C a_S_forgetView_31 rfl ?_
        refine xj_goto C a_S_forgetView_34 rfl ?_
        exact ih (s + 1) (by omega) (by omega)
  exact loop 5 0 (by omega) (by omega)
