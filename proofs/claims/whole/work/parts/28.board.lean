/-! the orders due -/
/-- the class's way to the backing request is the document's -/
def pg_bke (B : pg_B) : Prop := ∀ (w : Nat) (n : Int64) (m : Nat), m ≤ B.1 → pg_bkC B w n m = pg_back B w n m
theorem xp_ne2 {x : Nat} (h : x < 2 ^ 31) : ¬ nI x = -2 := by
  intro e
  have h1 := nI_toInt h
  rw [e] at h1
  have h2 : (-2 : Int32).toInt = -2 := by decide
  rw [h2] at h1
  omega
theorem pg_tp_vote {B : pg_B} {y : Int64} {n : Nat} : ∀ {k : Nat}, 0 < (pg_tp B y n k).1 → ∃ i, i < k ∧ (pg_tp B y n k).2 = pg_vt y i ∧ (pg_tp B y n k).1 = pg_cm B (pg_vt y i) n := by
  intro k
  induction k with
  | zero => intro h; exact absurd h (Nat.lt_irrefl _)
  | succ k ih =>
    have hs : pg_tp B y n (k + 1) = if (pg_tp B y n k).1 < pg_cm B (pg_vt y k) n then (pg_cm B (pg_vt y k) n, pg_vt y k) else pg_tp B y n k := rfl
    rw [hs]
    split
    · intro _; exact ⟨k, by omega, rfl, rfl⟩
    · intro h
      obtain ⟨i, h1, h2⟩ := ih h
      exact ⟨i, by omega, h2⟩
theorem pg_cm_lt (B : pg_B) (x n : Nat) : pg_cm B x n < 32 := by
  unfold pg_cm
  split
  · exact Nat.mod_lt _ (by decide)
  · decide
def pg_cdl (B : pg_B) (y : Int64) (j : Nat) (lt : Bool) : Int32 :=
  if 0 < (pg_tp B y (pg_st B y + 1 + j) 3).1 then pg_back B ((pg_tp B y (pg_st B y + 1 + j) 3).1 - 1) (lN (pg_st B y + 1 + j)) (pg_tp B y (pg_st B y + 1 + j) 3).2 + 2
  else if lt then 1 else 0
theorem pg_od_eq (B : pg_B) (y : Int64) (t : Nat → Bool) (ht : ∀ j, t j = decide (0 < (pg_tp B y (pg_st B y + 1 + j) 3).1)) : pg_od B y = (((0 ||| pg_cdl B y 3 false <<< (nI 24 &&& 31)) ||| pg_cdl B y 2 (t 3) <<< (nI 16 &&& 31)) ||| pg_cdl B y 1 (t 3 || t 2) <<< (nI 8 &&& 31)) ||| pg_cdl B y 0 ((t 3 || t 2) || t 1) <<< (nI 0 &&& 31) := by
  have e24 : (nI 24 &&& 31 : Int32) = 24 := by decide
  have e16 : (nI 16 &&& 31 : Int32) = 16 := by decide
  have e8 : (nI 8 &&& 31 : Int32) = 8 := by decide
  have e0 : (nI 0 &&& 31 : Int32) = 0 := by decide
  have hr : List.range 4 = [0, 1, 2, 3] := by decide
  have c3 : pg_cd B y 3 = pg_cdl B y 3 false := by unfold pg_cd pg_cdl; rw [hr]; simp
  have c2 : pg_cd B y 2 = pg_cdl B y 2 (t 3) := by unfold pg_cd pg_cdl; rw [hr, ht 3]; simp
  have c1 : pg_cd B y 1 = pg_cdl B y 1 (t 3 || t 2) := by unfold pg_cd pg_cdl; rw [hr, ht 3, ht 2]; simp [or_comm]
  have c0 : pg_cd B y 0 = pg_cdl B y 0 ((t 3 || t 2) || t 1) := by unfold pg_cd pg_cdl; rw [hr, ht 3, ht 2, ht 1]; simp [or_comm, or_left_comm]
  unfold pg_od
  rw [c3, c2, c1, c0, e24, e16, e8, e0]
theorem c_B_ordersDue (l : Launch) (G : xj_G) (v : xn_V) (B : pg_B) (hB : xc_B B v) (hbk : pg_bke B) (y : Int64) (hy : ∀ k, k < 3 → pg_vt y k < B.1 ∧ ∃ p, p < 900 ∧ pg_b B (pg_vt y k) = lN p) : xn_M l G 2 49 m_B_ordersDue [.ref (xj_ad G (1, 0, 0)), .int y.toInt32] v (some (.int (pg_od B y))) v := by
  have hz := hB.2.1
  have hy2 : ∀ k, k < 3 → pg_vt y k < B.1 ∧ ∃ p, p < 1000 ∧ pg_b B (pg_vt y k) = lN p := fun k hk => by
    obtain ⟨h1, p, h2, h3⟩ := hy k hk
    exact ⟨h1, p, by omega, h3⟩
  have hnb : ∀ k, k < 3 → pg_nb B (pg_vt y k) < 900 := by
    intro k hk
    obtain ⟨-, p, hp, e⟩ := hy k hk
    unfold pg_nb
    rw [e, pk_lT (by omega)]
    exact hp
  have hst : pg_st B y < 900 := by
    have h0 := hnb 0 (by omega)
    have h1 := hnb 1 (by omega)
    have h2 := hnb 2 (by omega)
    unfold pg_st
    omega
  refine xn_M_of (by decide) (Nat.le_of_ble_eq_true rfl) (fun E hE C => ?_)
  subst hE
  replace C : xj_C E G prog_2_method_17_code "ThreePhaseGroup$Board" 9 2 49 0 0 (some .int) := C
  show xn_X E G _ 0 0 0 [some (.ref (xj_ad G (1, 0, 0))), some (.int y.toInt32), none, none, none, none, none, none, none] [] v
  obtain ⟨t, ht⟩ : ∃ t : Nat → Bool, ∀ j, t j = decide (0 < (pg_tp B y (pg_st B y + 1 + j) 3).1) := ⟨_, fun _ => rfl⟩
  rw [pg_od_eq B y t ht]
  generalize hA : (some (Value.int ((((0 ||| pg_cdl B y 3 false <<< (nI 24 &&& 31)) ||| pg_cdl B y 2 (t 3) <<< (nI 16 &&& 31)) ||| pg_cdl B y 1 (t 3 || t 2) <<< (nI 8 &&& 31)) ||| pg_cdl B y 0 ((t 3 || t 2) || t 1) <<< (nI 0 &&& 31))) : Option Value) = A
  refine xj_aload_n C a_B_ordersDue_0 rfl ?_
  refine xj_iload_n C a_B_ordersDue_1 rfl ?_
  refine xn_callV1i C a_B_ordersDue_2 (c_B_startOf _ _ v B hB y hy2) mv_B_startOf lk_B_88 ⟨rfl, rfl, rfl⟩ xj_ok1 ⟨by decide, by decide⟩ rfl (Nat.le_of_ble_eq_true rfl) ⟨Nat.le_refl _, Nat.le_refl _⟩ ?_
  refine xj_istore2 C a_B_ordersDue_5 rfl ?_
  refine xj_iconst (v := nI 0) C a_B_ordersDue_6 (by decide) ?_
  refine xj_istore3 C a_B_ordersDue_7 rfl ?_
  refine xj_iconst (v := nI 0) C a_B_ordersDue_8 (by decide) ?_
  refine xj_istore4 C a_B_ordersDue_9 rfl ?_
  refine xj_iconst (v := nI 3) C a_B_ordersDue_11 (by decide) ?_
  refine xj_istore5 C a_B_ordersDue_12 rfl ?_
  have body : ∀ (j : Nat) (o : Int32) (lt : Bool), j < 4 → (∀ z1 z2 z3 : Option Value, xj_nl z1 = true → xj_nl z2 = true → xj_nl z3 = true → xn_X E G (xj_R E G (fun a' w' => a' = A ∧ w' = xn_W v) 0 0) 0 0 14 [some (.ref (xj_ad G (1, 0, 0))), some (.int y.toInt32), some (.int (nI (pg_st B y))), some (.int (o ||| pg_cdl B y j lt <<< (nI (8 * j) &&& 31))), some (.int (xp_b (lt || t j))), some (.int (nI j + (-1))), z1, z2, z3] [] v) → ∀ z1 z2 z3 : Option Value, xj_nl z1 = true → xj_nl z2 = true → xj_nl z3 = true → xn_X E G (xj_R E G (fun a' w' => a' = A ∧ w' = xn_W v) 0 0) 0 0 14 [some (.ref (xj_ad G (1, 0, 0))), some (.int y.toInt32), some (.int (nI (pg_st B y))), some (.int o), some (.int (xp_b lt)), some (.int (nI j)), z1, z2, z3] [] v := by
    intro j o lt hj kk z1 z2 z3 hz1 hz2 hz3
    have hcl : (pg_tp B y (pg_st B y + 1 + j) 3).1 < 32 := by
      by_cases e : 0 < (pg_tp B y (pg_st B y + 1 + j) 3).1
      · obtain ⟨i, -, -, h⟩ := pg_tp_vote e
        rw [h]
        exact pg_cm_lt _ _ _
      · omega
    refine xj_iload C a_B_ordersDue_14 rfl ?_
    refine xj_if_lt C a_B_ordersDue_16 rfl (fun h16 => ?_) (fun h16 => ?_)
    · exact absurd h16 (nI_pos (by omega))
    · refine xj_iload_n C a_B_ordersDue_19 rfl ?_
      refine xj_iconst (v := nI 1) C a_B_ordersDue_20 (by decide) ?_
      refine xj_iadd C a_B_ordersDue_21 ?_
      refine xj_iload C a_B_ordersDue_22 rfl ?_
      refine xj_iadd C a_B_ordersDue_24 ?_
      refine xj_topi (y := nI (pg_st B y + 1 + j)) (by rw [nI_add, nI_add]) ?_
      refine xj_istore6 C a_B_ordersDue_25 rfl ?_
      have fin : ∀ (x : Int32) (z : Option Value), xj_nl z = true → x + nI 2 = pg_cdl B y j lt → xn_X E G (xj_R E G (fun a' w' => a' = A ∧ w' = xn_W v) 0 0) 0 0 79 [some (.ref (xj_ad G (1, 0, 0))), some (.int y.toInt32), some (.int (nI (pg_st B y))), some (.int o), some (.int (xp_b (lt || t j))), some (.int (nI j)), some (.int (nI (pg_st B y + 1 + j))), some (.int x), z] [] v := by
        intro x z hzz hx
        refine xj_iload_n C a_B_ordersDue_79 rfl ?_
        refine xj_iload C a_B_ordersDue_80 rfl ?_
        refine xj_iconst (v := nI 2) C a_B_ordersDue_82 (by decide) ?_
        refine xj_iadd C a_B_ordersDue_83 ?_
        refine xj_bipush (v := nI 8) C a_B_ordersDue_84 (by decide) ?_
        refine xj_iload C a_B_ordersDue_86 rfl ?_
        refine xj_imul C a_B_ordersDue_88 ?_
        refine xj_topi (pk_mul 8 j) ?_
        refine xj_stk (by rw [hx]) ?_
        refine xj_ishl C a_B_ordersDue_89 ?_
        refine xj_ior C a_B_ordersDue_90 ?_
        refine xj_istore3 C a_B_ordersDue_91 rfl ?_
        refine xj_iinc5 (v := -1) C a_B_ordersDue_92 (by decide) rfl ?_
        refine xj_goto C a_B_ordersDue_95 rfl ?_
        exact kk _ _ _ rfl rfl hzz
      have tail : ∀ (x : Int32) (z : Option Value), xj_nl z = true → x + nI 2 = (if lt then 1 else 0) → xn_X E G (xj_R E G (fun a' w' => a' = A ∧ w' = xn_W v) 0 0) 0 0 40 [some (.ref (xj_ad G (1, 0, 0))), some (.int y.toInt32), some (.int (nI (pg_st B y))), some (.int o), some (.int (xp_b lt)), some (.int (nI j)), some (.int (nI (pg_st B y + 1 + j))), some (.int x), z] [] v := by
        intro x z hzz hx
        refine xj_aload_n C a_B_ordersDue_40 rfl ?_
        refine xj_iload_n C a_B_ordersDue_41 rfl ?_
        refine xj_iload C a_B_ordersDue_42 rfl ?_
        refine xn_callV2i C a_B_ordersDue_44 (c_B_greatestClaimant _ _ v B hB y (pg_st B y + 1 + j) (by omega) (by omega) hy2) mv_B_greatestClaimant lk_B_91 ⟨rfl, rfl, rfl⟩ xj_ok1 ⟨by decide, by decide⟩ rfl (Nat.le_of_ble_eq_true rfl) ⟨Nat.le_refl _, Nat.le_refl _⟩ ?_
        refine xj_istore8 C a_B_ordersDue_47 rfl ?_
        refine xj_iload C a_B_ordersDue_49 rfl ?_
        refine xj_bipush (v := -2) C a_B_ordersDue_51 (by decide) ?_
        refine xj_icmp_eq C a_B_ordersDue_53 rfl (fun h53 => ?_) (fun h53 => ?_)
        · have e : ¬ 0 < (pg_tp B y (pg_st B y + 1 + j) 3).1 := by
            intro e
            rw [if_pos e] at h53
            obtain ⟨i, hi, h2, -⟩ := pg_tp_vote e
            have := (hy i hi).1
            rw [h2] at h53
            exact xp_ne2 (by omega) h53
          have e2 : t j = false := by rw [ht j]; simp; omega
          rw [e2, Bool.or_false] at fin
          exact fin x _ rfl (by rw [hx]; unfold pg_cdl; rw [if_neg e])
        · have e : 0 < (pg_tp B y (pg_st B y + 1 + j) 3).1 := by
            apply Classical.byContradiction
            intro e
            rw [if_neg e] at h53
            exact h53 rfl
          have e2 : t j = true := by rw [ht j]; simpa using e
          obtain ⟨i, hi, h2, h3⟩ := pg_tp_vote e
          obtain ⟨hv, p, hp, he⟩ := hy2 i hi
          rw [if_pos e, h2]
          refine xj_iconst (v := nI 1) C a_B_ordersDue_56 (by decide) ?_
          refine xj_istore4 C a_B_ordersDue_57 rfl ?_
          refine xj_aload_n C a_B_ordersDue_59 rfl ?_
          refine xj_aload_n C a_B_ordersDue_60 rfl ?_
          refine xj_iload C a_B_ordersDue_61 rfl ?_
          refine xj_iload C a_B_ordersDue_63 rfl ?_
          refine xn_callV2i C a_B_ordersDue_65 (c_B_claimFor _ _ v B hB (pg_vt y i) (pg_st B y + 1 + j) p hv he hp (by omega) (by omega)) mv_B_claimFor lk_B_53 ⟨rfl, rfl, rfl⟩ xj_ok1 ⟨by decide, by decide⟩ rfl (Nat.le_of_ble_eq_true rfl) ⟨Nat.le_refl _, Nat.le_refl _⟩ ?_
          refine xj_iconst (v := nI 1) C a_B_ordersDue_68 (by decide) ?_
          refine xj_isub C a_B_ordersDue_69 ?_
          refine xj_topi (y := nI (pg_cm B (pg_vt y i) (pg_st B y + 1 + j) - 1)) (pk_sub (by omega)) ?_
          refine xj_iload C a_B_ordersDue_70 rfl ?_
          refine xj_iload C a_B_ordersDue_72 rfl ?_
          refine xn_callV3i C a_B_ordersDue_74 (c_B_backing _ _ v B hB (pg_cm B (pg_vt y i) (pg_st B y + 1 + j) - 1) (pg_st B y + 1 + j) (pg_vt y i) (by omega) (by omega) (by omega)) mv_B_backing lk_B_57 ⟨rfl, rfl, rfl⟩ xj_ok1 ⟨by decide, by decide⟩ rfl (Nat.le_of_ble_eq_true rfl) ⟨Nat.le_refl _, Nat.le_refl _⟩ ?_
          refine xj_istore7 C a_B_ordersDue_77 rfl ?_
          rw [e2, Bool.or_true] at fin
          refine fin (pg_bkC B (pg_cm B (pg_vt y i) (pg_st B y + 1 + j) - 1) (lN (pg_st B y + 1 + j)) (pg_vt y i)) _ rfl ?_
          unfold pg_cdl
          rw [if_pos e, h2, h3, hbk _ _ _ (by omega)]
          rfl
      refine xj_iload C a_B_ordersDue_27 rfl ?_
      refine xj_if_eq C a_B_ordersDue_29 rfl (fun h29 => ?_) (fun h29 => ?_)
      · rw [xp_b0] at h29
        refine xj_bipush (v := -2) C a_B_ordersDue_36 (by decide) ?_
        refine xj_istore7 C a_B_ordersDue_38 rfl ?_
        exact tail _ _ hz3 (by rw [h29]; rfl)
      · rw [xp_b0] at h29
        have h29 : lt = true := by simpa using h29
        refine xj_iconst (v := -1) C a_B_ordersDue_32 (by decide) ?_
        refine xj_goto C a_B_ordersDue_33 rfl ?_
        refine xj_istore7 C a_B_ordersDue_38 rfl ?_
        exact tail _ _ hz3 (by rw [h29]; rfl)
  refine body 3 0 false (by omega) ?_ none none none rfl rfl rfl
  rw [show nI 3 + (-1) = nI 2 from by decide, Bool.false_or]
  refine body 2 _ _ (by omega) ?_
  rw [show nI 2 + (-1) = nI 1 from by decide]
  refine body 1 _ _ (by omega) ?_
  rw [show nI 1 + (-1) = nI 0 from by decide]
  refine body 0 _ _ (by omega) ?_
  rw [show nI 0 + (-1) = -1 from by decide]
  intro z1 z2 z3 _ _ _
  refine xj_iload C a_B_ordersDue_14 rfl ?_
  refine xj_if_lt C a_B_ordersDue_16 rfl (fun h16 => ?_) (fun h16 => ?_)
  · refine xj_iload_n C a_B_ordersDue_98 rfl ?_
    refine xj_iret C a_B_ordersDue_99 ?_
    exact ⟨hA, rfl⟩
  · exact absurd (by decide) h16
