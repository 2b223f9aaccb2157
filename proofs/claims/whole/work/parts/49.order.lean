/-! the primary orders -/
theorem xp_slot {h i : Nat} (hi : i < 4) : ∃ n, h < n ∧ n ≤ h + 4 ∧ n % 4 = i := ⟨h + 1 + (i + 3 * (h + 1)) % 4, by omega, by omega, by omega⟩
theorem pg_acd_iff {R : pg_R} {m : Nat} : pg_acd R m = true ↔ ∃ n, pg_h R < n ∧ n ≤ pg_h R + 4 ∧ pg_ac R n = m + 2 := by
  unfold pg_acd
  simp only [List.any_cons, List.any_nil, Bool.or_false, Bool.or_eq_true, beq_iff_eq]
  constructor
  · rintro (h | h | h | h)
    · exact ⟨_, by omega, by omega, h⟩
    · exact ⟨_, by omega, by omega, h⟩
    · exact ⟨_, by omega, by omega, h⟩
    · exact ⟨_, by omega, by omega, h⟩
  · rintro ⟨n, h1, h2, h3⟩
    rcases (show n = pg_h R + 1 ∨ n = pg_h R + 2 ∨ n = pg_h R + 3 ∨ n = pg_h R + 4 by omega) with rfl | rfl | rfl | rfl
    · exact Or.inl h3
    · exact Or.inr (Or.inl h3)
    · exact Or.inr (Or.inr (Or.inl h3))
    · exact Or.inr (Or.inr (Or.inr h3))
theorem xp_ac2 {q m : Nat} (hq : q < 300) (hm : m < 1000) : nI q - 2 = nI m ↔ q = m + 2 := by
  constructor
  · intro e
    have h1 : nI q = nI (m + 2) := by
      have : nI q - 2 + 2 = nI m + nI 2 := by rw [e]; rfl
      rw [Int32.sub_add_cancel, nI_add] at this
      exact this
    rwa [nI_eq (by omega) (by omega)] at h1
  · rintro rfl
    rw [xp_sub2 (by omega)]
    rfl
theorem c_R_isAccepted (l : Launch) (G : xj_G) (v : xn_V) (r : Nat) (hr : r < 4) (S : pg_S) (hR : xc_R r S v) (hN : pg_num S.2) (m : Nat) (hm : m < 1000) : xn_M l G 0 0 m_R_isAccepted [.ref (xj_ad G (11, r, 0)), .int (nI m)] v (some (.int (xp_b (pg_acd S.2 m)))) v := by
  have hsl : ∀ i, i < 4 → ∃ n, pg_h S.2 < n ∧ n ≤ pg_h S.2 + 4 ∧ n % 4 = i ∧ (v.1 13 r i 2 = nI m ↔ pg_ac S.2 n = m + 2) := by
    intro i hi
    obtain ⟨n, h1, h2, h3⟩ := xp_slot (h := pg_h S.2) hi
    refine ⟨n, h1, h2, h3, ?_⟩
    rw [← h3, (hR.S h1 h2).1]
    exact xp_ac2 (hN.2.2.2.2.2.2.2 n).1 hm
  refine xn_M_of (by decide) (Nat.le_of_ble_eq_true rfl) (fun E hE C => ?_)
  subst hE
  replace C : xj_C E G prog_5_method_32_code "ThreePhaseGroup$Replica" 3 0 0 0 0 (some .boolean) := C
  show xn_X E G _ 0 0 0 [some (.ref (xj_ad G (11, r, 0))), some (.int (nI m)), none] [] v
  refine xj_iconst (v := nI 0) C a_R_isAccepted_0 (by decide) ?_
  refine xj_istore2 C a_R_isAccepted_1 rfl ?_
  have loop : ∀ n i : Nat, i ≤ 4 → 4 - i < n → (∀ k, k < i → ¬ v.1 13 r k 2 = nI m) → xn_X E G (xj_R E G (fun a' w' => a' = some (.int (xp_b (pg_acd S.2 m))) ∧ w' = xn_W v) 0 0) 0 0 2 [some (.ref (xj_ad G (11, r, 0))), some (.int (nI m)), some (.int (nI i))] [] v := by
    intro n
    induction n with
    | zero => intro i _ h; omega
    | succ n ih =>
      intro i hi hn hno
      refine xj_iload_n C a_R_isAccepted_2 rfl ?_
      refine xj_iconst (v := nI 4) C a_R_isAccepted_3 (by decide) ?_
      refine xj_icmp_ge C a_R_isAccepted_4 rfl (fun h4 => ?_) (fun h4 => ?_)
      · rw [nI_leI (by omega) (by omega)] at h4
        refine xj_iconst (v := nI 0) C a_R_isAccepted_28 (by decide) ?_
        refine xj_zret C a_R_isAccepted_29 rfl ⟨xp_f ?_, rfl⟩
        rw [Bool.eq_false_iff]
        intro h
        obtain ⟨n', h1, h2, h3⟩ := pg_acd_iff.mp h
        obtain ⟨n2, g1, g2, g3, g4⟩ := hsl (n' % 4) (Nat.mod_lt _ (by decide))
        have : n2 = n' := xp_mod4 g1 g2 h1 h2 g3
        subst this
        exact hno (n2 % 4) (by omega) (g4.mpr h3)
      · rw [nI_leI (by omega) (by omega)] at h4
        refine xj_aload_n C a_R_isAccepted_7 rfl ?_
        refine xn_g_R_slots C a_R_isAccepted_8 fl_R_11 (by first | assumption | omega) ?_
        refine xj_iload_n C a_R_isAccepted_11 rfl ?_
        refine xn_ld_12 C a_R_isAccepted_12 (by first | assumption | omega) (by first | assumption | omega) ?_
        refine xn_g_S_accepted C a_R_isAccepted_13 fl_R_149 (by first | assumption | omega) (by first | assumption | omega) ?_
        refine xj_iload_n C a_R_isAccepted_16 rfl ?_
        refine xj_icmp_ne C a_R_isAccepted_17 rfl (fun h17 => ?_) (fun h17 => ?_)
        · refine xj_iincN2 C a_R_isAccepted_22 rfl ?_
          refine xj_goto C a_R_isAccepted_25 rfl ?_
          refine ih (i + 1) (by omega) (by omega) (fun k hk => ?_)
          by_cases e : k = i
          · subst e; exact h17
          · exact hno k (by omega)
        · refine xj_iconst (v := nI 1) C a_R_isAccepted_20 (by decide) ?_
          refine xj_zret C a_R_isAccepted_21 rfl ⟨xp_t ?_, rfl⟩
          obtain ⟨n2, g1, g2, g3, g4⟩ := hsl i (by omega)
          exact pg_acd_iff.mpr ⟨n2, g1, g2, g4.mp (by simpa using h17)⟩
  exact loop 5 0 (by omega) (by omega) (fun k hk => absurd hk (Nat.not_lt_zero k))
/-- the least of those -/
def xp_lu (S : pg_S) (I : Nat → Prop) (o : Option Nat) : Prop := match o with
  | some x => I x ∧ (!pg_acd S.2 x && pg_wt S x) = true ∧ ∀ y, I y → (!pg_acd S.2 y && pg_wt S y) = true → x ≤ y
  | none => ∀ y, I y → ¬ (!pg_acd S.2 y && pg_wt S y) = true
theorem c_R_leastUnordered (l : Launch) (G : xj_G) (v : xn_V) (r : Nat) (hr : r < 4) (S : pg_S) (hR : xc_R r S v) (hN : pg_num S.2) (hB : xc_B S.1 v) (hK : pg_kno S) : xn_M l G 2 44 m_R_leastUnordered [.ref (xj_ad G (11, r, 0))] v (some (.int (xp_o ((List.range S.1.1).find? (fun m => !pg_acd S.2 m && pg_wt S m))))) v := by
  have hz := hB.2.1
  have hF := hR.1
  obtain ⟨kl, hL, hkl⟩ := hR.2.1
  have hl := hL.2.1
  refine xn_M_of (by decide) (Nat.le_of_ble_eq_true rfl) (fun E hE C => ?_)
  subst hE
  replace C : xj_C E G prog_5_method_31_code "ThreePhaseGroup$Replica" 4 2 44 0 0 (some .int) := C
  show xn_X E G _ 0 0 0 [some (.ref (xj_ad G (11, r, 0))), none, none, none] [] v
  generalize hres : (List.range S.1.1).find? (fun m => !pg_acd S.2 m && pg_wt S m) = res
  refine xj_bipush (v := -2) C a_R_leastUnordered_0 (by decide) ?_
  refine xj_istore1 C a_R_leastUnordered_2 rfl ?_
  refine xj_iconst (v := nI 0) C a_R_leastUnordered_3 (by decide) ?_
  refine xj_istore2 C a_R_leastUnordered_4 rfl ?_
  have loop : ∀ n j : Nat, j ≤ kl.length → kl.length - j < n → ∀ o : Option Nat, xp_lu S (fun i => i ∈ kl.take j) o → ∀ z1 : Option Value, xn_X E G (xj_R E G (fun a' w' => a' = some (.int (xp_o res)) ∧ w' = xn_W v) 0 0) 0 0 5 [some (.ref (xj_ad G (11, r, 0))), some (.int (xp_o o)), some (.int (nI j)), z1] [] v := by
    intro n
    induction n with
    | zero => intro j _ h; omega
    | succ n ih =>
      intro j hj hn o ho z1
      refine xj_iload_n C a_R_leastUnordered_5 rfl ?_
      refine xj_aload_n C a_R_leastUnordered_6 rfl ?_
      refine xn_g_R_known C a_R_leastUnordered_7 fl_R_20 (by first | assumption | omega) ?_
      refine xn_g_N_size C a_R_leastUnordered_10 fl_R_90 (by first | assumption | omega) (by first | assumption | omega) ?_
      refine xj_topi hL.2.2.1 ?_
      refine xj_icmp_ge C a_R_leastUnordered_13 rfl (fun h13 => ?_) (fun h13 => ?_)
      · rw [nI_leI (by omega) (by omega)] at h13
        rw [List.take_of_length_le (by omega)] at ho
        have hin : ∀ y, (!pg_acd S.2 y && pg_wt S y) = true → y ∈ kl := by
          intro y hy
          unfold pg_wt at hy
          simp only [Bool.and_eq_true, beq_iff_eq] at hy
          exact (hkl y).mpr hy.2.2.1
        have : o = res := by
          rw [← hres]
          cases o with
          | none =>
            symm
            apply xp_find_none
            intro k _
            rw [Bool.eq_false_iff]
            exact fun h => ho k (hin k h) h
          | some x =>
            obtain ⟨h1, h2, h3⟩ := ho
            symm
            apply xp_find_some (hK.1 x ((hkl x).mp h1)).1 h2
            intro k hk
            rw [Bool.eq_false_iff]
            intro h
            have := h3 k (hin k h) h
            omega
        rw [this]
        refine xj_iload_n C a_R_leastUnordered_61 rfl ?_
        refine xj_iret C a_R_leastUnordered_62 ?_
        exact ⟨rfl, rfl⟩
      · rw [nI_leI (by omega) (by omega)] at h13
        have hjl : j < kl.length := by omega
        have hkn := (hkl kl[j]).mp (List.getElem_mem hjl)
        obtain ⟨q1, q2⟩ := hK.1 _ hkn
        have hJ : ∀ y, y ∈ kl.take (j + 1) ↔ (y ∈ kl.take j ∨ y = kl[j]) := by
          intro y
          rw [List.take_succ_eq_append_getElem hjl, List.mem_append, List.mem_singleton]
        have hwt : pg_wt S kl[j] = decide (nI (pg_ts S.2.2 (pg_f S.1 kl[j] - 4)) < pg_a S.1 kl[j]) := by
          unfold pg_wt
          rw [hkn, q2]
          rfl
        have skip : (∀ x, o = some x → x ≤ kl[j]) ∧ (o = none → (!pg_acd S.2 kl[j] && pg_wt S kl[j]) = false) ∨ (!pg_acd S.2 kl[j] && pg_wt S kl[j]) = false → ∀ z1 : Option Value, xn_X E G (xj_R E G (fun a' w' => a' = some (.int (xp_o res)) ∧ w' = xn_W v) 0 0) 0 0 55 [some (.ref (xj_ad G (11, r, 0))), some (.int (xp_o o)), some (.int (nI j)), z1] [] v := by
          intro h z1
          refine xj_iincN2 C a_R_leastUnordered_55 rfl ?_
          refine xj_goto C a_R_leastUnordered_58 rfl ?_
          refine ih (j + 1) (by omega) (by omega) o ?_ _
          cases o with
          | none =>
            intro y hy hq
            rcases (hJ y).mp hy with hy | rfl
            · exact ho y hy hq
            · rcases h with h | h
              · rw [h.2 rfl] at hq; exact absurd hq (by decide)
              · rw [h] at hq; exact absurd hq (by decide)
          | some x =>
            obtain ⟨h1, h2, h3⟩ := ho
            refine ⟨(hJ x).mpr (Or.inl h1), h2, fun y hy hq => ?_⟩
            rcases (hJ y).mp hy with hy | rfl
            · exact h3 y hy hq
            · rcases h with h | h
              · exact h.1 x rfl
              · rw [h] at hq; exact absurd hq (by decide)
        have at37 : (∀ x, o = some x → kl[j] < x) → xn_X E G (xj_R E G (fun a' w' => a' = some (.int (xp_o res)) ∧ w' = xn_W v) 0 0) 0 0 37 [some (.ref (xj_ad G (11, r, 0))), some (.int (xp_o o)), some (.int (nI j)), some (.int (nI kl[j]))] [] v := by
          intro hlt
          refine xj_aload_n C a_R_leastUnordered_37 rfl ?_
          refine xj_iload_n C a_R_leastUnordered_38 rfl ?_
          refine xn_callV1i C a_R_leastUnordered_39 (c_R_wouldWait _ _ v r hr S hF hB kl[j] q1 q2) mv_R_wouldWait lk_R_96 ⟨rfl, rfl, rfl⟩ (xj_ok11 (by first | assumption | omega)) ⟨by decide, by decide⟩ rfl (Nat.le_of_ble_eq_true rfl) ⟨Nat.le_refl _, Nat.le_refl _⟩ ?_
          refine xj_if_eq C a_R_leastUnordered_42 rfl (fun h42 => ?_) (fun h42 => ?_)
          · rw [xp_b0, ← hwt] at h42
            exact skip (Or.inr (by rw [h42, Bool.and_false])) _
          · rw [xp_b0, ← hwt] at h42
            refine xj_aload_n C a_R_leastUnordered_45 rfl ?_
            refine xj_iload_n C a_R_leastUnordered_46 rfl ?_
            refine xn_callV1i C a_R_leastUnordered_47 (c_R_isAccepted _ _ v r hr S hR hN kl[j] (by omega)) mv_R_isAccepted lk_R_274 ⟨rfl, rfl, rfl⟩ (xj_ok11 (by first | assumption | omega)) ⟨by decide, by decide⟩ rfl (Nat.le_of_ble_eq_true rfl) ⟨Nat.le_refl _, Nat.le_refl _⟩ ?_
            refine xj_if_ne C a_R_leastUnordered_50 rfl (fun h50 => ?_) (fun h50 => ?_)
            · rw [xp_b0] at h50
              exact skip (Or.inr (by simp [h50])) _
            · rw [xp_b0] at h50
              have hq : (!pg_acd S.2 kl[j] && pg_wt S kl[j]) = true := by
                have a1 : pg_acd S.2 kl[j] = false := by simpa using h50
                have a2 : pg_wt S kl[j] = true := by simpa using h42
                rw [a1, a2]
                rfl
              refine xj_iload_n C a_R_leastUnordered_53 rfl ?_
              refine xj_istore1 C a_R_leastUnordered_54 rfl ?_
              refine xj_iincN2 C a_R_leastUnordered_55 rfl ?_
              refine xj_goto C a_R_leastUnordered_58 rfl ?_
              refine ih (j + 1) (by omega) (by omega) (some kl[j]) ?_ _
              refine ⟨(hJ _).mpr (Or.inr rfl), hq, fun y hy hq2 => ?_⟩
              rcases (hJ y).mp hy with hy | rfl
              · cases o with
                | none => exact absurd hq2 (ho y hy)
                | some x =>
                  have := ho.2.2 y hy hq2
                  have := hlt x rfl
                  omega
              · exact Nat.le_refl _
        refine xj_aload_n C a_R_leastUnordered_16 rfl ?_
        refine xn_g_R_known C a_R_leastUnordered_17 fl_R_20 (by first | assumption | omega) ?_
        refine xn_g_N_at C a_R_leastUnordered_20 fl_R_93 (by first | assumption | omega) (by first | assumption | omega) ?_
        refine xj_iload_n C a_R_leastUnordered_23 rfl ?_
        refine xn_ld_17 C a_R_leastUnordered_24 (by first | assumption | omega) (by first | assumption | omega) (by first | assumption | omega) ?_
        refine xj_topi (hL.at hjl) ?_
        refine xj_istore3 C a_R_leastUnordered_25 rfl ?_
        refine xj_iload_n C a_R_leastUnordered_26 rfl ?_
        refine xj_bipush (v := -2) C a_R_leastUnordered_27 (by decide) ?_
        cases o with
        | none =>
          refine xj_icmp_eq C a_R_leastUnordered_29 rfl (fun h29 => ?_) (fun h29 => absurd rfl h29)
          exact at37 (fun x h => by cases h)
        | some x =>
          have hx := (hK.1 x ((hkl x).mp (List.mem_of_mem_take ho.1))).1
          refine xj_icmp_eq C a_R_leastUnordered_29 rfl (fun h29 => absurd h29 (xp_one (by omega))) (fun h29 => ?_)
          refine xj_iload_n C a_R_leastUnordered_32 rfl ?_
          refine xj_iload_n C a_R_leastUnordered_33 rfl ?_
          refine xj_icmp_ge (x := nI kl[j]) (y := nI x) C a_R_leastUnordered_34 rfl (fun h34 => ?_) (fun h34 => ?_)
          · rw [nI_leI (by omega) (by omega)] at h34
            exact skip (Or.inl ⟨fun y e => by injection e with e; omega, fun e => by cases e⟩) _
          · rw [nI_leI (by omega) (by omega)] at h34
            exact at37 (fun y e => by injection e with e; omega)
  exact loop (kl.length + 1) 0 (by omega) (by omega) none (fun y hy => by simp at hy) none
def xp_nx (R : pg_R) : Nat → Nat
  | 0 => pg_h R + 1
  | j + 1 => if pg_ac R (pg_h R + 1 + j) = 0 then xp_nx R j else pg_h R + 1 + j + 1
theorem xp_nx_4 (R : pg_R) : xp_nx R 4 = pg_nxt R := by
  unfold pg_nxt
  show (if pg_ac R (pg_h R + 1 + 3) = 0 then (if pg_ac R (pg_h R + 1 + 2) = 0 then (if pg_ac R (pg_h R + 1 + 1) = 0 then (if pg_ac R (pg_h R + 1 + 0) = 0 then pg_h R + 1 else pg_h R + 1 + 0 + 1) else pg_h R + 1 + 1 + 1) else pg_h R + 1 + 2 + 1) else pg_h R + 1 + 3 + 1) = _
  have e1 : pg_h R + 1 + 3 = pg_h R + 4 := by omega
  have e2 : pg_h R + 1 + 2 = pg_h R + 3 := by omega
  have e3 : pg_h R + 1 + 1 = pg_h R + 2 := by omega
  rw [e1, e2, e3, Nat.add_zero]
  by_cases h4 : pg_ac R (pg_h R + 4) = 0
  · rw [if_pos h4, if_neg (not_not_intro h4)]
    by_cases h3 : pg_ac R (pg_h R + 3) = 0
    · rw [if_pos h3, if_neg (not_not_intro h3)]
      by_cases h2 : pg_ac R (pg_h R + 2) = 0
      · rw [if_pos h2, if_neg (not_not_intro h2)]
        by_cases h1 : pg_ac R (pg_h R + 1) = 0
        · rw [if_pos h1, if_neg (not_not_intro h1)]
        · rw [if_neg h1, if_pos h1]
      · rw [if_neg h2, if_pos h2]
    · rw [if_neg h3, if_pos h3]
  · rw [if_neg h4, if_pos h4]
theorem xp_nx_le (R : pg_R) : ∀ j, pg_h R < xp_nx R j ∧ xp_nx R j ≤ pg_h R + 1 + j
  | 0 => ⟨Nat.lt_succ_self _, Nat.le_refl _⟩
  | j + 1 => by
    have ih := xp_nx_le R j
    show pg_h R < (if pg_ac R (pg_h R + 1 + j) = 0 then xp_nx R j else pg_h R + 1 + j + 1) ∧ (if pg_ac R (pg_h R + 1 + j) = 0 then xp_nx R j else pg_h R + 1 + j + 1) ≤ _
    split <;> omega
theorem c_R_orderNext (l : Launch) (G : xj_G) (v : xn_V) (r : Nat) (hr : r < 4) (S : pg_S) (hR : xc_R r S v) (hN : pg_num S.2) (hB : xc_B S.1 v) (hK : pg_kno S) (hz : S.1.1 < 256) : xj_Mx l G 3 67 0 0 m_R_orderNext [.ref (xj_ad G (11, r, 0))] (xn_W v) (xp_rl r v (pg_r8 r S)) := by
  have hF := hR.1
  have hh := hN.2.2.1
  have hch := hN.2.1
  have hvw := hN.1
  refine xj_Mx_of (by decide) (Nat.le_of_ble_eq_true rfl) (fun E hE C _ => ?_)
  subst hE
  replace C : xj_C E G prog_5_method_30_code "ThreePhaseGroup$Replica" 3 3 67 0 0 (some .boolean) := C
  show xn_X E G _ 0 0 0 [some (.ref (xj_ad G (11, r, 0))), none, none] [] v
  have no : pg_r8 r S = none → ∀ z1 z2 : Option Value, xn_X E G (xj_R E G (xp_rl r v (pg_r8 r S)) 0 0) 0 0 14 [some (.ref (xj_ad G (11, r, 0))), z1, z2] [] v := by
    intro h z1 z2
    rw [h]
    refine xj_iconst (v := nI 0) C a_R_orderNext_14 (by decide) ?_
    exact xj_zret C a_R_orderNext_15 rfl ⟨rfl, rfl⟩
  refine xj_aload_n C a_R_orderNext_0 rfl ?_
  refine xn_g_R_changing C a_R_orderNext_1 fl_R_35 (by first | assumption | omega) ?_
  refine xj_topi hF.ch ?_
  refine xj_if_ne C a_R_orderNext_4 rfl (fun h4 => ?_) (fun h4 => ?_)
  · refine no ?_ _ _
    have : ¬ pg_ch S.2 = 0 := fun e => h4 (by rw [e]; rfl)
    unfold pg_r8
    rw [if_pos (Or.inl (by omega))]
  · have h4 : pg_ch S.2 = 0 := by
      have e : nI (pg_ch S.2) = nI 0 := h4
      rw [nI_eq (by omega) (by omega)] at e
      exact e
    refine xj_aload_n C a_R_orderNext_7 rfl ?_
    refine xn_callV0i C a_R_orderNext_8 (c_R_isPrimary _ _ v r hr S.2 hF hN) mv_R_isPrimary lk_R_210 ⟨rfl, rfl, rfl⟩ (xj_ok11 (by first | assumption | omega)) ⟨by decide, by decide⟩ rfl (Nat.le_of_ble_eq_true rfl) ⟨Nat.le_refl _, Nat.le_refl _⟩ ?_
    refine xj_if_ne C a_R_orderNext_11 rfl (fun h11 => ?_) (fun h11 => ?_)
    · rw [xp_b0, decide_eq_false_iff_not, Classical.not_not] at h11
      refine xj_aload_n C a_R_orderNext_16 rfl ?_
      refine xn_g_R_stable C a_R_orderNext_17 fl_R_39 (by first | assumption | omega) ?_
      refine xj_topi hF.h ?_
      refine xj_iconst (v := nI 1) C a_R_orderNext_20 (by decide) ?_
      refine xj_iadd C a_R_orderNext_21 ?_
      refine xj_topi (nI_add _ 1) ?_
      refine xj_istore1 C a_R_orderNext_22 rfl ?_
      refine xj_aload_n C a_R_orderNext_23 rfl ?_
      refine xn_g_R_stable C a_R_orderNext_24 fl_R_39 (by first | assumption | omega) ?_
      refine xj_topi hF.h ?_
      refine xj_iconst (v := nI 1) C a_R_orderNext_27 (by decide) ?_
      refine xj_iadd C a_R_orderNext_28 ?_
      refine xj_topi (nI_add _ 1) ?_
      refine xj_istore2 C a_R_orderNext_29 rfl ?_
      have loop : ∀ n j : Nat, j ≤ 4 → 4 - j < n → xn_X E G (xj_R E G (xp_rl r v (pg_r8 r S)) 0 0) 0 0 30 [some (.ref (xj_ad G (11, r, 0))), some (.int (nI (xp_nx S.2 j))), some (.int (nI (pg_h S.2 + 1 + j)))] [] v := by
        intro n
        induction n with
        | zero => intro j _ h; omega
        | succ n ih =>
          intro j hj hn
          refine xj_iload_n C a_R_orderNext_30 rfl ?_
          refine xj_aload_n C a_R_orderNext_31 rfl ?_
          refine xn_g_R_stable C a_R_orderNext_32 fl_R_39 (by first | assumption | omega) ?_
          refine xj_topi hF.h ?_
          refine xj_iconst (v := nI 4) C a_R_orderNext_35 (by decide) ?_
          refine xj_iadd C a_R_orderNext_36 ?_
          refine xj_topi (nI_add _ 4) ?_
          refine xj_icmp_gt C a_R_orderNext_37 rfl (fun h37 => ?_) (fun h37 => ?_)
          · rw [nI_ltI (by omega) (by omega)] at h37
            have : j = 4 := by omega
            subst this
            rw [xp_nx_4]
            have hnx := xp_nx_le S.2 4
            rw [xp_nx_4] at hnx
            have hl : (nI (pg_nxt S.2)).toInt64 = lN (pg_nxt S.2) := nI_l (by omega)
            cases ef : (List.range S.1.1).find? (fun m => !pg_acd S.2 m && pg_wt S m) with
            | none =>
              have e8 : pg_r8 r S = none := by
                unfold pg_r8
                rw [ef]
                split <;> rfl
              rw [e8]
              refine xj_aload_n C a_R_orderNext_64 rfl ?_
              refine xn_callV0i C a_R_orderNext_65 (c_R_leastUnordered _ _ v r hr S hR hN hB hK) mv_R_leastUnordered lk_R_271 ⟨rfl, rfl, rfl⟩ (xj_ok11 (by first | assumption | omega)) ⟨by decide, by decide⟩ rfl (Nat.le_of_ble_eq_true rfl) ⟨Nat.le_refl _, Nat.le_refl _⟩ ?_
              refine xj_istore2 C a_R_orderNext_68 rfl ?_
              rw [ef]
              refine xj_iload_n C a_R_orderNext_69 rfl ?_
              refine xj_bipush (v := -2) C a_R_orderNext_70 (by decide) ?_
              refine xj_icmp_eq C a_R_orderNext_72 rfl (fun h72 => ?_) (fun h72 => absurd rfl h72)
              refine xj_iconst (v := nI 0) C a_R_orderNext_84 (by decide) ?_
              exact xj_zret C a_R_orderNext_85 rfl ⟨rfl, rfl⟩
            | some m =>
              have hm := List.mem_range.mp (List.mem_of_find?_eq_some ef)
              refine xj_aload_n C a_R_orderNext_64 rfl ?_
              refine xn_callV0i C a_R_orderNext_65 (c_R_leastUnordered _ _ v r hr S hR hN hB hK) mv_R_leastUnordered lk_R_271 ⟨rfl, rfl, rfl⟩ (xj_ok11 (by first | assumption | omega)) ⟨by decide, by decide⟩ rfl (Nat.le_of_ble_eq_true rfl) ⟨Nat.le_refl _, Nat.le_refl _⟩ ?_
              refine xj_istore2 C a_R_orderNext_68 rfl ?_
              rw [ef]
              refine xj_iload_n C a_R_orderNext_69 rfl ?_
              refine xj_bipush (v := -2) C a_R_orderNext_70 (by decide) ?_
              refine xj_icmp_eq C a_R_orderNext_72 rfl (fun h72 => absurd h72 (xp_one (by omega))) (fun h72 => ?_)
              show xn_X E G _ 0 0 75 [some (.ref (xj_ad G (11, r, 0))), some (.int (nI (pg_nxt S.2))), some (.int (nI m))] [] v
              refine xj_aload_n C a_R_orderNext_75 rfl ?_
              refine xj_iload_n C a_R_orderNext_76 rfl ?_
              refine xj_i2l C a_R_orderNext_77 ?_
              refine xj_topl hl ?_
              have hwin : pg_win S.2 (lN (pg_nxt S.2)) = decide (pg_nxt S.2 ≤ pg_h S.2 + 4) := by
                unfold pg_win
                rw [decide_eq_true ((pk_lLT (by omega) (by omega)).mpr hnx.1), Bool.true_and]
                exact decide_eq_decide.mpr (pk_lLE (by omega) (by omega))
              refine xn_callV1i C a_R_orderNext_78 (c_R_inWindow _ _ v r hr S.2 hF hN (lN (pg_nxt S.2))) mv_R_inWindow lk_R_135 ⟨rfl, rfl, rfl⟩ (xj_ok11 (by first | assumption | omega)) ⟨by decide, by decide⟩ rfl (Nat.le_of_ble_eq_true rfl) ⟨Nat.le_refl _, Nat.le_refl _⟩ ?_
              refine xj_if_ne C a_R_orderNext_81 rfl (fun h81 => ?_) (fun h81 => ?_)
              · rw [xp_b0, hwin, decide_eq_false_iff_not, Classical.not_not] at h81
                have h44 : pg_nxt S.2 % 4 < 4 := Nat.mod_lt _ (by decide)
                have e8 : pg_r8 r S = some ((pg_own r S 1 (nI (pg_vw S.2)) (lN (pg_nxt S.2)) (nI m)).1, pg_u (pg_own r S 1 (nI (pg_vw S.2)) (lN (pg_nxt S.2)) (nI m)).2 6 (pg_nxt S.2) (m + 2)) := by
                  unfold pg_r8
                  rw [if_neg (by omega), ef]
                rw [e8]
                refine xj_aload_n C a_R_orderNext_86 rfl ?_
                refine xn_g_R_board C a_R_orderNext_87 fl_R_61 (by first | assumption | omega) ?_
                refine xj_iconst (v := nI 1) C a_R_orderNext_90 (by decide) ?_
                refine xj_aload_n C a_R_orderNext_91 rfl ?_
                refine xn_g_R_self C a_R_orderNext_92 fl_R_58 (by first | assumption | omega) ?_
                refine xj_topi hF.self ?_
                refine xj_aload_n C a_R_orderNext_95 rfl ?_
                refine xn_g_R_view C a_R_orderNext_96 fl_R_31 (by first | assumption | omega) ?_
                refine xj_topi hF.vw ?_
                refine xj_iload_n C a_R_orderNext_99 rfl ?_
                refine xj_i2l C a_R_orderNext_100 ?_
                refine xj_topl hl ?_
                refine xj_iload_n C a_R_orderNext_101 rfl ?_
                refine xn_callV5i C a_R_orderNext_102 (c_B_post _ _ v S.1.1 hB.1 hz _ _ _ _ _) mv_B_post lk_R_213 ⟨rfl, rfl, rfl⟩ xj_ok1 ⟨by decide, by decide⟩ rfl (Nat.le_of_ble_eq_true rfl) ⟨Nat.le_refl _, Nat.le_refl _⟩ ?_
                refine xj_pop C a_R_orderNext_105 rfl ?_
                refine xj_aload_n C a_R_orderNext_106 rfl ?_
                refine xj_iload_n C a_R_orderNext_107 rfl ?_
                refine xj_i2l C a_R_orderNext_108 ?_
                refine xj_topl hl ?_
                refine xn_callV1r C a_R_orderNext_109 (c_R_slotAt _ _ _ r (pg_nxt S.2) hr (by omega)) mv_R_slotAt lk_R_145 ⟨rfl, rfl, rfl⟩ (xj_ok11 (by first | assumption | omega)) ⟨by decide, by decide⟩ rfl (Nat.le_of_ble_eq_true rfl) ⟨Nat.le_refl _, Nat.le_refl _⟩ ?_
                refine xj_iload_n C a_R_orderNext_112 rfl ?_
                refine xn_p_S_accepted C a_R_orderNext_113 fl_R_149 (by first | assumption | omega) (by first | assumption | omega) ?_
                refine xj_iconst (v := nI 1) C a_R_orderNext_116 (by decide) ?_
                have hR1 := hR.own 1 (nI (pg_vw S.2)) (lN (pg_nxt S.2)) (nI m) (by decide) (by decide) (by decide) (by decide) (kk := nI 1) (ff := nI r)
                refine xj_zret C a_R_orderNext_117 rfl ⟨rfl, _, rfl, hR1.accept (q := m + 2) (show pg_h S.2 < _ from hnx.1) (show _ ≤ pg_h S.2 + 4 from h81) (by rw [xp_sub2 (by omega)]; rfl), ?_, ?_⟩
                · exact (hB.post hz 1 r _ _ _ false (by omega)).R ((xf_R.rf r _).uI (by omega))
                · exact (xf_O.rf r v).post.R ((xf_R.rf r _).uI (by omega))
              · rw [xp_b0, hwin, decide_eq_false_iff_not] at h81
                have e8 : pg_r8 r S = none := by unfold pg_r8; rw [if_pos (by omega)]
                rw [e8]
                refine xj_iconst (v := nI 0) C a_R_orderNext_84 (by decide) ?_
                exact xj_zret C a_R_orderNext_85 rfl ⟨rfl, rfl⟩
          · rw [nI_ltI (by omega) (by omega)] at h37
            have hS := hR.S (n := pg_h S.2 + 1 + j) (by omega) (by omega)
            have h44 : (pg_h S.2 + 1 + j) % 4 < 4 := Nat.mod_lt _ (by decide)
            have hac := (hN.2.2.2.2.2.2.2 (pg_h S.2 + 1 + j)).1
            have hl : (nI (pg_h S.2 + 1 + j)).toInt64 = lN (pg_h S.2 + 1 + j) := nI_l (by omega)
            have := ih (j + 1) (by omega) (by omega)
            refine xj_aload_n C a_R_orderNext_40 rfl ?_
            refine xj_iload_n C a_R_orderNext_41 rfl ?_
            refine xj_i2l C a_R_orderNext_42 ?_
            refine xj_topl hl ?_
            refine xn_callV1r C a_R_orderNext_43 (c_R_slotAt _ _ v r (pg_h S.2 + 1 + j) hr (by omega)) mv_R_slotAt lk_R_145 ⟨rfl, rfl, rfl⟩ (xj_ok11 (by first | assumption | omega)) ⟨by decide, by decide⟩ rfl (Nat.le_of_ble_eq_true rfl) ⟨Nat.le_refl _, Nat.le_refl _⟩ ?_
            refine xn_g_S_accepted C a_R_orderNext_46 fl_R_149 (by first | assumption | omega) (by first | assumption | omega) ?_
            refine xj_topi hS.1 ?_
            refine xj_bipush (v := -2) C a_R_orderNext_49 (by decide) ?_
            refine xj_icmp_eq C a_R_orderNext_51 rfl (fun h51 => ?_) (fun h51 => ?_)
            · have h51 : nI (pg_ac S.2 (pg_h S.2 + 1 + j)) - 2 = -2 := h51
              rw [xp_acc (by omega)] at h51
              have e : xp_nx S.2 (j + 1) = xp_nx S.2 j := by
                show (if _ then _ else _) = _
                rw [if_pos h51]
              rw [e] at this
              refine xj_iincN2 C a_R_orderNext_58 rfl ?_
              refine xj_goto C a_R_orderNext_61 rfl ?_
              exact this
            · have h51 : ¬ nI (pg_ac S.2 (pg_h S.2 + 1 + j)) - 2 = -2 := h51
              rw [xp_acc (by omega)] at h51
              have e : xp_nx S.2 (j + 1) = pg_h S.2 + 1 + j + 1 := by
                show (if _ then _ else _) = _
                rw [if_neg h51]
              rw [e] at this
              refine xj_iload_n C a_R_orderNext_54 rfl ?_
              refine xj_iconst (v := nI 1) C a_R_orderNext_55 (by decide) ?_
              refine xj_iadd C a_R_orderNext_56 ?_
              refine xj_topi (nI_add _ 1) ?_
              refine xj_istore1 C a_R_orderNext_57 rfl ?_
              refine xj_iincN2 C a_R_orderNext_58 rfl ?_
              refine xj_goto C a_R_orderNext_61 rfl ?_
              exact this
      exact loop 5 0 (by omega) (by omega)
    · rw [xp_b0, decide_eq_false_iff_not] at h11
      exact no (by unfold pg_r8; rw [if_pos (Or.inr (Or.inl (by simpa using h11)))]) _ _
