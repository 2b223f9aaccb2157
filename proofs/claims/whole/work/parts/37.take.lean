/-! CHECKPOINT, VIEW-CHANGE -/
theorem xp_even (x : Int32) : x - x / nI 2 * nI 2 = 0 ↔ x.toInt % 2 = 0 := by
  have h0 : (nI 2).toInt = 2 := by decide
  have hd : (x / nI 2).toInt = x.toInt.tdiv 2 := by
    rw [Int32.toInt_div, h0]
    have h1 := Int32.le_toInt x
    have h2 := Int32.toInt_lt x
    have h3 := Int.mul_tdiv_add_tmod x.toInt 2
    have h4 := Int.tmod_lt_of_pos x.toInt (show (0 : Int) < 2 by decide)
    have h5 : -2 < x.toInt.tmod 2 := by
      have := Int.lt_tmod_of_pos x.toInt (show (0 : Int) < 2 by decide)
      exact this
    rw [Int.bmod_def]
    omega
  have h3 := Int.mul_tdiv_add_tmod x.toInt 2
  have h4 := Int.tmod_lt_of_pos x.toInt (show (0 : Int) < 2 by decide)
  have h5 := Int.lt_tmod_of_pos x.toInt (show (0 : Int) < 2 by decide)
  have h6 : (x - x / nI 2 * nI 2).toInt = x.toInt.tmod 2 := by
    rw [Int32.toInt_sub, Int32.toInt_mul, hd, h0]
    have h1 := Int32.le_toInt x
    have h2 := Int32.toInt_lt x
    rw [Int.bmod_def (x.toInt.tdiv 2 * 2), Int.bmod_def]
    omega
  rw [← Int32.toInt_inj, h6]
  show x.toInt.tmod 2 = 0 ↔ _
  rw [← Int.dvd_iff_tmod_eq_zero, Int.dvd_iff_emod_eq_zero]
/-- what r takes of a CHECKPOINT -/
def pg_t7 (r : Nat) (S : pg_S) (m : Nat) : Option pg_S := if pg_f S.1 m != r && (decide ((pg_a S.1 m).toInt % 2 = 0) && (decide (nI (pg_h S.2) < pg_a S.1 m) && !pg_nts S 7 (pg_f S.1 m) (pg_a S.1 m) 0)) then some (S.1, pg_u S.2 9 m 1) else none
theorem xc_L.room {r i : Nat} {l : List Nat} {v : xn_V} (h : xc_L r i l v) {z : Nat} (hz : z ≤ 256) (hb : ∀ q, q ∈ l → q < z) {m : Nat} (hm : m < z) : m ∈ l ∨ l.length < 256 := by
  by_cases e : m ∈ l
  · exact Or.inl e
  · right
    have hsub : (m :: l).length ≤ (List.range z).length := by
      have hnd : (m :: l).Nodup := List.nodup_cons.mpr ⟨e, h.1⟩
      apply List.Nodup.length_le_of_subset hnd
      intro q hq
      rcases List.mem_cons.mp hq with rfl | hq
      · exact List.mem_range.mpr hm
      · exact List.mem_range.mpr (hb q hq)
    simp at hsub
    omega
theorem xn_add_oth (v : xn_V) (r i z : Nat) (m : Int32) : (∀ k r' i' x, ¬ (k = 16 ∨ k = 17) ∨ ¬ i' = i → (xn_add v r i z m).1 k r' i' x = v.1 k r' i' x) ∧ (xn_add v r i z m).2 = v.2 := by
  unfold xn_add
  split
  · refine ⟨fun k r' i' x h => ?_, rfl⟩
    show (if k = 16 ∧ r' = r ∧ i' = i ∧ x = 1 then _ else if k = 17 ∧ r' = r ∧ i' = i ∧ x = z then m else v.1 k r' i' x) = _
    rw [if_neg (by omega), if_neg (by omega)]
  · exact ⟨fun _ _ _ _ _ => rfl, rfl⟩
/-- a checkpoint more is noted -/
theorem xc_R.cpt {r : Nat} {S : pg_S} {v : xn_V} (hR : xc_R r S v) (hz : S.1.1 ≤ 256) {cl : List Nat} (hC : xc_L r 1 cl v) (hc : ∀ q, q ∈ cl ↔ (q < S.1.1 ∧ pg_no S.2 q = 1 ∧ pg_k S.1 q = 7)) {m : Nat} (hm : m < S.1.1) (hk : pg_k S.1 m = 7) : xc_R r (S.1, pg_u S.2 9 m 1) (xn_add v r 1 cl.length (nI m)) := by
  obtain ⟨hF, ⟨kl, hL, hkl⟩, -, hV, hS⟩ := hR
  have hb : ∀ q, q ∈ cl → q < 2 ^ 31 := fun q hq => by have := (hc q).mp hq; omega
  have hlen := hC.room hz (fun q hq => ((hc q).mp hq).1) hm
  obtain ⟨o1, o2⟩ := xn_add_oth v r 1 cl.length (nI m)
  refine ⟨?_, ⟨kl, hL.keep (o1 _ _ _ _ (by omega)) (fun j _ => o1 _ _ _ _ (by omega)), hkl⟩, ⟨_, hC.add hb (by omega) hlen, fun q => ?_⟩, fun s hs => ?_, fun n h1 h2 => ?_⟩
  · unfold xc_F
    simp only [o1 11 r 0 _ (by omega), o2]
    exact hF
  · rw [pg_no_u]
    by_cases e : q = m
    · subst e
      simp only [if_true, true_and]
      constructor
      · intro _; exact ⟨hm, hk⟩
      · intro _
        split
        · assumption
        · simp
    · rw [if_neg e, ← hc]
      split
      · exact Iff.rfl
      · simp [e]
  · rw [o1 18 r 0 s (by omega), pg_lvc_oth (by omega)]
    exact hV s hs
  · obtain ⟨a1, a2, a3, a4⟩ := hS n h1 h2
    refine ⟨?_, ?_, ?_, fun s hs => ?_⟩
    · rw [o1 13 r _ _ (by omega)]; exact a1
    · rw [o1 13 r _ _ (by omega)]; exact a2
    · rw [o1 13 r _ _ (by omega)]; exact a3
    · rw [o2, pg_nv_oth (by omega), pg_nv_oth (by omega)]; exact a4 s hs
theorem pg_nts7 {S : pg_S} {cl : List Nat} (hc : ∀ q, q ∈ cl ↔ (q < S.1.1 ∧ pg_no S.2 q = 1 ∧ pg_k S.1 q = 7)) (s : Nat) (x : Int32) : pg_nts S 7 s x 0 = true ↔ ∃ q, q ∈ cl ∧ pg_f S.1 q = s ∧ pg_a S.1 q = x := by
  unfold pg_nts
  rw [List.any_eq_true]
  constructor
  · rintro ⟨q, h1, h2⟩
    simp only [Bool.and_eq_true, beq_iff_eq] at h2
    exact ⟨q, (hc q).mpr ⟨List.mem_range.mp h1, h2.1, h2.2.1⟩, h2.2.2.1, h2.2.2.2.1⟩
  · rintro ⟨q, h1, h2, h3⟩
    obtain ⟨h4, h5, h6⟩ := (hc q).mp h1
    refine ⟨q, List.mem_range.mpr h4, ?_⟩
    simp [h2, h3, h5, h6]
theorem c_R_takesCheckpoint (l : Launch) (G : xj_G) (v : xn_V) (r : Nat) (hr : r < 4) (S : pg_S) (hR : xc_R r S v) (hN : pg_num S.2) (hB : xc_B S.1 v) (m : Nat) (hm : m < S.1.1) (hk : pg_k S.1 m = 7) : xj_Mx l G 2 43 0 0 m_R_takesCheckpoint [.ref (xj_ad G (11, r, 0)), .int (nI m)] (xn_W v) (xp_tk r v (pg_t7 r S m)) := by
  have hz := hB.2.1
  have hF := hR.1
  have hh := hN.2.2.1
  have hw := hB.2.2.1 m hm
  obtain ⟨cl, hC, hc⟩ := hR.2.2.1
  have hcl := hC.2.1
  refine xj_Mx_of (by decide) (Nat.le_of_ble_eq_true rfl) (fun E hE C _ => ?_)
  subst hE
  replace C : xj_C E G prog_5_method_13_code "ThreePhaseGroup$Replica" 5 2 43 0 0 (some .boolean) := C
  show xn_X E G _ 0 0 0 [some (.ref (xj_ad G (11, r, 0))), some (.int (nI m)), none, none, none] [] v
  have no : pg_t7 r S m = none → ∀ z1 z2 z3 : Option Value, xn_X E G (xj_R E G (xp_tk r v (pg_t7 r S m)) 0 0) 0 0 40 [some (.ref (xj_ad G (11, r, 0))), some (.int (nI m)), z1, z2, z3] [] v := by
    intro h z1 z2 z3
    rw [h]
    refine xj_iconst (v := nI 0) C a_R_takesCheckpoint_40 (by decide) ?_
    refine xj_zret C a_R_takesCheckpoint_41 rfl ?_
    exact ⟨rfl, rfl⟩
  refine xj_aload_n C a_R_takesCheckpoint_0 rfl ?_
  refine xn_g_R_board C a_R_takesCheckpoint_1 fl_R_61 (by first | assumption | omega) ?_
  refine xn_g_B_a C a_R_takesCheckpoint_4 fl_R_81 ?_
  refine xj_iload_n C a_R_takesCheckpoint_7 rfl ?_
  refine xn_ld_4 C a_R_takesCheckpoint_8 (by first | assumption | omega) ?_
  refine xj_topi (hB.a (by omega)) ?_
  refine xj_istore2 C a_R_takesCheckpoint_9 rfl ?_
  refine xj_aload_n C a_R_takesCheckpoint_10 rfl ?_
  refine xn_g_R_board C a_R_takesCheckpoint_11 fl_R_61 (by first | assumption | omega) ?_
  refine xn_g_B_sender C a_R_takesCheckpoint_14 fl_R_76 ?_
  refine xj_iload_n C a_R_takesCheckpoint_17 rfl ?_
  refine xn_ld_3 C a_R_takesCheckpoint_18 (by first | assumption | omega) ?_
  refine xj_topi (hB.f (by omega)) ?_
  refine xj_aload_n C a_R_takesCheckpoint_19 rfl ?_
  refine xn_g_R_self C a_R_takesCheckpoint_20 fl_R_58 (by first | assumption | omega) ?_
  refine xj_topi hF.self ?_
  refine xj_icmp_eq C a_R_takesCheckpoint_23 rfl (fun h23 => ?_) (fun h23 => ?_)
  · rw [nI_eq (by omega) (by omega)] at h23
    exact no (by unfold pg_t7; simp [h23]) _ _ _
  · rw [nI_eq (by omega) (by omega)] at h23
    refine xj_iload_n C a_R_takesCheckpoint_26 rfl ?_
    refine xj_iconst (v := nI 2) C a_R_takesCheckpoint_27 (by decide) ?_
    refine xj_irem C a_R_takesCheckpoint_28 (by decide) ?_
    refine xj_if_ne C a_R_takesCheckpoint_29 rfl (fun h29 => ?_) (fun h29 => ?_)
    · rw [xp_even] at h29
      exact no (by unfold pg_t7; simp [h29]) _ _ _
    · rw [xp_even] at h29
      refine xj_iload_n C a_R_takesCheckpoint_32 rfl ?_
      refine xj_aload_n C a_R_takesCheckpoint_33 rfl ?_
      refine xn_g_R_stable C a_R_takesCheckpoint_34 fl_R_39 (by first | assumption | omega) ?_
      refine xj_topi hF.h ?_
      refine xj_icmp_gt C a_R_takesCheckpoint_37 rfl (fun h37 => ?_) (fun h37 => ?_)
      · have e0 : pg_t7 r S m = if pg_nts S 7 (pg_f S.1 m) (pg_a S.1 m) 0 then none else some (S.1, pg_u S.2 9 m 1) := by
          unfold pg_t7
          cases h : pg_nts S 7 (pg_f S.1 m) (pg_a S.1 m) 0 <;> simp [h23, h29, h37]
        refine xj_iconst (v := nI 0) C a_R_takesCheckpoint_42 (by decide) ?_
        refine xj_istore3 C a_R_takesCheckpoint_43 rfl ?_
        have loop : ∀ n j : Nat, j ≤ cl.length → cl.length - j < n → (∀ k (hk : k < cl.length), k < j → ¬ (pg_f S.1 cl[k] = pg_f S.1 m ∧ pg_a S.1 cl[k] = pg_a S.1 m)) → ∀ z : Option Value, xn_X E G (xj_R E G (xp_tk r v (pg_t7 r S m)) 0 0) 0 0 44 [some (.ref (xj_ad G (11, r, 0))), some (.int (nI m)), some (.int (pg_a S.1 m)), some (.int (nI j)), z] [] v := by
          intro n
          induction n with
          | zero => intro j _ h; omega
          | succ n ih =>
            intro j hj hn hno z
            refine xj_iload_n C a_R_takesCheckpoint_44 rfl ?_
            refine xj_aload_n C a_R_takesCheckpoint_45 rfl ?_
            refine xn_g_R_checkpoints C a_R_takesCheckpoint_46 fl_R_24 (by first | assumption | omega) ?_
            refine xn_g_N_size C a_R_takesCheckpoint_49 fl_R_90 (by first | assumption | omega) (by first | assumption | omega) ?_
            refine xj_topi hC.2.2.1 ?_
            refine xj_icmp_ge C a_R_takesCheckpoint_52 rfl (fun h52 => ?_) (fun h52 => ?_)
            · rw [nI_leI (by omega) (by omega)] at h52
              have hnt : pg_nts S 7 (pg_f S.1 m) (pg_a S.1 m) 0 = false := by
                rw [Bool.eq_false_iff]
                intro h
                obtain ⟨q, h1, h2, h3⟩ := (pg_nts7 hc _ _).mp h
                obtain ⟨k, hk2, he⟩ := List.getElem_of_mem h1
                exact hno k hk2 (by omega) ⟨by rw [he]; exact h2, by rw [he]; exact h3⟩
              rw [e0, hnt]
              refine xj_aload_n C a_R_takesCheckpoint_110 rfl ?_
              refine xn_g_R_checkpoints C a_R_takesCheckpoint_111 fl_R_24 (by first | assumption | omega) ?_
              refine xj_iload_n C a_R_takesCheckpoint_114 rfl ?_
              refine xn_callV1 C a_R_takesCheckpoint_115 (c_N_add _ _ v r 1 cl.length hr (by omega) hC.2.2.1 hC.2.1 (nI m)) mv_N_add lk_R_100 ⟨rfl, rfl, rfl⟩ (xj_ok16 (by first | assumption | omega) (by first | assumption | omega)) ⟨by decide, by decide⟩ rfl (Nat.le_of_ble_eq_true rfl) ⟨Nat.le_refl _, Nat.le_refl _⟩ ?_
              refine xj_iconst (v := nI 1) C a_R_takesCheckpoint_118 (by decide) ?_
              refine xj_zret C a_R_takesCheckpoint_119 rfl ?_
              exact ⟨rfl, _, rfl, hR.cpt hz hC hc hm hk, (xf_R.rf r v).add⟩
            · rw [nI_leI (by omega) (by omega)] at h52
              have hq := (hc cl[j]).mp (List.getElem_mem (by omega))
              have hwq := hB.2.2.1 cl[j] hq.1
              have step : ¬ (pg_f S.1 cl[j] = pg_f S.1 m ∧ pg_a S.1 cl[j] = pg_a S.1 m) → ∀ z : Option Value, xn_X E G (xj_R E G (xp_tk r v (pg_t7 r S m)) 0 0) 0 0 104 [some (.ref (xj_ad G (11, r, 0))), some (.int (nI m)), some (.int (pg_a S.1 m)), some (.int (nI j)), z] [] v := by
                intro h z
                refine xj_iincN3 C a_R_takesCheckpoint_104 rfl ?_
                refine xj_goto C a_R_takesCheckpoint_107 rfl ?_
                refine ih (j + 1) (by omega) (by omega) (fun k hk2 h3 => ?_) z
                by_cases e : k = j
                · subst e; exact h
                · exact hno k hk2 (by omega)
              refine xj_aload_n C a_R_takesCheckpoint_55 rfl ?_
              refine xn_g_R_checkpoints C a_R_takesCheckpoint_56 fl_R_24 (by first | assumption | omega) ?_
              refine xn_g_N_at C a_R_takesCheckpoint_59 fl_R_93 (by first | assumption | omega) (by first | assumption | omega) ?_
              refine xj_iload_n C a_R_takesCheckpoint_62 rfl ?_
              refine xn_ld_17 C a_R_takesCheckpoint_63 (by first | assumption | omega) (by first | assumption | omega) (by first | assumption | omega) ?_
              refine xj_topi (hC.at (by omega)) ?_
              refine xj_istore4 C a_R_takesCheckpoint_64 rfl ?_
              refine xj_aload_n C a_R_takesCheckpoint_66 rfl ?_
              refine xn_g_R_board C a_R_takesCheckpoint_67 fl_R_61 (by first | assumption | omega) ?_
              refine xn_g_B_sender C a_R_takesCheckpoint_70 fl_R_76 ?_
              refine xj_iload C a_R_takesCheckpoint_73 rfl ?_
              refine xn_ld_3 C a_R_takesCheckpoint_75 (by first | assumption | omega) ?_
              refine xj_topi (hB.f (by omega)) ?_
              refine xj_aload_n C a_R_takesCheckpoint_76 rfl ?_
              refine xn_g_R_board C a_R_takesCheckpoint_77 fl_R_61 (by first | assumption | omega) ?_
              refine xn_g_B_sender C a_R_takesCheckpoint_80 fl_R_76 ?_
              refine xj_iload_n C a_R_takesCheckpoint_83 rfl ?_
              refine xn_ld_3 C a_R_takesCheckpoint_84 (by first | assumption | omega) ?_
              refine xj_topi (hB.f (by omega)) ?_
              refine xj_icmp_ne C a_R_takesCheckpoint_85 rfl (fun h85 => ?_) (fun h85 => ?_)
              · rw [nI_eq (by omega) (by omega)] at h85
                exact step (fun h => h85 h.1) _
              · rw [nI_eq (by omega) (by omega)] at h85
                refine xj_aload_n C a_R_takesCheckpoint_88 rfl ?_
                refine xn_g_R_board C a_R_takesCheckpoint_89 fl_R_61 (by first | assumption | omega) ?_
                refine xn_g_B_a C a_R_takesCheckpoint_92 fl_R_81 ?_
                refine xj_iload C a_R_takesCheckpoint_95 rfl ?_
                refine xn_ld_4 C a_R_takesCheckpoint_97 (by first | assumption | omega) ?_
                refine xj_topi (hB.a (by omega)) ?_
                refine xj_iload_n C a_R_takesCheckpoint_98 rfl ?_
                refine xj_icmp_ne C a_R_takesCheckpoint_99 rfl (fun h99 => ?_) (fun h99 => ?_)
                · exact step (fun h => h99 h.2) _
                · have hnt : pg_nts S 7 (pg_f S.1 m) (pg_a S.1 m) 0 = true := (pg_nts7 hc _ _).mpr ⟨cl[j], List.getElem_mem (by omega), h85, h99⟩
                  rw [e0, hnt]
                  refine xj_iconst (v := nI 0) C a_R_takesCheckpoint_102 (by decide) ?_
                  refine xj_zret C a_R_takesCheckpoint_103 rfl ?_
                  exact ⟨rfl, rfl⟩
        exact loop (cl.length + 1) 0 (by omega) (by omega) (fun k _ h => absurd h (Nat.not_lt_zero k)) none
      · exact no (by unfold pg_t7; simp [h37]) _ _ _
theorem c_R_isAhead (l : Launch) (G : xj_G) (v : xn_V) (r : Nat) (hr : r < 4) (S : pg_S) (hF : xc_F r S.2 v) (hN : pg_num S.2) (hB : xc_B S.1 v) (m : Nat) (hm : m < S.1.1) : xn_M l G 0 0 m_R_isAhead [.ref (xj_ad G (11, r, 0)), .int (nI m)] v (some (.int (xp_b (pg_later S m)))) v := by
  have hz := hB.2.1
  have hch := hN.2.1
  refine xn_M_of (by decide) (Nat.le_of_ble_eq_true rfl) (fun E hE C => ?_)
  subst hE
  replace C : xj_C E G prog_5_method_14_code "ThreePhaseGroup$Replica" 2 0 0 0 0 (some .boolean) := C
  show xn_X E G _ 0 0 0 [some (.ref (xj_ad G (11, r, 0))), some (.int (nI m))] [] v
  have no : pg_later S m = false → xn_X E G (xj_R E G (fun a' w' => a' = some (.int (xp_b (pg_later S m))) ∧ w' = xn_W v) 0 0) 0 0 43 [some (.ref (xj_ad G (11, r, 0))), some (.int (nI m))] [] v := by
    intro h
    refine xj_iconst (v := nI 0) C a_R_isAhead_43 (by decide) ?_
    refine xj_zret C a_R_isAhead_44 rfl ?_
    exact ⟨xp_f h, rfl⟩
  have yes : pg_later S m = true → xn_X E G (xj_R E G (fun a' w' => a' = some (.int (xp_b (pg_later S m))) ∧ w' = xn_W v) 0 0) 0 0 39 [some (.ref (xj_ad G (11, r, 0))), some (.int (nI m))] [] v := by
    intro h
    refine xj_iconst (v := nI 1) C a_R_isAhead_39 (by decide) ?_
    refine xj_goto C a_R_isAhead_40 rfl ?_
    refine xj_zret C a_R_isAhead_44 rfl ?_
    exact ⟨xp_t h, rfl⟩
  refine xj_aload_n C a_R_isAhead_0 rfl ?_
  refine xn_g_R_board C a_R_isAhead_1 fl_R_61 (by first | assumption | omega) ?_
  refine xn_g_B_a C a_R_isAhead_4 fl_R_81 ?_
  refine xj_iload_n C a_R_isAhead_7 rfl ?_
  refine xn_ld_4 C a_R_isAhead_8 (by first | assumption | omega) ?_
  refine xj_topi (hB.a (by omega)) ?_
  refine xj_aload_n C a_R_isAhead_9 rfl ?_
  refine xn_g_R_view C a_R_isAhead_10 fl_R_31 (by first | assumption | omega) ?_
  refine xj_topi hF.vw ?_
  refine xj_icmp_gt C a_R_isAhead_13 rfl (fun h13 => ?_) (fun h13 => ?_)
  · exact yes (by unfold pg_later; simp [h13])
  · refine xj_aload_n C a_R_isAhead_16 rfl ?_
    refine xn_g_R_board C a_R_isAhead_17 fl_R_61 (by first | assumption | omega) ?_
    refine xn_g_B_a C a_R_isAhead_20 fl_R_81 ?_
    refine xj_iload_n C a_R_isAhead_23 rfl ?_
    refine xn_ld_4 C a_R_isAhead_24 (by first | assumption | omega) ?_
    refine xj_topi (hB.a (by omega)) ?_
    refine xj_aload_n C a_R_isAhead_25 rfl ?_
    refine xn_g_R_view C a_R_isAhead_26 fl_R_31 (by first | assumption | omega) ?_
    refine xj_topi hF.vw ?_
    refine xj_icmp_ne C a_R_isAhead_29 rfl (fun h29 => ?_) (fun h29 => ?_)
    · exact no (by unfold pg_later; simp [h13, h29])
    · refine xj_aload_n C a_R_isAhead_32 rfl ?_
      refine xn_g_R_changing C a_R_isAhead_33 fl_R_35 (by first | assumption | omega) ?_
      refine xj_topi hF.ch ?_
      refine xj_if_eq C a_R_isAhead_36 rfl (fun h36 => ?_) (fun h36 => ?_)
      · refine no ?_
        have : pg_ch S.2 = 0 := by
          have e : nI (pg_ch S.2) = nI 0 := h36
          rw [nI_eq (by omega) (by omega)] at e
          exact e
        unfold pg_later
        simp [h13, this]
      · refine yes ?_
        have : pg_ch S.2 = 1 := by
          have e : ¬ pg_ch S.2 = 0 := fun e => h36 (by rw [e]; rfl)
          omega
        unfold pg_later
        simp [h29, this]
