/-! VIEW-CHANGE -/
/-- of another replica at most one VIEW-CHANGE is noted -/
def pg_vcu (r : Nat) (S : pg_S) : Prop := ∀ i j, pg_no S.2 i = 1 → pg_no S.2 j = 1 → pg_k S.1 i = 5 → pg_k S.1 j = 5 → pg_f S.1 i = pg_f S.1 j → pg_f S.1 i ≠ r → i = j
theorem pg_lvc_some {S : pg_S} {s x : Nat} (h : pg_lvc S s = some x) : x < S.1.1 ∧ pg_no S.2 x = 1 ∧ pg_k S.1 x = 5 ∧ pg_f S.1 x = s := by
  unfold pg_lvc at h
  have h1 := List.mem_of_getLast? h
  rw [List.mem_filter] at h1
  obtain ⟨h2, h3⟩ := h1
  simp only [Bool.and_eq_true, beq_iff_eq] at h3
  exact ⟨List.mem_range.mp h2, h3.1, h3.2.1, h3.2.2⟩
theorem pg_lvc_none {S : pg_S} {s : Nat} (h : pg_lvc S s = none) {x : Nat} (hx : x < S.1.1) : ¬ (pg_no S.2 x = 1 ∧ pg_k S.1 x = 5 ∧ pg_f S.1 x = s) := by
  unfold pg_lvc at h
  rw [List.getLast?_eq_none_iff] at h
  rintro ⟨h1, h2, h3⟩
  have : x ∈ (List.range S.1.1).filter (fun i => pg_no S.2 i == 1 && (pg_k S.1 i == 5 && pg_f S.1 i == s)) := by
    rw [List.mem_filter]
    exact ⟨List.mem_range.mpr hx, by simp [h1, h2, h3]⟩
  rw [h] at this
  cases this
theorem pg_lvc_is {S : pg_S} {s x : Nat} (hx : x < S.1.1) (h : pg_no S.2 x = 1 ∧ pg_k S.1 x = 5 ∧ pg_f S.1 x = s) (hu : ∀ y, y < S.1.1 → pg_no S.2 y = 1 → pg_k S.1 y = 5 → pg_f S.1 y = s → y ≤ x) : pg_lvc S s = some x := by
  cases e : pg_lvc S s with
  | none => exact absurd h (pg_lvc_none e hx)
  | some y =>
    obtain ⟨h1, h2, h3, h4⟩ := pg_lvc_some e
    have h5 := hu y h1 h2 h3 h4
    congr 1
    apply Nat.le_antisymm h5
    unfold pg_lvc at e
    have hp : ((List.range S.1.1).filter (fun i => pg_no S.2 i == 1 && (pg_k S.1 i == 5 && pg_f S.1 i == s))).Pairwise (· < ·) := List.pairwise_lt_range.filter _
    have hxm : x ∈ (List.range S.1.1).filter (fun i => pg_no S.2 i == 1 && (pg_k S.1 i == 5 && pg_f S.1 i == s)) := by
      rw [List.mem_filter]
      exact ⟨List.mem_range.mpr hx, by simp [h.1, h.2.1, h.2.2]⟩
    obtain ⟨L0, hL0⟩ := List.getLast?_eq_some_iff.mp e
    rw [hL0] at hp hxm
    rw [List.mem_append] at hxm
    rcases hxm with hxm | hxm
    · have := (List.pairwise_append.mp hp).2.2 x hxm y (List.mem_singleton.mpr rfl)
      omega
    · have := List.mem_singleton.mp hxm
      omega
theorem pg_tChg_no (S : pg_S) (m i : Nat) : pg_no (pg_u (pg_w S.2 9 (fun i => if i < S.1.1 ∧ pg_no S.2 i = 1 ∧ pg_k S.1 i = 5 ∧ pg_f S.1 i = pg_f S.1 m then 0 else pg_no S.2 i)) 9 m 1) i = if i = m then 1 else if i < S.1.1 ∧ pg_no S.2 i = 1 ∧ pg_k S.1 i = 5 ∧ pg_f S.1 i = pg_f S.1 m then 0 else pg_no S.2 i := by
  rw [pg_no_u]
  rfl
theorem xc_R.vc {r : Nat} {S : pg_S} {v : xn_V} (hR : xc_R r S v) {m : Nat} (hm : m < S.1.1) (hk : pg_k S.1 m = 5) (hf : pg_f S.1 m < 4) : xc_R r (S.1, pg_u (pg_w S.2 9 (fun i => if i < S.1.1 ∧ pg_no S.2 i = 1 ∧ pg_k S.1 i = 5 ∧ pg_f S.1 i = pg_f S.1 m then 0 else pg_no S.2 i)) 9 m 1) (xn_uI v 18 r 0 (pg_f S.1 m) (nI m)) := by
  obtain ⟨hF, ⟨kl, hL, hkl⟩, ⟨cl, hC, hc⟩, hV, hS⟩ := hR
  generalize hR' : pg_u (pg_w S.2 9 (fun i => if i < S.1.1 ∧ pg_no S.2 i = 1 ∧ pg_k S.1 i = 5 ∧ pg_f S.1 i = pg_f S.1 m then 0 else pg_no S.2 i)) 9 m 1 = R'
  have hno : ∀ i, pg_no R' i = if i = m then 1 else if i < S.1.1 ∧ pg_no S.2 i = 1 ∧ pg_k S.1 i = 5 ∧ pg_f S.1 i = pg_f S.1 m then 0 else pg_no S.2 i := fun i => by rw [← hR']; exact pg_tChg_no S m i
  have hno5 : ∀ i, ¬ pg_k S.1 i = 5 → pg_no R' i = pg_no S.2 i := by
    intro i hi
    rw [hno, if_neg (by intro e; subst e; exact hi hk), if_neg (by omega)]
  have hoth : ∀ t i, ¬ t = 9 → R'.1 t i = S.2.1 t i := by
    intro t i ht
    rw [← hR']
    show (if t = 9 ∧ i = m then 1 else if t = 9 then _ else S.2.1 t i) = _
    rw [if_neg (by omega), if_neg ht]
  have hst : R'.2 = S.2.2 := by rw [← hR']; rfl
  have hnv : ∀ k n s, (k = 2 ∨ k = 3) → pg_nv (S.1, R') k n s = pg_nv S k n s := by
    intro k n s hk2
    unfold pg_nv
    rw [xp_find_congr (P := fun i => pg_no S.2 i == 1 && (pg_k S.1 i == k && (pg_f S.1 i == s && (pg_a S.1 i == nI (pg_vw S.2) && pg_b S.1 i == lN n))))]
    intro i _
    show (pg_no R' i == 1 && (pg_k S.1 i == k && (pg_f S.1 i == s && (pg_a S.1 i == nI (pg_vw R') && pg_b S.1 i == lN n)))) = _
    rw [show pg_vw R' = pg_vw S.2 from hoth 0 0 (by decide)]
    by_cases e : pg_k S.1 i = k
    · rw [hno5 i (by omega)]
    · have : (pg_k S.1 i == k) = false := by simpa using e
      rw [this]
      simp
  refine ⟨?_, ⟨kl, hL, fun q => ?_⟩, ⟨cl, hC, fun q => ?_⟩, fun s hs => ?_, fun n h1 h2 => ?_⟩
  · unfold xc_F pg_vw pg_ch pg_h pg_e pg_tm pg_sp pg_af
    show _ ∧ _
    simp only [hoth 0 0 (by decide), hoth 1 0 (by decide), hoth 2 0 (by decide), hoth 3 0 (by decide), hoth 4 0 (by decide), hoth 5 0 (by decide), hoth 11 0 (by decide), hst]
    exact hF
  · show _ ↔ R'.1 10 q = 1
    rw [hoth 10 q (by decide)]
    exact hkl q
  · rw [hc q]
    show _ ↔ (q < S.1.1 ∧ pg_no R' q = 1 ∧ pg_k S.1 q = 7)
    by_cases e : pg_k S.1 q = 7
    · rw [hno5 q (by omega)]
    · constructor
      · rintro ⟨_, _, h⟩; exact absurd h e
      · rintro ⟨_, _, h⟩; exact absurd h e
  · show (if 18 = 18 ∧ r = r ∧ 0 = 0 ∧ s = pg_f S.1 m then nI m else v.1 18 r 0 s) = _
    by_cases e : s = pg_f S.1 m
    · subst e
      rw [if_pos ⟨rfl, rfl, rfl, rfl⟩]
      have : pg_lvc (S.1, R') (pg_f S.1 m) = some m := by
        refine pg_lvc_is hm ⟨?_, hk, rfl⟩ (fun y hy1 hy2 hy3 hy4 => ?_)
        · show pg_no R' m = 1
          rw [hno, if_pos rfl]
        · have hy2 : pg_no R' y = 1 := hy2
          rw [hno] at hy2
          by_cases ey : y = m
          · omega
          · rw [if_neg ey] at hy2
            by_cases e2 : pg_no S.2 y = 1
            · rw [if_pos ⟨hy1, e2, hy3, hy4⟩] at hy2
              omega
            · rw [if_neg (by omega)] at hy2
              exact absurd hy2 e2
      rw [this]
      rfl
    · rw [if_neg (by omega), hV s hs]
      congr 1
      unfold pg_lvc
      congr 1
      apply List.filter_congr
      intro i _
      show _ = (pg_no R' i == 1 && (pg_k S.1 i == 5 && pg_f S.1 i == s))
      by_cases e2 : pg_f S.1 i = s
      · rw [hno, if_neg (by intro e3; subst e3; exact e e2.symm), if_neg (by omega)]
      · have : (pg_f S.1 i == s) = false := by simpa using e2
        rw [this]
        simp
  · have h1 : pg_h S.2 < n := by
      have : pg_h R' = pg_h S.2 := hoth 2 0 (by decide)
      show pg_h S.2 < n
      rw [← this]
      exact h1
    have h2 : n ≤ pg_h S.2 + 4 := by
      have : pg_h R' = pg_h S.2 := hoth 2 0 (by decide)
      rw [← this]
      exact h2
    obtain ⟨a1, a2, a3, a4⟩ := hS n h1 h2
    refine ⟨?_, ?_, ?_, fun s hs => ?_⟩
    · show v.1 13 r (n % 4) 2 = nI (R'.1 6 n) - 2
      rw [hoth 6 n (by decide)]
      exact a1
    · show v.1 13 r (n % 4) 3 = nI (R'.1 7 n) - 2
      rw [hoth 7 n (by decide)]
      exact a2
    · show v.1 13 r (n % 4) 4 = nI (R'.1 8 n)
      rw [hoth 8 n (by decide)]
      exact a3
    · rw [hnv 2 n s (Or.inl rfl), hnv 3 n s (Or.inr rfl)]
      exact a4 s hs
/-- what r takes of a VIEW-CHANGE -/
def pg_t5 (r : Nat) (S : pg_S) (m : Nat) : Option pg_S := if pg_f S.1 m != r && (pg_later S m && pg_gc S.1 m) then pg_tChg S m else none
theorem c_R_takesViewChange (l : Launch) (G : xj_G) (v : xn_V) (r : Nat) (hr : r < 4) (S : pg_S) (hR : xc_R r S v) (hN : pg_num S.2) (hU : pg_vcu r S) (hB : xc_B S.1 v) (m : Nat) (hm : m < S.1.1) (hk : pg_k S.1 m = 5) (hV : v.1 7 0 0 m = xp_b (pg_gc S.1 m)) : xj_Mx l G 1 21 0 0 m_R_takesViewChange [.ref (xj_ad G (11, r, 0)), .int (nI m)] (xn_W v) (xp_tk r v (pg_t5 r S m)) := by
  have hz := hB.2.1
  have hF := hR.1
  have hf4 : pg_f S.1 m < 4 := pg_wf4 hB.2.2.1 hm (by omega)
  refine xj_Mx_of (by decide) (Nat.le_of_ble_eq_true rfl) (fun E hE C _ => ?_)
  subst hE
  replace C : xj_C E G prog_5_method_15_code "ThreePhaseGroup$Replica" 4 1 21 0 0 (some .boolean) := C
  show xn_X E G _ 0 0 0 [some (.ref (xj_ad G (11, r, 0))), some (.int (nI m)), none, none] [] v
  have no : pg_t5 r S m = none → ∀ z1 z2 : Option Value, xn_X E G (xj_R E G (xp_tk r v (pg_t5 r S m)) 0 0) 0 0 38 [some (.ref (xj_ad G (11, r, 0))), some (.int (nI m)), z1, z2] [] v := by
    intro h z1 z2
    rw [h]
    refine xj_iconst (v := nI 0) C a_R_takesViewChange_38 (by decide) ?_
    refine xj_zret C a_R_takesViewChange_39 rfl ?_
    exact ⟨rfl, rfl⟩
  refine xj_aload_n C a_R_takesViewChange_0 rfl ?_
  refine xn_g_R_board C a_R_takesViewChange_1 fl_R_61 (by first | assumption | omega) ?_
  refine xn_g_B_sender C a_R_takesViewChange_4 fl_R_76 ?_
  refine xj_iload_n C a_R_takesViewChange_7 rfl ?_
  refine xn_ld_3 C a_R_takesViewChange_8 (by first | assumption | omega) ?_
  refine xj_topi (hB.f (by omega)) ?_
  refine xj_istore2 C a_R_takesViewChange_9 rfl ?_
  refine xj_aload_n C a_R_takesViewChange_10 rfl ?_
  refine xn_g_R_board C a_R_takesViewChange_11 fl_R_61 (by first | assumption | omega) ?_
  refine xn_g_B_valid C a_R_takesViewChange_14 fl_R_164 ?_
  refine xj_iload_n C a_R_takesViewChange_17 rfl ?_
  refine xn_ld_7 C a_R_takesViewChange_18 (by first | assumption | omega) ?_
  refine xj_topi (hV) ?_
  refine xj_if_eq C a_R_takesViewChange_19 rfl (fun h19 => ?_) (fun h19 => ?_)
  · rw [xp_b0] at h19
    exact no (by unfold pg_t5; simp [h19]) _ _
  · rw [xp_b0] at h19
    have h19 : pg_gc S.1 m = true := by simpa using h19
    refine xj_iload_n C a_R_takesViewChange_22 rfl ?_
    refine xj_aload_n C a_R_takesViewChange_23 rfl ?_
    refine xn_g_R_self C a_R_takesViewChange_24 fl_R_58 (by first | assumption | omega) ?_
    refine xj_topi hF.self ?_
    refine xj_icmp_eq C a_R_takesViewChange_27 rfl (fun h27 => ?_) (fun h27 => ?_)
    · rw [nI_eq (by omega) (by omega)] at h27
      exact no (by unfold pg_t5; simp [h27]) _ _
    · rw [nI_eq (by omega) (by omega)] at h27
      refine xj_aload_n C a_R_takesViewChange_30 rfl ?_
      refine xj_iload_n C a_R_takesViewChange_31 rfl ?_
      refine xn_callV1i C a_R_takesViewChange_32 (c_R_isAhead _ _ v r hr S hF hN hB m hm) mv_R_isAhead lk_R_168 ⟨rfl, rfl, rfl⟩ (xj_ok11 (by first | assumption | omega)) ⟨by decide, by decide⟩ rfl (Nat.le_of_ble_eq_true rfl) ⟨Nat.le_refl _, Nat.le_refl _⟩ ?_
      refine xj_if_ne C a_R_takesViewChange_35 rfl (fun h35 => ?_) (fun h35 => ?_)
      · rw [xp_b0] at h35
        have h35 : pg_later S m = true := by simpa using h35
        have e1 : pg_t5 r S m = pg_tChg S m := by unfold pg_t5; simp [h19, h27, h35]
        rw [e1]
        have fin : (∀ i, i < S.1.1 → pg_no S.2 i = 1 → pg_k S.1 i = 5 → pg_f S.1 i = pg_f S.1 m → ¬ pg_a S.1 m ≤ pg_a S.1 i) → ∀ z : Option Value, xn_X E G (xj_R E G (xp_tk r v (pg_tChg S m)) 0 0) 0 0 76 [some (.ref (xj_ad G (11, r, 0))), some (.int (nI m)), some (.int (nI (pg_f S.1 m))), z] [] v := by
          intro h z
          have e : pg_tChg S m = some (S.1, pg_u (pg_w S.2 9 (fun i => if i < S.1.1 ∧ pg_no S.2 i = 1 ∧ pg_k S.1 i = 5 ∧ pg_f S.1 i = pg_f S.1 m then 0 else pg_no S.2 i)) 9 m 1) := by
            unfold pg_tChg
            rw [if_neg]
            intro h2
            rw [List.any_eq_true] at h2
            obtain ⟨i, h3, h4⟩ := h2
            simp only [Bool.and_eq_true, beq_iff_eq, decide_eq_true_eq] at h4
            exact h i (List.mem_range.mp h3) h4.1 h4.2.1 h4.2.2.1 h4.2.2.2
          rw [e]
          refine xj_aload_n C a_R_takesViewChange_76 rfl ?_
          refine xn_g_R_viewChanges C a_R_takesViewChange_77 fl_R_27 (by first | assumption | omega) ?_
          refine xj_iload_n C a_R_takesViewChange_80 rfl ?_
          refine xj_iload_n C a_R_takesViewChange_81 rfl ?_
          refine xn_st_18 C a_R_takesViewChange_82 (by first | assumption | omega) (by first | assumption | omega) ?_
          refine xj_iconst (v := nI 1) C a_R_takesViewChange_83 (by decide) ?_
          refine xj_zret C a_R_takesViewChange_84 rfl ?_
          exact ⟨rfl, _, rfl, hR.vc hm hk hf4, (xf_R.rf r v).uI (by omega)⟩
        have hvc := hR.2.2.2.1 _ hf4
        refine xj_aload_n C a_R_takesViewChange_40 rfl ?_
        refine xn_g_R_viewChanges C a_R_takesViewChange_41 fl_R_27 (by first | assumption | omega) ?_
        refine xj_iload_n C a_R_takesViewChange_44 rfl ?_
        refine xn_ld_18 C a_R_takesViewChange_45 (by first | assumption | omega) (by first | assumption | omega) ?_
        refine xj_topi hvc ?_
        refine xj_istore3 C a_R_takesViewChange_46 rfl ?_
        refine xj_iload_n C a_R_takesViewChange_47 rfl ?_
        refine xj_bipush (v := -2) C a_R_takesViewChange_48 (by decide) ?_
        refine xj_icmp_eq C a_R_takesViewChange_50 rfl (fun h50 => ?_) (fun h50 => ?_)
        · have e : pg_lvc S (pg_f S.1 m) = none := by
            cases e : pg_lvc S (pg_f S.1 m) with
            | none => rfl
            | some x =>
              rw [e] at h50
              have := (pg_lvc_some e).1
              exact absurd h50 (xp_ne2 (by omega))
          exact fin (fun i hi h1 h2 h3 => absurd ⟨h1, h2, h3⟩ (pg_lvc_none e hi)) _
        · obtain ⟨x, e⟩ : ∃ x, pg_lvc S (pg_f S.1 m) = some x := by
            cases e : pg_lvc S (pg_f S.1 m) with
            | none => rw [e] at h50; exact absurd rfl h50
            | some x => exact ⟨x, rfl⟩
          obtain ⟨x1, x2, x3, x4⟩ := pg_lvc_some e
          rw [e]
          refine xj_aload_n C a_R_takesViewChange_53 rfl ?_
          refine xn_g_R_board C a_R_takesViewChange_54 fl_R_61 (by first | assumption | omega) ?_
          refine xn_g_B_a C a_R_takesViewChange_57 fl_R_81 ?_
          refine xj_iload_n C a_R_takesViewChange_60 rfl ?_
          refine xn_ld_4 C a_R_takesViewChange_61 (by first | assumption | omega) ?_
          refine xj_topi (hB.a (by omega)) ?_
          refine xj_aload_n C a_R_takesViewChange_62 rfl ?_
          refine xn_g_R_board C a_R_takesViewChange_63 fl_R_61 (by first | assumption | omega) ?_
          refine xn_g_B_a C a_R_takesViewChange_66 fl_R_81 ?_
          refine xj_iload_n C a_R_takesViewChange_69 rfl ?_
          refine xn_ld_4 C a_R_takesViewChange_70 (by first | assumption | omega) ?_
          refine xj_topi (hB.a (by omega)) ?_
          refine xj_icmp_gt C a_R_takesViewChange_71 rfl (fun h71 => ?_) (fun h71 => ?_)
          · refine fin (fun i hi h1 h2 h3 => ?_) _
            have : i = x := hU i x h1 x2 h2 x3 (by rw [h3, x4]) (by rw [h3]; exact h27)
            subst this
            exact Int32.not_le.mpr h71
          · have e2 : pg_tChg S m = none := by
              unfold pg_tChg
              rw [if_pos]
              rw [List.any_eq_true]
              refine ⟨x, List.mem_range.mpr x1, ?_⟩
              simp [x2, x3, x4, Int32.not_lt.mp h71]
            rw [e2]
            refine xj_iconst (v := nI 0) C a_R_takesViewChange_74 (by decide) ?_
            refine xj_zret C a_R_takesViewChange_75 rfl ?_
            exact ⟨rfl, rfl⟩
      · rw [xp_b0] at h35
        exact no (by unfold pg_t5; simp [h35]) _ _
