/-! a replica moves to a view; it settles -/
def xn_mv (v : xn_V) (r : Nat) (y : Int32) (s : Nat) : xn_V := (fun k' r' i' x' => if k' = 13 ∧ r' = r ∧ i' < s ∧ x' = 2 then -2 else if k' = 11 ∧ r' = r ∧ i' = 0 ∧ x' = 13 then nI 1 else if k' = 11 ∧ r' = r ∧ i' = 0 ∧ x' = 6 then y else v.1 k' r' i' x', fun k' r' i' x' => if (k' = 14 ∨ k' = 15) ∧ r' = r ∧ i' < s ∧ x' < 4 then 1099511627776 else v.2 k' r' i' x')
theorem xn_mv_0 (v : xn_V) (r : Nat) (y : Int32) : xn_uI (xn_uI v 11 r 0 6 y) 11 r 0 13 (nI 1) = xn_mv v r y 0 := by
  unfold xn_uI xn_mv
  refine Prod.ext ?_ ?_
  · funext k' r' i' x'
    dsimp only
    rw [if_neg (show ¬ (k' = 13 ∧ r' = r ∧ i' < 0 ∧ x' = 2) by omega)]
  · funext k' r' i' x'
    dsimp only
    rw [if_neg (show ¬ ((k' = 14 ∨ k' = 15) ∧ r' = r ∧ i' < 0 ∧ x' < 4) by omega)]
theorem xn_mv_s (v : xn_V) (r : Nat) (y : Int32) (s : Nat) : xn_fw (xn_mv v r y s) r s 4 = xn_mv v r y (s + 1) := by
  unfold xn_fw xn_mv
  refine Prod.ext ?_ ?_
  · funext k' r' i' x'
    dsimp only
    by_cases h1 : k' = 13 ∧ r' = r ∧ i' = s ∧ x' = 2
    · rw [if_pos h1, if_pos (show k' = 13 ∧ r' = r ∧ i' < s + 1 ∧ x' = 2 by omega)]
    · rw [if_neg h1]
      by_cases h2 : k' = 13 ∧ r' = r ∧ i' < s ∧ x' = 2
      · rw [if_pos h2, if_pos (show k' = 13 ∧ r' = r ∧ i' < s + 1 ∧ x' = 2 by omega)]
      · rw [if_neg h2, if_neg (show ¬ (k' = 13 ∧ r' = r ∧ i' < s + 1 ∧ x' = 2) by omega)]
  · funext k' r' i' x'
    dsimp only
    by_cases h1 : (k' = 14 ∨ k' = 15) ∧ r' = r ∧ i' = s ∧ x' < 4
    · rw [if_pos h1, if_pos (show (k' = 14 ∨ k' = 15) ∧ r' = r ∧ i' < s + 1 ∧ x' < 4 by omega)]
    · rw [if_neg h1]
      by_cases h2 : (k' = 14 ∨ k' = 15) ∧ r' = r ∧ i' < s ∧ x' < 4
      · rw [if_pos h2, if_pos (show (k' = 14 ∨ k' = 15) ∧ r' = r ∧ i' < s + 1 ∧ x' < 4 by omega)]
      · rw [if_neg h2, if_neg (show ¬ ((k' = 14 ∨ k' = 15) ∧ r' = r ∧ i' < s + 1 ∧ x' < 4) by omega)]
theorem c_R_moveTo (l : Launch) (G : xj_G) (v : xn_V) (r : Nat) (hr : r < 4) (y : Int32) : xn_M l G 1 21 m_R_moveTo [.ref (xj_ad G (11, r, 0)), .int y] v none (xn_mv v r y 4) := by
  refine xn_M_of (by decide) (Nat.le_of_ble_eq_true rfl) (fun E hE C => ?_)
  subst hE
  replace C : xj_C E G prog_5_method_34_code "ThreePhaseGroup$Replica" 3 1 21 0 0 none := C
  show xn_X E G _ 0 0 0 [some (.ref (xj_ad G (11, r, 0))), some (.int y), none] [] v
  refine xj_aload_n C a_R_moveTo_0 rfl ?_
  refine xj_iload_n C a_R_moveTo_1 rfl ?_
  refine xn_p_R_view C a_R_moveTo_2 fl_R_31 (by first | assumption | omega) ?_
  refine xj_aload_n C a_R_moveTo_5 rfl ?_
  refine xj_iconst (v := nI 1) C a_R_moveTo_6 (by decide) ?_
  refine xn_p_R_renewing C a_R_moveTo_7 fl_R_55 (by first | assumption | omega) (by decide) ?_
  refine xj_as (w2 := xn_W (xn_mv v r y 0)) (by rw [xn_mv_0]) ?_
  refine xj_iconst (v := nI 0) C a_R_moveTo_10 (by decide) ?_
  refine xj_istore2 C a_R_moveTo_11 rfl ?_
  have loop : ∀ n s : Nat, s ≤ 4 → 4 - s < n → xn_X E G (xj_R E G (fun a' w' => a' = none ∧ w' = xn_W (xn_mv v r y 4)) 0 0) 0 0 12 [some (.ref (xj_ad G (11, r, 0))), some (.int y), some (.int (nI s))] [] (xn_mv v r y s) := by
    intro n
    induction n with
    | zero => intro s _ h; omega
    | succ n ih =>
      intro s hs hn
      refine xj_iload_n C a_R_moveTo_12 rfl ?_
      refine xj_iconst (v := nI 4) C a_R_moveTo_13 (by decide) ?_
      refine xj_icmp_ge C a_R_moveTo_14 rfl (fun h14 => ?_) (fun h14 => ?_)
      · rw [nI_leI (by omega) (by omega)] at h14
        have : s = 4 := by omega
        subst this
        refine xj_vret C a_R_moveTo_32 ?_
        exact ⟨rfl, rfl⟩
      · rw [nI_leI (by omega) (by omega)] at h14
        refine xj_aload_n C a_R_moveTo_17 rfl ?_
        refine xn_g_R_slots C a_R_moveTo_18 fl_R_11 (by first | assumption | omega) ?_
        refine xj_iload_n C a_R_moveTo_21 rfl ?_
        refine xn_ld_12 C a_R_moveTo_22 (by first | assumption | omega) (by first | assumption | omega) ?_
        refine xn_callV0 C a_R_moveTo_23 (c_S_forgetView _ _ (xn_mv v r y s) r s hr (by omega)) mv_S_forgetView lk_R_277 ⟨rfl, rfl, rfl⟩ (xj_ok13 (by first | assumption | omega) (by first | assumption | omega)) ⟨by decide, by decide⟩ rfl (Nat.le_of_ble_eq_true rfl) ⟨Nat.le_refl _, Nat.le_refl _⟩ ?_
        refine xj_as (w2 := xn_W (xn_mv v r y (s + 1))) (by rw [xn_mv_s]) ?_
        refine xj_iincN2 C a_R_moveTo_26 rfl ?_
        refine xj_goto C a_R_moveTo_29 rfl ?_
        exact ih (s + 1) (by omega) (by omega)
  exact loop 5 0 (by omega) (by omega)
/-- nothing is noted for that view -/
def pg_fre (S : pg_S) (w : Nat) : Prop := ∀ i, pg_no S.2 i = 1 → (pg_k S.1 i = 2 ∨ pg_k S.1 i = 3) → ¬ pg_a S.1 i = nI w
theorem pg_nv_fre {S : pg_S} {w k n s : Nat} (h : pg_fre S w) (hk : k = 2 ∨ k = 3) {R' : pg_R} (hn : ∀ i, pg_no R' i = pg_no S.2 i) (hw : pg_vw R' = w) : pg_nv (S.1, R') k n s = 1099511627776 := by
  unfold pg_nv
  rw [xp_find_none]
  intro i _
  show (pg_no R' i == 1 && (pg_k S.1 i == k && (pg_f S.1 i == s && (pg_a S.1 i == nI (pg_vw R') && pg_b S.1 i == lN n)))) = false
  rw [hn, hw, Bool.eq_false_iff]
  intro h2
  simp only [Bool.and_eq_true, beq_iff_eq] at h2
  exact h i h2.1 (by omega) h2.2.2.2.1
theorem xc_R.move {r : Nat} {S : pg_S} {v : xn_V} (hR : xc_R r S v) {w : Nat} (hf : pg_fre S w) : xc_R r (S.1, pg_mv S.2 w) (xn_mv v r (nI w) 4) := by
  obtain ⟨hF, ⟨kl, hL, hkl⟩, ⟨cl, hC, hc⟩, hV, hS⟩ := hR
  have hoth : ∀ t i, ¬ t = 6 → ¬ t = 0 → ¬ t = 11 → (pg_mv S.2 w).1 t i = S.2.1 t i := by
    intro t i h1 h2 h3
    show (if t = 6 then 0 else if t = 11 ∧ i = 0 then 1 else if t = 0 ∧ i = 0 then w else S.2.1 t i) = _
    rw [if_neg h1, if_neg (by omega), if_neg (by omega)]
  have c1 : ∀ k r' i x, ¬ (k = 13 ∧ x = 2) → ¬ (k = 11 ∧ (x = 13 ∨ x = 6)) → (xn_mv v r (nI w) 4).1 k r' i x = v.1 k r' i x := by
    intro k r' i x h1 h2
    show (if k = 13 ∧ r' = r ∧ i < 4 ∧ x = 2 then _ else if k = 11 ∧ r' = r ∧ i = 0 ∧ x = 13 then _ else if k = 11 ∧ r' = r ∧ i = 0 ∧ x = 6 then _ else v.1 k r' i x) = _
    rw [if_neg (by omega), if_neg (by omega), if_neg (by omega)]
  refine ⟨?_, ⟨kl, hL.keep (c1 _ _ _ _ (by omega) (by omega)) (fun j _ => c1 _ _ _ _ (by omega) (by omega)), hkl⟩, ⟨cl, hC.keep (c1 _ _ _ _ (by omega) (by omega)) (fun j _ => c1 _ _ _ _ (by omega) (by omega)), hc⟩, fun s hs => ?_, fun n h1 h2 => ?_⟩
  · obtain ⟨f1, f2, f3, f4, f5, f6, f7, f8, f9⟩ := hF
    refine ⟨?_, ?_, ?_, ?_, ?_, ?_, ?_, ?_, ?_⟩
    · rw [c1 _ _ _ _ (by omega) (by omega)]; exact f1
    · simp [xn_mv, pg_mv, pg_drop, xn_uI, xn_uJ, pg_u, pg_w, pg_ss, pg_ac, pg_de, pg_ct, pg_no, pg_kn, pg_vw, pg_ch, pg_h, pg_e, pg_sp, pg_tm, pg_af]
    · rw [c1 _ _ _ _ (by omega) (by omega)]; exact f3
    · rw [c1 _ _ _ _ (by omega) (by omega)]; exact f4
    · rw [c1 _ _ _ _ (by omega) (by omega)]; exact f5
    · show (if (11 = 14 ∨ 11 = 15) ∧ r = r ∧ 0 < 4 ∧ 10 < 4 then (1099511627776 : Int64) else v.2 11 r 0 10) = S.2.2
      rw [if_neg (by omega)]
      exact f6
    · rw [c1 _ _ _ _ (by omega) (by omega)]; exact f7
    · rw [c1 _ _ _ _ (by omega) (by omega)]; exact f8
    · simp [xn_mv, pg_mv, pg_drop, xn_uI, xn_uJ, pg_u, pg_w, pg_ss, pg_ac, pg_de, pg_ct, pg_no, pg_kn, pg_vw, pg_ch, pg_h, pg_e, pg_sp, pg_tm, pg_af]
  · rw [c1 _ _ _ _ (by omega) (by omega)]
    exact hV s hs
  · obtain ⟨a1, a2, a3, a4⟩ := hS n h1 h2
    have h4 : n % 4 < 4 := Nat.mod_lt _ (by decide)
    have hw : pg_vw (pg_mv S.2 w) = w := by simp [pg_mv, pg_drop, xn_uI, xn_uJ, pg_u, pg_w, pg_ss, pg_ac, pg_de, pg_ct, pg_no, pg_kn, pg_vw, pg_ch, pg_h, pg_e, pg_sp, pg_tm, pg_af]
    refine ⟨?_, ?_, ?_, fun s hs => ?_⟩
    · have : pg_ac (pg_mv S.2 w) n = 0 := by simp [pg_mv, pg_drop, xn_uI, xn_uJ, pg_u, pg_w, pg_ss, pg_ac, pg_de, pg_ct, pg_no, pg_kn, pg_vw, pg_ch, pg_h, pg_e, pg_sp, pg_tm, pg_af]
      rw [this]
      show (if 13 = 13 ∧ r = r ∧ n % 4 < 4 ∧ 2 = 2 then (-2 : Int32) else _) = _
      rw [if_pos ⟨rfl, rfl, h4, rfl⟩]
      decide
    · rw [c1 _ _ _ _ (by omega) (by omega)]; exact a2
    · rw [c1 _ _ _ _ (by omega) (by omega)]; exact a3
    · rw [pg_nv_fre hf (Or.inl rfl) (fun i => hoth 9 i (by decide) (by decide) (by decide)) hw, pg_nv_fre hf (Or.inr rfl) (fun i => hoth 9 i (by decide) (by decide) (by decide)) hw]
      constructor
      · show (if (14 = 14 ∨ 14 = 15) ∧ r = r ∧ n % 4 < 4 ∧ s < 4 then (1099511627776 : Int64) else _) = _
        rw [if_pos ⟨Or.inl rfl, rfl, h4, hs⟩]
      · show (if (15 = 14 ∨ 15 = 15) ∧ r = r ∧ n % 4 < 4 ∧ s < 4 then (1099511627776 : Int64) else _) = _
        rw [if_pos ⟨Or.inr rfl, rfl, h4, hs⟩]
theorem xf_R.mv {r : Nat} {v v1 : xn_V} (h : xf_R r v v1) {y : Int32} {s : Nat} : xf_R r v (xn_mv v1 r y s) := by
  intro k' r' i' x' hn
  have h2 := h k' r' i' x' hn
  constructor
  · show (if k' = 13 ∧ r' = r ∧ i' < s ∧ x' = 2 then _ else if k' = 11 ∧ r' = r ∧ i' = 0 ∧ x' = 13 then _ else if k' = 11 ∧ r' = r ∧ i' = 0 ∧ x' = 6 then _ else v1.1 k' r' i' x') = _
    rw [if_neg (by omega), if_neg (by omega), if_neg (by omega)]
    exact h2.1
  · show (if (k' = 14 ∨ k' = 15) ∧ r' = r ∧ i' < s ∧ x' < 4 then _ else v1.2 k' r' i' x') = _
    rw [if_neg (by omega)]
    exact h2.2
/-- c slots from h + 1 on are wiped -/
def xn_sc (v : xn_V) (r h c : Nat) : xn_V := (fun k' r' i' x' => if k' = 13 ∧ r' = r ∧ i' < 4 ∧ (i' + 3 * (h + 1)) % 4 < c ∧ (x' = 2 ∨ x' = 3 ∨ x' = 4) then (if x' = 4 then nI 0 else -2) else v.1 k' r' i' x', fun k' r' i' x' => if (k' = 14 ∨ k' = 15) ∧ r' = r ∧ i' < 4 ∧ (i' + 3 * (h + 1)) % 4 < c ∧ x' < 4 then 1099511627776 else v.2 k' r' i' x')
theorem xn_sc_0 (v : xn_V) (r h : Nat) : v = xn_sc v r h 0 := by
  unfold xn_sc
  refine Prod.ext ?_ ?_
  · funext k' r' i' x'
    dsimp only
    rw [if_neg (by omega)]
  · funext k' r' i' x'
    dsimp only
    rw [if_neg (by omega)]
theorem xn_sc_s (v : xn_V) (r h c : Nat) (hc : c < 4) : xn_fp (xn_fw (xn_sc v r h c) r ((h + 1 + c) % 4) 4) r ((h + 1 + c) % 4) = xn_sc v r h (c + 1) := by
  unfold xn_fp xn_fw xn_sc xn_uI
  refine Prod.ext ?_ ?_
  · funext k' r' i' x'
    dsimp only
    by_cases h0 : k' = 13 ∧ r' = r
    · obtain ⟨rfl, rfl⟩ := h0
      by_cases h1 : i' = (h + 1 + c) % 4
      · have h5 : (i' + 3 * (h + 1)) % 4 = c := by omega
        have h6 : i' < 4 := by omega
        by_cases x4 : x' = 4
        · rw [if_pos (by omega), if_pos (by omega), if_pos x4]
        · rw [if_neg (by omega)]
          by_cases x3 : x' = 3
          · rw [if_pos (by omega), if_pos (by omega), if_neg x4]
          · rw [if_neg (by omega)]
            by_cases x2 : x' = 2
            · rw [if_pos (by omega), if_pos (by omega), if_neg x4]
            · rw [if_neg (by omega), if_neg (by omega), if_neg (by omega)]
      · rw [if_neg (by omega), if_neg (by omega), if_neg (by omega)]
        by_cases h5 : i' < 4 ∧ (i' + 3 * (h + 1)) % 4 < c ∧ (x' = 2 ∨ x' = 3 ∨ x' = 4)
        · rw [if_pos ⟨rfl, rfl, h5⟩, if_pos (show 13 = 13 ∧ r' = r' ∧ i' < 4 ∧ (i' + 3 * (h + 1)) % 4 < c + 1 ∧ (x' = 2 ∨ x' = 3 ∨ x' = 4) by omega)]
        · rw [if_neg (by omega), if_neg (by omega)]
    · rw [if_neg (by omega), if_neg (by omega), if_neg (by omega), if_neg (by omega), if_neg (by omega)]
  · funext k' r' i' x'
    dsimp only
    by_cases h1 : (k' = 14 ∨ k' = 15) ∧ r' = r ∧ i' = (h + 1 + c) % 4 ∧ x' < 4
    · rw [if_pos h1, if_pos (by omega)]
    · rw [if_neg h1]
      by_cases h2 : (k' = 14 ∨ k' = 15) ∧ r' = r ∧ i' < 4 ∧ (i' + 3 * (h + 1)) % 4 < c ∧ x' < 4
      · rw [if_pos h2, if_pos (by omega)]
      · rw [if_neg h2, if_neg (by omega)]
/-- the cells behind settling -/
def xn_sl (v : xn_V) (r h e n : Nat) (x : Int64) : xn_V :=
  let v1 := xn_uI (xn_sc v r h (min 4 (n - h))) 11 r 0 8 (nI n)
  if n ≤ e then v1 else xn_uJ (xn_uI v1 11 r 0 9 (nI n)) 11 r 0 10 x
theorem c_R_settle (l : Launch) (G : xj_G) (v : xn_V) (r : Nat) (hr : r < 4) (h e n : Nat) (hh : h < 400) (he : e < 1000) (hn : n < 1000) (hnh : h < n) (h8 : v.1 11 r 0 8 = nI h) (h9 : v.1 11 r 0 9 = nI e) (x : Int64) : xn_M l G 1 22 m_R_settle [.ref (xj_ad G (11, r, 0)), .int (nI n), .long x] v none (xn_sl v r h e n x) := by
  refine xn_M_of (by decide) (Nat.le_of_ble_eq_true rfl) (fun E hE C => ?_)
  subst hE
  replace C : xj_C E G prog_5_method_33_code "ThreePhaseGroup$Replica" 5 1 22 0 0 none := C
  show xn_X E G _ 0 0 0 [some (.ref (xj_ad G (11, r, 0))), some (.int (nI n)), some (.long x), none, none] [] v
  refine xj_aload_n C a_R_settle_0 rfl ?_
  refine xn_g_R_stable C a_R_settle_1 fl_R_39 (by first | assumption | omega) ?_
  refine xj_topi h8 ?_
  refine xj_iconst (v := nI 1) C a_R_settle_4 (by decide) ?_
  refine xj_iadd C a_R_settle_5 ?_
  refine xj_topi (nI_add h 1) ?_
  refine xj_istore4 C a_R_settle_6 rfl ?_
  refine xj_as (w2 := xn_W (xn_sc v r h 0)) (by rw [← xn_sc_0]) ?_
  have c8 : ∀ c, (xn_sc v r h c).1 11 r 0 8 = nI h := by intro c; simp [xn_sc, h8]
  have c9 : ∀ c, (xn_sc v r h c).1 11 r 0 9 = nI e := by intro c; simp [xn_sc, h9]
  have loop : ∀ N c : Nat, c ≤ min 4 (n - h) → min 4 (n - h) - c < N → xn_X E G (xj_R E G (fun a' w' => a' = none ∧ w' = xn_W (xn_sl v r h e n x)) 0 0) 0 0 8 [some (.ref (xj_ad G (11, r, 0))), some (.int (nI n)), some (.long x), none, some (.int (nI (h + 1 + c)))] [] (xn_sc v r h c) := by
    intro N
    induction N with
    | zero => intro c _ h; omega
    | succ N ih =>
      intro c hc hN
      have fin : c = min 4 (n - h) → xn_X E G (xj_R E G (fun a' w' => a' = none ∧ w' = xn_W (xn_sl v r h e n x)) 0 0) 0 0 51 [some (.ref (xj_ad G (11, r, 0))), some (.int (nI n)), some (.long x), none, some (.int (nI (h + 1 + c)))] [] (xn_sc v r h c) := by
        intro hcc
        refine xj_aload_n C a_R_settle_51 rfl ?_
        refine xj_iload_n C a_R_settle_52 rfl ?_
        refine xn_p_R_stable C a_R_settle_53 fl_R_39 (by first | assumption | omega) ?_
        refine xj_aload_n C a_R_settle_56 rfl ?_
        refine xn_g_R_executed C a_R_settle_57 fl_R_42 (by first | assumption | omega) ?_
        refine xj_topi (y := nI e) (by simp [xn_uI, c9]) ?_
        refine xj_iload_n C a_R_settle_60 rfl ?_
        refine xj_icmp_ge C a_R_settle_61 rfl (fun h61 => ?_) (fun h61 => ?_)
        · rw [nI_leI (by omega) (by omega)] at h61
          refine xj_vret C a_R_settle_74 ?_
          refine ⟨rfl, ?_⟩
          unfold xn_sl
          rw [if_pos h61, hcc]
        · rw [nI_leI (by omega) (by omega)] at h61
          refine xj_aload_n C a_R_settle_64 rfl ?_
          refine xj_iload_n C a_R_settle_65 rfl ?_
          refine xn_p_R_executed C a_R_settle_66 fl_R_42 (by first | assumption | omega) ?_
          refine xj_aload_n C a_R_settle_69 rfl ?_
          refine xj_lload_n C a_R_settle_70 rfl ?_
          refine xn_p_R_state C a_R_settle_71 fl_R_45 (by first | assumption | omega) ?_
          refine xj_vret C a_R_settle_74 ?_
          refine ⟨rfl, ?_⟩
          unfold xn_sl
          rw [if_neg h61, hcc]
      refine xj_iload C a_R_settle_8 rfl ?_
      refine xj_aload_n C a_R_settle_10 rfl ?_
      refine xn_g_R_stable C a_R_settle_11 fl_R_39 (by first | assumption | omega) ?_
      refine xj_topi (c8 c) ?_
      refine xj_iconst (v := nI 4) C a_R_settle_14 (by decide) ?_
      refine xj_iadd C a_R_settle_15 ?_
      refine xj_topi (nI_add h 4) ?_
      refine xj_icmp_gt C a_R_settle_16 rfl (fun h16 => ?_) (fun h16 => ?_)
      · rw [nI_ltI (by omega) (by omega)] at h16
        exact fin (by omega)
      · rw [nI_ltI (by omega) (by omega)] at h16
        refine xj_iload C a_R_settle_19 rfl ?_
        refine xj_iload_n C a_R_settle_21 rfl ?_
        refine xj_icmp_gt C a_R_settle_22 rfl (fun h22 => ?_) (fun h22 => ?_)
        · rw [nI_ltI (by omega) (by omega)] at h22
          exact fin (by omega)
        · rw [nI_ltI (by omega) (by omega)] at h22
          have h4 : (h + 1 + c) % 4 < 4 := Nat.mod_lt _ (by decide)
          have hl : (nI (h + 1 + c)).toInt64 = lN (h + 1 + c) := nI_l (by omega)
          refine xj_aload_n C a_R_settle_25 rfl ?_
          refine xj_iload C a_R_settle_26 rfl ?_
          refine xj_i2l C a_R_settle_28 ?_
          refine xj_topl hl ?_
          refine xn_callV1r C a_R_settle_29 (c_R_slotAt _ _ _ r (h + 1 + c) hr (by omega)) mv_R_slotAt lk_R_145 ⟨rfl, rfl, rfl⟩ (xj_ok11 (by first | assumption | omega)) ⟨by decide, by decide⟩ rfl (Nat.le_of_ble_eq_true rfl) ⟨Nat.le_refl _, Nat.le_refl _⟩ ?_
          refine xn_callV0 C a_R_settle_32 (c_S_forgetView _ _ _ r ((h + 1 + c) % 4) hr h4) mv_S_forgetView lk_R_277 ⟨rfl, rfl, rfl⟩ (xj_ok13 (by first | assumption | omega) (by first | assumption | omega)) ⟨by decide, by decide⟩ rfl (Nat.le_of_ble_eq_true rfl) ⟨Nat.le_refl _, Nat.le_refl _⟩ ?_
          refine xj_aload_n C a_R_settle_35 rfl ?_
          refine xj_iload C a_R_settle_36 rfl ?_
          refine xj_i2l C a_R_settle_38 ?_
          refine xj_topl hl ?_
          refine xn_callV1r C a_R_settle_39 (c_R_slotAt _ _ _ r (h + 1 + c) hr (by omega)) mv_R_slotAt lk_R_145 ⟨rfl, rfl, rfl⟩ (xj_ok11 (by first | assumption | omega)) ⟨by decide, by decide⟩ rfl (Nat.le_of_ble_eq_true rfl) ⟨Nat.le_refl _, Nat.le_refl _⟩ ?_
          refine xn_callV0 C a_R_settle_42 (c_S_forgetProofs _ _ _ r ((h + 1 + c) % 4) hr h4) mv_S_forgetProofs lk_R_280 ⟨rfl, rfl, rfl⟩ (xj_ok13 (by first | assumption | omega) (by first | assumption | omega)) ⟨by decide, by decide⟩ rfl (Nat.le_of_ble_eq_true rfl) ⟨Nat.le_refl _, Nat.le_refl _⟩ ?_
          refine xj_as (w2 := xn_W (xn_sc v r h (c + 1))) (by rw [xn_sc_s v r h c (by omega)]) ?_
          refine xj_iincN4 C a_R_settle_45 rfl ?_
          refine xj_goto C a_R_settle_48 rfl ?_
          exact ih (c + 1) (by omega) (by omega)
  exact loop 6 0 (by omega) (by omega)
