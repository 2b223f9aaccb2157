/-! the primary of a new view opens it -/
/-- own VIEW-CHANGEs have growing views -/
def pg_vi (r : Nat) (S : pg_S) : Prop := ∀ i j, i < j → j < S.1.1 → pg_no S.2 i = 1 → pg_no S.2 j = 1 → pg_k S.1 i = 5 → pg_k S.1 j = 5 → pg_f S.1 i = r → pg_f S.1 j = r → pg_a S.1 i < pg_a S.1 j
theorem pg_vc_some {S : pg_S} {s x : Nat} (h : pg_vc S s = some x) : x < S.1.1 ∧ pg_no S.2 x = 1 ∧ pg_k S.1 x = 5 ∧ pg_a S.1 x = nI (pg_vw S.2) ∧ pg_f S.1 x = s := by
  unfold pg_vc at h
  have h1 := List.mem_of_getLast? h
  rw [List.mem_filter] at h1
  obtain ⟨h2, h3⟩ := h1
  simp only [Bool.and_eq_true, beq_iff_eq] at h3
  exact ⟨List.mem_range.mp h2, h3.1, h3.2.1, h3.2.2.1, h3.2.2.2⟩
theorem pg_vc_none {S : pg_S} {s : Nat} (h : pg_vc S s = none) {x : Nat} (hx : x < S.1.1) : ¬ (pg_no S.2 x = 1 ∧ pg_k S.1 x = 5 ∧ pg_a S.1 x = nI (pg_vw S.2) ∧ pg_f S.1 x = s) := by
  unfold pg_vc at h
  rw [List.getLast?_eq_none_iff] at h
  rintro ⟨h1, h2, h3, h4⟩
  have : x ∈ (List.range S.1.1).filter (fun i => pg_no S.2 i == 1 && (pg_k S.1 i == 5 && (pg_a S.1 i == nI (pg_vw S.2) && pg_f S.1 i == s))) := by
    rw [List.mem_filter]
    exact ⟨List.mem_range.mpr hx, by simp [h1, h2, h3, h4]⟩
  rw [h] at this
  cases this
/-- the noted VIEW-CHANGE of s for the view is its latest one -/
theorem pg_vc_lvc {r : Nat} {S : pg_S} (hu : pg_vcu r S) (ho : pg_vo r S) (hi : pg_vi r S) (s : Nat) : pg_vc S s = match pg_lvc S s with
    | some x => if pg_a S.1 x = nI (pg_vw S.2) then some x else none
    | none => none := by
  cases el : pg_lvc S s with
  | none =>
    cases ev : pg_vc S s with
    | none => rfl
    | some y =>
      obtain ⟨y1, y2, y3, y4, y5⟩ := pg_vc_some ev
      exact absurd ⟨y2, y3, y5⟩ (pg_lvc_none el y1)
  | some x =>
    obtain ⟨x1, x2, x3, x4⟩ := pg_lvc_some el
    have key : ∀ y, y < S.1.1 → pg_no S.2 y = 1 → pg_k S.1 y = 5 → pg_a S.1 y = nI (pg_vw S.2) → pg_f S.1 y = s → y = x := by
      intro y y1 y2 y3 y4 y5
      by_cases e : s = r
      · subst e
        have := pg_lvc_is (S := S) (s := s) y1 ⟨y2, y3, y5⟩ (fun j j1 j2 j3 j4 => by
          by_cases hlt : y < j
          · have h1 := hi y j hlt j1 y2 j2 y3 j3 y5 j4
            rw [y4] at h1
            exact absurd h1 (ho j j1 j2 j3 j4)
          · omega)
        rw [el] at this
        injection this with this
        exact this.symm
      · exact hu y x y2 x2 y3 x3 (by omega) (by omega)
    show _ = if pg_a S.1 x = nI (pg_vw S.2) then some x else none
    cases ev : pg_vc S s with
    | none =>
      rw [if_neg]
      intro h
      exact pg_vc_none ev x1 ⟨x2, x3, h, x4⟩
    | some y =>
      obtain ⟨y1, y2, y3, y4, y5⟩ := pg_vc_some ev
      have := key y y1 y2 y3 y4 y5
      subst this
      rw [if_pos y4]
theorem c_R_votesForView (l : Launch) (G : xj_G) (v : xn_V) (r : Nat) (hr : r < 4) (S : pg_S) (hR : xc_R r S v) (hN : pg_num S.2) (hB : xc_B S.1 v) (hu : pg_vcu r S) (ho : pg_vo r S) (hi : pg_vi r S) (s : Nat) (hs : s < 4) : xn_M l G 0 0 m_R_votesForView [.ref (xj_ad G (11, r, 0)), .int (nI s)] v (some (.int (xp_b (pg_vc S s).isSome))) v := by
  have hF := hR.1
  have hz := hB.2.1
  have hV := hR.2.2.2.1 s hs
  have hlv := pg_vc_lvc hu ho hi s
  refine xn_M_of (by decide) (Nat.le_of_ble_eq_true rfl) (fun E hE C => ?_)
  subst hE
  replace C : xj_C E G prog_5_method_29_code "ThreePhaseGroup$Replica" 2 0 0 0 0 (some .boolean) := C
  show xn_X E G _ 0 0 0 [some (.ref (xj_ad G (11, r, 0))), some (.int (nI s))] [] v
  refine xj_aload_n C a_R_votesForView_0 rfl ?_
  refine xn_g_R_viewChanges C a_R_votesForView_1 fl_R_27 (by first | assumption | omega) ?_
  refine xj_iload_n C a_R_votesForView_4 rfl ?_
  refine xn_ld_18 C a_R_votesForView_5 (by first | assumption | omega) (by first | assumption | omega) ?_
  refine xj_topi hV ?_
  refine xj_bipush (v := -2) C a_R_votesForView_6 (by decide) ?_
  cases el : pg_lvc S s with
  | none =>
    rw [el] at hlv
    refine xj_icmp_eq C a_R_votesForView_8 rfl (fun h8 => ?_) (fun h8 => absurd rfl h8)
    refine xj_iconst (v := nI 0) C a_R_votesForView_36 (by decide) ?_
    refine xj_zret C a_R_votesForView_37 rfl ⟨xp_f (by rw [hlv]; rfl), rfl⟩
  | some x =>
    rw [el] at hlv hV
    obtain ⟨x1, x2, x3, x4⟩ := pg_lvc_some el
    refine xj_icmp_eq C a_R_votesForView_8 rfl (fun h8 => absurd h8 (xp_one (by omega))) (fun h8 => ?_)
    refine xj_aload_n C a_R_votesForView_11 rfl ?_
    refine xn_g_R_board C a_R_votesForView_12 fl_R_61 (by first | assumption | omega) ?_
    refine xn_g_B_a C a_R_votesForView_15 fl_R_81 ?_
    refine xj_aload_n C a_R_votesForView_18 rfl ?_
    refine xn_g_R_viewChanges C a_R_votesForView_19 fl_R_27 (by first | assumption | omega) ?_
    refine xj_iload_n C a_R_votesForView_22 rfl ?_
    refine xn_ld_18 C a_R_votesForView_23 (by first | assumption | omega) (by first | assumption | omega) ?_
    refine xj_topi (y := nI x) hV ?_
    refine xn_ld_4 C a_R_votesForView_24 (by first | assumption | omega) ?_
    refine xj_topi (hB.a x1) ?_
    refine xj_aload_n C a_R_votesForView_25 rfl ?_
    refine xn_g_R_view C a_R_votesForView_26 fl_R_31 (by first | assumption | omega) ?_
    refine xj_topi hF.vw ?_
    refine xj_icmp_ne C a_R_votesForView_29 rfl (fun h29 => ?_) (fun h29 => ?_)
    · refine xj_iconst (v := nI 0) C a_R_votesForView_36 (by decide) ?_
      refine xj_zret C a_R_votesForView_37 rfl ⟨xp_f ?_, rfl⟩
      rw [hlv]
      show (if pg_a S.1 x = nI (pg_vw S.2) then some x else none).isSome = false
      rw [if_neg h29]
      rfl
    · refine xj_iconst (v := nI 1) C a_R_votesForView_32 (by decide) ?_
      refine xj_goto C a_R_votesForView_33 rfl ?_
      refine xj_zret C a_R_votesForView_37 rfl ⟨xp_t ?_, rfl⟩
      rw [hlv]
      show (if pg_a S.1 x = nI (pg_vw S.2) then some x else none).isSome = true
      rw [if_pos (by simpa using h29)]
      rfl
/-- how many votes are taken -/
def xp_tn (r : Nat) (S : pg_S) (s : Nat) : Nat := (pg_vts r S s).2.1 + (if (pg_vts r S s).2.2 then 1 else 0)
theorem pg_vts_le (r : Nat) (S : pg_S) : ∀ s, (pg_vts r S s).2.1 ≤ 2 ∧ (s ≤ r → (pg_vts r S s).2.2 = false)
  | 0 => ⟨Nat.zero_le _, fun _ => rfl⟩
  | s + 1 => by
    obtain ⟨h1, h2⟩ := pg_vts_le r S s
    unfold pg_vts
    dsimp only
    cases pg_vc S s with
    | none => exact ⟨h1, fun h => h2 (by omega)⟩
    | some x =>
      dsimp only
      by_cases e : s = r
      · rw [if_pos e]
        exact ⟨h1, fun h => by omega⟩
      · rw [if_neg e]
        split
        · exact ⟨by dsimp only; omega, fun h => h2 (by omega)⟩
        · exact ⟨h1, fun h => h2 (by omega)⟩
theorem xp_sh8 : ∀ t, t < 4 → nI 8 * nI t &&& 31 = nI (8 * t) := by decide +kernel
theorem pg_own_num {r : Nat} {S : pg_S} (h : pg_num S.2) (k : Nat) (x : Int32) (y : Int64) (z : Int32) : pg_num (pg_own r S k x y z).2 := h
theorem pg_own_kno {r : Nat} {S : pg_S} (h : pg_kno S) (k : Nat) (x : Int32) (y : Int64) (z : Int32) : pg_kno (pg_own r S k x y z) := by
  refine ⟨fun q hq => ?_, fun q hq => ?_⟩
  · obtain ⟨h1, h2⟩ := h.1 q hq
    refine ⟨by rw [pg_own_z]; omega, ?_⟩
    show (if q = S.1.1 then k else pg_k S.1 q) = 0
    rw [if_neg (by omega)]
    exact h2
  · rw [pg_own_no] at hq
    rw [pg_own_z]
    by_cases e : q = S.1.1
    · omega
    · rw [if_neg e] at hq
      have := h.2 q hq
      omega
theorem pg_own_top {r : Nat} {S : pg_S} (h : pg_top S) {k : Nat} (hk : ¬ k = 2) (hk3 : ¬ k = 3) (x : Int32) (y : Int64) (z : Int32) : pg_top (pg_own r S k x y z) := by
  refine ⟨h.1, fun i n h1 h2 h3 h4 h5 h6 => ?_⟩
  rw [pg_own_no] at h1
  replace h2 : (if i = S.1.1 then k else pg_k S.1 i) = 2 ∨ (if i = S.1.1 then k else pg_k S.1 i) = 3 := h2
  replace h3 : (if i = S.1.1 then x else pg_a S.1 i) = nI (pg_vw S.2) := h3
  replace h4 : (if i = S.1.1 then y else pg_b S.1 i) = lN n := h4
  by_cases e : i = S.1.1
  · rw [if_pos e] at h2
    omega
  · rw [if_neg e] at h1 h2 h3 h4
    exact h.2 i n h1 h2 h3 h4 h5 h6
/-- the votes of rule 7 are well made, and so is the NEW-VIEW -/
def pg_o7 (r : Nat) (S : pg_S) : Prop := pg_ch S.2 = 1 → pg_vw S.2 % 4 = r → (pg_vts r S 4).2.2 = true → (pg_vts r S 4).2.1 = 2 → (∀ k, k < 3 → pg_vt (pg_vts r S 4).1.toInt64 k < S.1.1 ∧ ∃ p, p < 390 ∧ pg_b S.1 (pg_vt (pg_vts r S 4).1.toInt64 k) = lN p) ∧ pg_eok (pg_own r S 6 (nI (pg_vw S.2)) (pg_vts r S 4).1.toInt64 (pg_od S.1 (pg_vts r S 4).1.toInt64)) S.1.1
theorem c_R_openView (l : Launch) (G : xj_G) (v : xn_V) (r : Nat) (hr : r < 4) (S : pg_S) (hR : xc_R r S v) (hN : pg_num S.2) (hB : xc_B S.1 v) (hK : pg_kno S) (hT : pg_top S) (hu : pg_vcu r S) (ho : pg_vo r S) (hi : pg_vi r S) (hbk : pg_bke S.1) (h7 : pg_o7 r S) (hz : S.1.1 < 256) : xj_Mx l G 4 93 0 0 m_R_openView [.ref (xj_ad G (11, r, 0))] (xn_W v) (xp_rl r v (pg_r7 r S)) := by
  have hF := hR.1
  have hch := hN.2.1
  have hvw := hN.1
  refine xj_Mx_of (by decide) (Nat.le_of_ble_eq_true rfl) (fun E hE C _ => ?_)
  subst hE
  replace C : xj_C E G prog_5_method_28_code "ThreePhaseGroup$Replica" 5 4 93 0 0 (some .boolean) := C
  show xn_X E G _ 0 0 0 [some (.ref (xj_ad G (11, r, 0))), none, none, none, none] [] v
  have no : pg_r7 r S = none → ∀ z1 z2 z3 z4 : Option Value, xn_X E G (xj_R E G (xp_rl r v (pg_r7 r S)) 0 0) 0 0 14 [some (.ref (xj_ad G (11, r, 0))), z1, z2, z3, z4] [] v := by
    intro h z1 z2 z3 z4
    rw [h]
    refine xj_iconst (v := nI 0) C a_R_openView_14 (by decide) ?_
    exact xj_zret C a_R_openView_15 rfl ⟨rfl, rfl⟩
  refine xj_aload_n C a_R_openView_0 rfl ?_
  refine xn_g_R_changing C a_R_openView_1 fl_R_35 (by first | assumption | omega) ?_
  refine xj_topi hF.ch ?_
  refine xj_if_eq C a_R_openView_4 rfl (fun h4 => ?_) (fun h4 => ?_)
  · refine no ?_ _ _ _ _
    have h4 : pg_ch S.2 = 0 := by
      have e : nI (pg_ch S.2) = nI 0 := h4
      rw [nI_eq (by omega) (by omega)] at e
      exact e
    unfold pg_r7
    rw [if_pos (Or.inl h4)]
  · have h4 : pg_ch S.2 = 1 := by
      have : ¬ pg_ch S.2 = 0 := fun e => h4 (by rw [e]; rfl)
      omega
    refine xj_aload_n C a_R_openView_7 rfl ?_
    refine xn_callV0i C a_R_openView_8 (c_R_isPrimary _ _ v r hr S.2 hF hN) mv_R_isPrimary lk_R_210 ⟨rfl, rfl, rfl⟩ (xj_ok11 (by first | assumption | omega)) ⟨by decide, by decide⟩ rfl (Nat.le_of_ble_eq_true rfl) ⟨Nat.le_refl _, Nat.le_refl _⟩ ?_
    refine xj_if_ne C a_R_openView_11 rfl (fun h11 => ?_) (fun h11 => ?_)
    · rw [xp_b0, decide_eq_false_iff_not, Classical.not_not] at h11
      refine xj_iconst (v := nI 0) C a_R_openView_16 (by decide) ?_
      refine xj_istore1 C a_R_openView_17 rfl ?_
      refine xj_iconst (v := nI 0) C a_R_openView_18 (by decide) ?_
      refine xj_istore2 C a_R_openView_19 rfl ?_
      refine xj_iconst (v := nI 0) C a_R_openView_20 (by decide) ?_
      refine xj_istore3 C a_R_openView_21 rfl ?_
      refine xj_iconst (v := nI 0) C a_R_openView_22 (by decide) ?_
      refine xj_istore4 C a_R_openView_23 rfl ?_
      have loop : ∀ n s : Nat, s ≤ 4 → 4 - s < n → xn_X E G (xj_R E G (xp_rl r v (pg_r7 r S)) 0 0) 0 0 25 [some (.ref (xj_ad G (11, r, 0))), some (.int (pg_vts r S s).1), some (.int (nI (xp_tn r S s))), some (.int (nI (pg_vts r S s).2.1)), some (.int (nI s))] [] v := by
        intro n
        induction n with
        | zero => intro s _ h; omega
        | succ n ih =>
          intro s hs hn
          have hle := pg_vts_le r S s
          have htn : xp_tn r S s ≤ 3 := by unfold xp_tn; split <;> omega
          refine xj_iload C a_R_openView_25 rfl ?_
          refine xj_iconst (v := nI 4) C a_R_openView_27 (by decide) ?_
          refine xj_icmp_ge C a_R_openView_28 rfl (fun h28 => ?_) (fun h28 => ?_)
          · rw [nI_leI (by omega) (by omega)] at h28
            have : s = 4 := by omega
            subst this
            refine xj_iload_n C a_R_openView_98 rfl ?_
            refine xj_iconst (v := nI 3) C a_R_openView_99 (by decide) ?_
            refine xj_icmp_ge C a_R_openView_100 rfl (fun h100 => ?_) (fun h100 => ?_)
            · rw [nI_leI (by omega) (by omega)] at h100
              have hown : (pg_vts r S 4).2.2 = true := by
                unfold xp_tn at h100
                by_cases e : (pg_vts r S 4).2.2 = true
                · exact e
                · rw [if_neg e] at h100
                  omega
              have hoth : (pg_vts r S 4).2.1 = 2 := by
                unfold xp_tn at h100
                rw [if_pos hown] at h100
                omega
              obtain ⟨hvt, hE⟩ := h7 h4 h11 hown hoth
              have e7 : pg_r7 r S = some ((pg_own r S 6 (nI (pg_vw S.2)) (pg_vts r S 4).1.toInt64 (pg_od S.1 (pg_vts r S 4).1.toInt64)).1, pg_ent (pg_own r S 6 (nI (pg_vw S.2)) (pg_vts r S 4).1.toInt64 (pg_od S.1 (pg_vts r S 4).1.toInt64)) S.1.1) := by
                unfold pg_r7
                rw [if_neg (by omega)]
                dsimp only
                rw [if_neg (by rw [hown, hoth]; simp)]
              rw [e7]
              have hi32 : (pg_vts r S 4).1.toInt64.toInt32 = (pg_vts r S 4).1 := Int32.toInt32_toInt64 _
              have hod : ∀ l', xn_M l' G 2 49 m_B_ordersDue [.ref (xj_ad G (1, 0, 0)), .int (pg_vts r S 4).1] v (some (.int (pg_od S.1 (pg_vts r S 4).1.toInt64))) v := by
                intro l'
                have h := c_B_ordersDue l' G v S.1 hB hbk (pg_vts r S 4).1.toInt64 (fun k hk => by obtain ⟨a, p, b, c⟩ := hvt k hk; exact ⟨a, p, by omega, c⟩)
                rw [hi32] at h
                exact h
              have hR1 := hR.own 6 (nI (pg_vw S.2)) (pg_vts r S 4).1.toInt64 (pg_od S.1 (pg_vts r S 4).1.toInt64) (by decide) (by decide) (by decide) (by decide) (kk := nI 6) (ff := nI r)
              have hB1 := hB.post hz 6 r (nI (pg_vw S.2)) (pg_vts r S 4).1.toInt64 (pg_od S.1 (pg_vts r S 4).1.toInt64) false (by omega)
              refine xj_aload_n C a_R_openView_105 rfl ?_
              refine xj_aload_n C a_R_openView_106 rfl ?_
              refine xn_g_R_board C a_R_openView_107 fl_R_61 (by first | assumption | omega) ?_
              refine xj_bipush (v := nI 6) C a_R_openView_110 (by decide) ?_
              refine xj_aload_n C a_R_openView_112 rfl ?_
              refine xn_g_R_self C a_R_openView_113 fl_R_58 (by first | assumption | omega) ?_
              refine xj_topi hF.self ?_
              refine xj_aload_n C a_R_openView_116 rfl ?_
              refine xn_g_R_view C a_R_openView_117 fl_R_31 (by first | assumption | omega) ?_
              refine xj_topi hF.vw ?_
              refine xj_iload_n C a_R_openView_120 rfl ?_
              refine xj_i2l C a_R_openView_121 ?_
              refine xj_aload_n C a_R_openView_122 rfl ?_
              refine xn_g_R_board C a_R_openView_123 fl_R_61 (by first | assumption | omega) ?_
              refine xj_iload_n C a_R_openView_126 rfl ?_
              refine xn_callV1i C a_R_openView_127 (hod _) mv_B_ordersDue lk_R_268 ⟨rfl, rfl, rfl⟩ xj_ok1 ⟨by decide, by decide⟩ rfl (Nat.le_of_ble_eq_true rfl) ⟨Nat.le_refl _, Nat.le_refl _⟩ ?_
              refine xn_callV5i C a_R_openView_130 (c_B_post _ _ v S.1.1 hB.1 hz _ _ _ _ _) mv_B_post lk_R_213 ⟨rfl, rfl, rfl⟩ xj_ok1 ⟨by decide, by decide⟩ rfl (Nat.le_of_ble_eq_true rfl) ⟨Nat.le_refl _, Nat.le_refl _⟩ ?_
              refine xj_callV1 C a_R_openView_133 (c_R_enter _ _ _ r hr _ hR1 (pg_own_num hN _ _ _ _) hB1 (pg_own_kno hK _ _ _ _) (pg_own_top hT (by decide) (by decide) _ _ _) S.1.1 (Nat.lt_succ_self _) hE) mv_R_enter lk_R_171 ⟨rfl, rfl, rfl⟩ (xj_ok11 (by first | assumption | omega)) ⟨by decide, by decide⟩ rfl (Nat.le_of_ble_eq_true rfl) ⟨Nat.le_refl _, Nat.le_refl _⟩ (fun a' w' h => ?_)
              obtain ⟨rfl, v', rfl, g1, g2⟩ := h
              refine xj_iconst (v := nI 1) C a_R_openView_136 (by decide) ?_
              exact xj_zret C a_R_openView_137 rfl ⟨rfl, v', rfl, g1, hB1.R g2, (xf_O.rf r v).post.R g2⟩
            · rw [nI_leI (by omega) (by omega)] at h100
              have e7 : pg_r7 r S = none := by
                unfold pg_r7
                rw [if_neg (by omega)]
                dsimp only
                rw [if_pos]
                unfold xp_tn at h100
                by_cases e : (pg_vts r S 4).2.2 = true
                · rw [if_pos e] at h100
                  exact Or.inr (by omega)
                · exact Or.inl (by simpa using e)
              rw [e7]
              refine xj_iconst (v := nI 0) C a_R_openView_103 (by decide) ?_
              exact xj_zret C a_R_openView_104 rfl ⟨rfl, rfl⟩
          · rw [nI_leI (by omega) (by omega)] at h28
            have hs4 : s < 4 := by omega
            have skip : pg_vts r S (s + 1) = pg_vts r S s → xn_X E G (xj_R E G (xp_rl r v (pg_r7 r S)) 0 0) 0 0 92 [some (.ref (xj_ad G (11, r, 0))), some (.int (pg_vts r S s).1), some (.int (nI (xp_tn r S s))), some (.int (nI (pg_vts r S s).2.1)), some (.int (nI s))] [] v := by
              intro h
              have := ih (s + 1) (by omega) (by omega)
              unfold xp_tn at this ⊢
              rw [h] at this
              refine xj_iincN4 C a_R_openView_92 rfl ?_
              refine xj_goto C a_R_openView_95 rfl ?_
              exact this
            refine xj_aload_n C a_R_openView_31 rfl ?_
            refine xj_iload C a_R_openView_32 rfl ?_
            refine xn_callV1i C a_R_openView_34 (c_R_votesForView _ _ v r hr S hR hN hB hu ho hi s hs4) mv_R_votesForView lk_R_265 ⟨rfl, rfl, rfl⟩ (xj_ok11 (by first | assumption | omega)) ⟨by decide, by decide⟩ rfl (Nat.le_of_ble_eq_true rfl) ⟨Nat.le_refl _, Nat.le_refl _⟩ ?_
            refine xj_if_eq C a_R_openView_37 rfl (fun h37 => ?_) (fun h37 => ?_)
            · rw [xp_b0] at h37
              have hno : pg_vc S s = none := by simpa using h37
              exact skip (by show (match pg_vc S s with | none => _ | some x => _) = _; rw [hno])
            · rw [xp_b0] at h37
              obtain ⟨x, hx⟩ : ∃ x, pg_vc S s = some x := by
                cases e : pg_vc S s with
                | none => rw [e] at h37; exact absurd rfl h37
                | some x => exact ⟨x, rfl⟩
              obtain ⟨x1, x2, x3, x4, x5⟩ := pg_vc_some hx
              have hlx : pg_lvc S s = some x := by
                have hlv := pg_vc_lvc hu ho hi s
                cases el : pg_lvc S s with
                | none => rw [el, hx] at hlv; cases hlv
                | some y =>
                  rw [el, hx] at hlv
                  replace hlv : some x = if pg_a S.1 y = nI (pg_vw S.2) then some y else none := hlv
                  split at hlv
                  · exact hlv.symm
                  · cases hlv
              have hV : v.1 18 r 0 s = nI x := by rw [hR.2.2.2.1 s hs4, hlx]; rfl
              have estep : pg_vts r S (s + 1) = if s = r then ((pg_vts r S s).1 ||| nI x <<< nI (8 * xp_tn r S s), (pg_vts r S s).2.1, true) else if (pg_vts r S s).2.1 < 2 then ((pg_vts r S s).1 ||| nI x <<< nI (8 * xp_tn r S s), (pg_vts r S s).2.1 + 1, (pg_vts r S s).2.2) else pg_vts r S s := by
                show (match pg_vc S s with | none => _ | some x => _) = _
                rw [hx]
                rfl
              have at57 : xp_tn r S s < 3 → ∀ o' : Nat, o' = (pg_vts r S s).2.1 + (if s = r then 0 else 1) → pg_vts r S (s + 1) = ((pg_vts r S s).1 ||| nI x <<< nI (8 * xp_tn r S s), o', if s = r then true else (pg_vts r S s).2.2) → xn_X E G (xj_R E G (xp_rl r v (pg_r7 r S)) 0 0) 0 0 57 [some (.ref (xj_ad G (11, r, 0))), some (.int (pg_vts r S s).1), some (.int (nI (xp_tn r S s))), some (.int (nI (pg_vts r S s).2.1)), some (.int (nI s))] [] v := by
                intro ht o' ho' he
                have nxt := ih (s + 1) (by omega) (by omega)
                have etn : xp_tn r S (s + 1) = xp_tn r S s + 1 := by
                  unfold xp_tn
                  rw [he]
                  dsimp only
                  by_cases e : s = r
                  · rw [if_pos e] at ho'
                    rw [if_pos e, if_pos rfl, hle.2 (by omega)]
                    simp
                    omega
                  · rw [if_neg e] at ho'
                    rw [if_neg e]
                    omega
                rw [etn, he] at nxt
                dsimp only at nxt
                refine xj_iload_n C a_R_openView_57 rfl ?_
                refine xj_aload_n C a_R_openView_58 rfl ?_
                refine xn_g_R_viewChanges C a_R_openView_59 fl_R_27 (by first | assumption | omega) ?_
                refine xj_iload C a_R_openView_62 rfl ?_
                refine xn_ld_18 C a_R_openView_64 (by first | assumption | omega) (by first | assumption | omega) ?_
                refine xj_topi hV ?_
                refine xj_bipush (v := nI 8) C a_R_openView_65 (by decide) ?_
                refine xj_iload_n C a_R_openView_67 rfl ?_
                refine xj_imul C a_R_openView_68 ?_
                refine xj_as (w2 := xn_W v) rfl ?_
                refine xj_ishl C a_R_openView_69 ?_
                refine xj_ior C a_R_openView_70 ?_
                rw [xp_sh8 _ (by omega)]
                refine xj_istore1 C a_R_openView_71 rfl ?_
                refine xj_iincN2 C a_R_openView_72 rfl ?_
                refine xj_iload_n C a_R_openView_75 rfl ?_
                refine xj_iload C a_R_openView_76 rfl ?_
                refine xj_aload_n C a_R_openView_78 rfl ?_
                refine xn_g_R_self C a_R_openView_79 fl_R_58 (by first | assumption | omega) ?_
                refine xj_topi hF.self ?_
                refine xj_icmp_eq C a_R_openView_82 rfl (fun h82 => ?_) (fun h82 => ?_)
                · rw [nI_eq (by omega) (by omega)] at h82
                  rw [if_pos h82] at ho'
                  refine xj_iconst (v := nI 0) C a_R_openView_89 (by decide) ?_
                  refine xj_iadd C a_R_openView_90 ?_
                  refine xj_topi (nI_add _ 0) ?_
                  refine xj_istore3 C a_R_openView_91 rfl ?_
                  refine xj_iincN4 C a_R_openView_92 rfl ?_
                  refine xj_goto C a_R_openView_95 rfl ?_
                  rw [ho'] at nxt
                  exact nxt
                · rw [nI_eq (by omega) (by omega)] at h82
                  rw [if_neg h82] at ho'
                  refine xj_iconst (v := nI 1) C a_R_openView_85 (by decide) ?_
                  refine xj_goto C a_R_openView_86 rfl ?_
                  refine xj_iadd C a_R_openView_90 ?_
                  refine xj_topi (nI_add _ 1) ?_
                  refine xj_istore3 C a_R_openView_91 rfl ?_
                  refine xj_iincN4 C a_R_openView_92 rfl ?_
                  refine xj_goto C a_R_openView_95 rfl ?_
                  rw [ho'] at nxt
                  exact nxt
              refine xj_iload C a_R_openView_40 rfl ?_
              refine xj_aload_n C a_R_openView_42 rfl ?_
              refine xn_g_R_self C a_R_openView_43 fl_R_58 (by first | assumption | omega) ?_
              refine xj_topi hF.self ?_
              refine xj_icmp_eq C a_R_openView_46 rfl (fun h46 => ?_) (fun h46 => ?_)
              · rw [nI_eq (by omega) (by omega)] at h46
                refine at57 ?_ _ rfl ?_
                · unfold xp_tn
                  rw [hle.2 (by omega)]
                  simp
                  omega
                · rw [estep, if_pos h46, if_pos h46, if_pos h46]
                  rfl
              · rw [nI_eq (by omega) (by omega)] at h46
                refine xj_iload_n C a_R_openView_49 rfl ?_
                refine xj_iconst (v := nI 2) C a_R_openView_50 (by decide) ?_
                refine xj_icmp_ne C a_R_openView_51 rfl (fun h51 => ?_) (fun h51 => ?_)
                · rw [nI_eq (by omega) (by omega)] at h51
                  refine at57 ?_ _ rfl ?_
                  · unfold xp_tn
                    split <;> omega
                  · rw [estep, if_neg h46, if_neg h46, if_neg h46, if_pos (by omega)]
                · rw [nI_eq (by omega) (by omega)] at h51
                  refine xj_goto C a_R_openView_54 rfl ?_
                  refine skip ?_
                  rw [estep, if_neg h46, if_neg (by omega)]
      exact loop 5 0 (by omega) (by omega)
    · rw [xp_b0, decide_eq_false_iff_not] at h11
      refine no ?_ _ _ _ _
      unfold pg_r7
      rw [if_pos (Or.inr (by simpa using h11))]
