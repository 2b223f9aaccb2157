/-! the reference: the calls -/
theorem xp_outI {x hi : Int32} {n : Nat} (hh : hi.toInt = (n : Int) - 1) (hn : n < 2 ^ 31) : xp_b (decide (x < nI 0 ∨ ¬ x ≤ hi)) = 0 ↔ (xp_at n x).isSome = true := by
  rw [xp_b0, ← xp_at_d n hn, decide_eq_false_iff_not, decide_eq_true_eq, not_or, Classical.not_not]
  refine and_congr Iff.rfl ?_
  rw [Int32.le_iff_toInt_le, Int32.le_iff_toInt_le, hh, nI_toInt hn]
  omega
theorem xp_isN {n : Nat} {x : Int32} (h : ¬ (xp_at n x).isSome = true) : (xp_at n x).isSome = false := by simpa using h
theorem xp_fm_lt {f : Nat} (hf : f ≤ 4) : xp_fm f < 0 ↔ f = 0 := by
  unfold xp_fm
  by_cases h : f = 0
  · rw [if_pos h]
    exact ⟨fun _ => h, fun _ => by decide⟩
  · rw [if_neg h]
    exact ⟨fun g => absurd g (nI_pos (by omega)), fun g => absurd g h⟩
theorem xp_fm_eq {f r : Nat} (hf : f ≤ 4) (hr : r < 4) : nI r = xp_fm f ↔ f = r + 1 := by
  unfold xp_fm
  by_cases h : f = 0
  · rw [if_pos h]
    exact ⟨fun g => absurd g (xp_nem1 (by omega)), fun g => by omega⟩
  · rw [if_neg h, nI_eq (by omega) (by omega)]
    omega
theorem xt_T.id {T : pg_T} {v v' : xn_V} (h : xt_T T v) {r : Nat} (hr : r < 4) (hF : xf_T r v v') {S : pg_S} (hS : xt_S r S v') (e : S = pg_sR T r) : xt_T T v' := by
  subst e
  exact h.mv hr hF hS.1 hS.2.1 (fun _ _ => rfl) rfl
theorem c_T_give (l : Launch) (G : xj_G) (v : xn_V) (T : pg_T) (hT : xt_T T v) (hG : pg_gi T) (hz : T.1.1 < 150) (m p : Nat) (hm : m < T.1.1) (hp : p < 6) : xj_Mx l G 5 138 0 0 m_T_give [.ref (xj_ad G (21, 0, 0)), .int (nI m), .int (nI p)] (xn_W v) (xp_ti v (.int (xp_b (pg_give T m p).isSome)) ((pg_give T m p).getD T)) := by
  have hF4 : T.2.2.2.2 ≤ 4 := hG.1.2.2.1
  refine xj_Mx_of (by decide) (Nat.le_of_ble_eq_true rfl) (fun E hE C _ => ?_)
  subst hE
  replace C : xj_C E G prog_9_method_19_code "ThreePhaseGroupModel" 3 5 138 0 0 (some .boolean) := C
  show xn_X E G _ 0 0 0 [some (.ref (xj_ad G (21, 0, 0))), some (.int (nI m)), some (.int (nI p))] [] v
  refine xj_iload_n C a_T_give_0 rfl ?_
  refine xj_iconst (v := nI 3) C a_T_give_1 (by decide) ?_
  refine xj_icmp_le C a_T_give_2 rfl (fun h2 => ?_) (fun h2 => ?_)
  · rw [nI_leI (by omega) (by omega)] at h2
    refine xj_iload_n C a_T_give_14 rfl ?_
    refine xj_aload_n C a_T_give_15 rfl ?_
    refine xn_g_T_faulty C a_T_give_16 fl_T_69 ?_
    refine xj_topi hT.2.2.2.2 ?_
    refine xj_icmp_ne C a_T_give_19 rfl (fun h19 => ?_) (fun h19 => ?_)
    · rw [xp_fm_eq hF4 (by omega)] at h19
      have hin : pg_in T.2.2.2.2 p (pg_sR T p) := ⟨(hG.2.2.1 p (by omega)).1, hG.1⟩
      have hrest := (hG.2.2.1 p (by omega)).2
      have hX : xt_S p (pg_sR T p) (xn_uI v 21 0 0 21 (nI 0)) := ⟨hT.1.uI (by omega), (hT.2.1 p (by omega)).oth (by omega), by show _ = nI (pg_af (T.2.1 p)); rw [hrest.1]; simp [xn_uI]⟩
      have hf0 : xf_T p v (xn_uI v 21 0 0 21 (nI 0)) := (xf_T.rf p v).uI (by omega)
      refine xj_aload_n C a_T_give_24 rfl ?_
      refine xj_iconst (v := nI 0) C a_T_give_25 (by decide) ?_
      refine xn_p_T_afresh C a_T_give_26 fl_T_138 (by decide) ?_
      refine xj_aload_n C a_T_give_29 rfl ?_
      refine xj_iload_n C a_T_give_30 rfl ?_
      refine xj_iload_n C a_T_give_31 rfl ?_
      refine xj_callV2 C a_T_give_32 (c_T_takes _ _ _ T.2.2.2.2 p (by omega) (pg_sR T p) hX hin (show T.1.1 ≤ 196 by omega) m hm) mv_T_takes lk_T_142 ⟨rfl, rfl, rfl⟩ xj_ok21 ⟨by decide, by decide⟩ rfl (Nat.le_of_ble_eq_true rfl) ⟨Nat.le_refl _, Nat.le_refl _⟩ (fun a' w' hres => ?_)
      obtain ⟨rfl, v2, rfl, hX2, hf2⟩ := hres
      have hf2 := hf0.tr hf2
      cases q : pg_takes p (pg_sR T p) m with
      | none =>
        rw [q] at hX2
        have e : pg_give T m p = none := by unfold pg_give; rw [if_neg (by omega), if_neg h19, q]; rfl
        rw [e]
        refine xj_if_ne C a_T_give_35 rfl (fun h => absurd rfl h) (fun _ => ?_)
        refine xj_iconst (v := nI 0) C a_T_give_38 (by decide) ?_
        exact xj_zret C a_T_give_39 rfl ⟨rfl, v2, rfl, hT.id (by omega) hf2 hX2 rfl, hf2.U⟩
      | some S' =>
        rw [q] at hX2
        have e : pg_give T m p = some (pg_putR T p (pg_run p S')) := by unfold pg_give; rw [if_neg (by omega), if_neg h19, q]; rfl
        rw [e]
        have eB : S'.1 = T.1 := pg_takes_B q
        have hS' := hin.takes (show T.1.1 ≤ 252 by omega) hm q
        have hrun := (hS'.run (by omega) (by rw [eB]; omega)).2.2.2.2
        refine xj_if_ne C a_T_give_35 rfl (fun _ => ?_) (fun h => absurd h (show ¬ xp_b true = 0 by decide))
        refine xj_aload_n C a_T_give_40 rfl ?_
        refine xj_iload_n C a_T_give_41 rfl ?_
        refine xj_callV1 C a_T_give_42 (c_T_rules _ _ v2 T.2.2.2.2 p (by omega) S' hX2 (fun k => ⟨(hrun k).1, by have := (hrun k).2; rw [eB] at this; omega⟩)) mv_T_rules lk_T_145 ⟨rfl, rfl, rfl⟩ xj_ok21 ⟨by decide, by decide⟩ rfl (Nat.le_of_ble_eq_true rfl) ⟨Nat.le_refl _, Nat.le_refl _⟩ (fun a' w' hres => ?_)
        obtain ⟨rfl, v3, rfl, hB3, hR3, hf3⟩ := hres
        refine xj_iconst (v := nI 1) C a_T_give_45 (by decide) ?_
        refine xj_zret C a_T_give_46 rfl ⟨rfl, v3, rfl, hT.mv (r := p) (by omega) (hf2.tr hf3) hB3 ?_ (fun r' hr' => ?_) rfl, (hf2.tr hf3).U⟩
        · show xt_R p (va_up T.2.1 p (pg_run p S').2 p) v3
          rw [va_up_self]; exact hR3
        · show va_up T.2.1 p (pg_run p S').2 r' = _
          rw [va_up_ne _ _ hr']
    · rw [xp_fm_eq hF4 (by omega)] at h19
      have h19 : T.2.2.2.2 = p + 1 := by simpa using h19
      have e : pg_give T m p = none := by unfold pg_give; rw [if_neg (by omega), if_pos h19]
      rw [e]
      refine xj_iconst (v := nI 0) C a_T_give_22 (by decide) ?_
      exact xj_zret C a_T_give_23 rfl ⟨rfl, v, rfl, hT, xf_U.rf v⟩
  · rw [nI_leI (by omega) (by omega)] at h2
    have e : pg_give T m p = (pg_ans T.1 (T.2.2.1 (p - 4)) m (p - 4)).map (pg_putC T (p - 4)) := by unfold pg_give; rw [if_pos (by omega)]
    rw [e]
    refine xj_aload_n C a_T_give_5 rfl ?_
    refine xj_iload_n C a_T_give_6 rfl ?_
    refine xj_iload_n C a_T_give_7 rfl ?_
    refine xj_iconst (v := nI 4) C a_T_give_8 (by decide) ?_
    refine xj_isub C a_T_give_9 ?_
    refine xj_topi (y := nI (p - 4)) (pk_sub (by omega)) ?_
    refine xj_callV2 C a_T_give_10 (c_T_answered _ _ v T hT (p - 4) (by omega) (hG.2.2.2.1 (p - 4) (by omega)).1 m hm) mv_T_answered lk_T_135 ⟨rfl, rfl, rfl⟩ xj_ok21 ⟨by decide, by decide⟩ rfl (Nat.le_of_ble_eq_true rfl) ⟨Nat.le_refl _, Nat.le_refl _⟩ (fun a' w' hres => ?_)
    obtain ⟨rfl, v2, rfl, hX2⟩ := hres
    refine xj_zret C a_T_give_13 (xp_bn _) ⟨?_, v2, rfl, hX2⟩
    cases pg_ans T.1 (T.2.2.1 (p - 4)) m (p - 4) <;> rfl
theorem c_T_deliver (l : Launch) (G : xj_G) (v : xn_V) (T : pg_T) (hT : xt_T T v) (hG : pg_gi T) (m p : Int32) : xj_Mx l G 6 160 0 0 m_T_deliver [.ref (xj_ad G (21, 0, 0)), .int m, .int p] (xn_W v) (xp_ti v (.int (xp_b (pg_deliver T m p).1)) (pg_deliver T m p).2) := by
  have hz2 := hG.2.1
  refine xj_Mx_of (by decide) (Nat.le_of_ble_eq_true rfl) (fun E hE C _ => ?_)
  subst hE
  replace C : xj_C E G prog_9_method_39_code "ThreePhaseGroupModel" 3 6 160 0 0 (some .boolean) := C
  show xn_X E G _ 0 0 0 [some (.ref (xj_ad G (21, 0, 0))), some (.int m), some (.int p)] [] v
  have bad : ¬ ((xp_at T.1.1 m).isSome = true ∧ (xp_at 6 p).isSome = true ∧ T.1.1 < 150) → xn_X E G (xj_R E G (xp_ti v (.int (xp_b (pg_deliver T m p).1)) (pg_deliver T m p).2) 0 0) 0 0 46 [some (.ref (xj_ad G (21, 0, 0))), some (.int m), some (.int p)] [] v := by
    intro h
    have e : pg_deliver T m p = (false, T) := by unfold pg_deliver; rw [if_neg h]
    rw [e]
    refine xj_iconst (v := nI 0) C a_T_deliver_46 (by decide) ?_
    exact xj_zret C a_T_deliver_47 rfl ⟨rfl, v, rfl, hT, xf_U.rf v⟩
  have hc1 : (nI T.1.1 - nI 1).toInt = (T.1.1 : Int) - 1 := by
    by_cases h0 : T.1.1 = 0
    · rw [h0]; decide
    · have e : nI T.1.1 - nI 1 = nI (T.1.1 - 1) := pk_sub (by omega)
      rw [e, nI_toInt (by omega)]
      omega
  refine xj_iload_n C a_T_deliver_0 rfl ?_
  refine xj_iconst (v := nI 0) C a_T_deliver_1 (by decide) ?_
  refine xj_aload_n C a_T_deliver_2 rfl ?_
  refine xn_g_T_count C a_T_deliver_3 fl_T_88 ?_
  refine xj_topi hT.1.z ?_
  refine xj_iconst (v := nI 1) C a_T_deliver_6 (by decide) ?_
  refine xj_isub C a_T_deliver_7 ?_
  refine xn_callS3i C a_T_deliver_8 (c_T_outside _ _ v m (nI 0) (nI T.1.1 - nI 1)) ms_T_outside lk_T_95 ⟨by decide, by decide⟩ rfl (Nat.le_of_ble_eq_true rfl) ⟨Nat.le_refl _, Nat.le_refl _⟩ ?_
  refine xj_if_ne C a_T_deliver_11 rfl (fun h11 => ?_) (fun h11 => ?_)
  · rw [xp_outI hc1 (by omega)] at h11
    exact bad (fun h => h11 h.1)
  · rw [xp_outI hc1 (by omega)] at h11
    have h11 : (xp_at T.1.1 m).isSome = true := by simpa using h11
    refine xj_iload_n C a_T_deliver_14 rfl ?_
    refine xj_iconst (v := nI 0) C a_T_deliver_15 (by decide) ?_
    refine xj_iconst (v := nI 5) C a_T_deliver_16 (by decide) ?_
    refine xn_callS3i C a_T_deliver_17 (c_T_outside _ _ v p (nI 0) (nI 5)) ms_T_outside lk_T_95 ⟨by decide, by decide⟩ rfl (Nat.le_of_ble_eq_true rfl) ⟨Nat.le_refl _, Nat.le_refl _⟩ ?_
    refine xj_if_ne C a_T_deliver_20 rfl (fun h20 => ?_) (fun h20 => ?_)
    · rw [xp_outI (n := 6) (by decide) (by omega)] at h20
      exact bad (fun h => h20 h.2.1)
    · rw [xp_outI (n := 6) (by decide) (by omega)] at h20
      have h20 : (xp_at 6 p).isSome = true := by simpa using h20
      refine xj_aload_n C a_T_deliver_23 rfl ?_
      refine xn_g_T_count C a_T_deliver_24 fl_T_88 ?_
      refine xj_topi hT.1.z ?_
      refine xj_sipush (v := nI 150) C a_T_deliver_27 (by decide) ?_
      refine xj_icmp_ge C a_T_deliver_30 rfl (fun h30 => ?_) (fun h30 => ?_)
      · rw [nI_leI (by omega) (by omega)] at h30
        exact bad (fun h => by omega)
      · rw [nI_leI (by omega) (by omega)] at h30
        have hz : T.1.1 < 150 := by omega
        have ed : pg_deliver T m p = xp_opt T (pg_give T (xp_un m) (xp_un p)) := by unfold pg_deliver; rw [if_pos ⟨h11, h20, hz⟩]
        rw [ed]
        obtain ⟨a, a1, rfl, a3⟩ := xp_isS (by omega) h11
        obtain ⟨q, q1, rfl, q3⟩ := xp_isS (by decide) h20
        rw [a3, q3]
        refine xj_aload_n C a_T_deliver_33 rfl ?_
        refine xj_iload_n C a_T_deliver_34 rfl ?_
        refine xj_iload_n C a_T_deliver_35 rfl ?_
        refine xj_callV2 C a_T_deliver_36 (c_T_give _ _ v T hT hG hz a q a1 q1) mv_T_give lk_T_229 ⟨rfl, rfl, rfl⟩ xj_ok21 ⟨by decide, by decide⟩ rfl (Nat.le_of_ble_eq_true rfl) ⟨Nat.le_refl _, Nat.le_refl _⟩ (fun a' w' hres => ?_)
        obtain ⟨rfl, v2, rfl, hX2, hf2⟩ := hres
        cases e : pg_give T a q with
        | none =>
          rw [e] at hX2
          refine xj_if_eq C a_T_deliver_39 rfl (fun _ => ?_) (fun h => absurd rfl h)
          refine xj_iconst (v := nI 0) C a_T_deliver_46 (by decide) ?_
          exact xj_zret C a_T_deliver_47 rfl ⟨rfl, v2, rfl, hX2, hf2⟩
        | some T' =>
          rw [e] at hX2
          refine xj_if_eq C a_T_deliver_39 rfl (fun h => absurd h (show ¬ xp_b true = 0 by decide)) (fun _ => ?_)
          refine xj_iconst (v := nI 1) C a_T_deliver_42 (by decide) ?_
          refine xj_goto C a_T_deliver_43 rfl ?_
          exact xj_zret C a_T_deliver_47 rfl ⟨rfl, v2, rfl, hX2, hf2⟩
theorem pg_give_mkc (T : pg_T) (m p q : Nat) : pg_give (pg_mk T q) m p = (pg_give T m p).map (fun T' => pg_mk T' q) := by
  unfold pg_give
  show (if 4 ≤ p then (pg_ans T.1 (T.2.2.1 (p - 4)) m (p - 4)).map (pg_putC (pg_mk T q) (p - 4)) else if T.2.2.2.2 = p + 1 then none else (pg_takes p (pg_sR T p) m).map (fun S => pg_putR (pg_mk T q) p (pg_run p S))) = _
  split
  · rw [Option.map_map]; rfl
  · split
    · rfl
    · rw [Option.map_map]; rfl
theorem xt_T.mk {T : pg_T} {v : xn_V} (h : xt_T T v) {q : Nat} (hq : q < 6) : xt_T (pg_mk T q) (xn_uI v 45 0 0 q (nI (T.2.2.2.1 q + 1))) := by
  obtain ⟨t1, t2, t3, t4, t5⟩ := h
  have o : ∀ k r i x, ¬ (k = 45 ∧ x = q) → (xn_uI v 45 0 0 q (nI (T.2.2.2.1 q + 1))).1 k r i x = v.1 k r i x := by
    intro k r i x hk
    show (if k = 45 ∧ r = 0 ∧ i = 0 ∧ x = q then _ else _) = _
    rw [if_neg (by omega)]
  refine ⟨t1.uI (by omega), fun r hr => (t2 r hr).oth (by omega), fun k hk => (t3 k hk).cells (fun K h1 h2 => o _ _ _ _ (by omega)) (fun x hx => o _ _ _ _ (by omega)), fun p hp => ?_, by rw [o _ _ _ _ (by omega)]; exact t5⟩
  show (if 45 = 45 ∧ 0 = 0 ∧ 0 = 0 ∧ p = q then nI (T.2.2.2.1 q + 1) else v.1 45 0 0 p) = nI (va_up T.2.2.2.1 q (T.2.2.2.1 q + 1) p)
  by_cases e : p = q
  · rw [if_pos ⟨rfl, rfl, rfl, e⟩, e, va_up_self]
  · rw [if_neg (fun g => e g.2.2.2), va_up_ne _ _ e]
    exact t4 p hp
theorem c_T_pump (l : Launch) (G : xj_G) (v : xn_V) (T : pg_T) (hT : xt_T T v) (hG : pg_gi T) (p n : Int32) : xj_Mx l G 6 160 0 0 m_T_pump [.ref (xj_ad G (21, 0, 0)), .int p, .int n] (xn_W v) (xp_ti v (.int (pg_pump T p n).1) (pg_pump T p n).2) := by
  refine xj_Mx_of (by decide) (Nat.le_of_ble_eq_true rfl) (fun E hE C _ => ?_)
  subst hE
  replace C : xj_C E G prog_9_method_40_code "ThreePhaseGroupModel" 6 6 160 0 0 (some .int) := C
  show xn_X E G _ 0 0 0 [some (.ref (xj_ad G (21, 0, 0))), some (.int p), some (.int n), none, none, none] [] v
  have bad : ¬ ((xp_at 6 p).isSome = true ∧ 1 ≤ n ∧ n ≤ 8) → xn_X E G (xj_R E G (xp_ti v (.int (pg_pump T p n).1) (pg_pump T p n).2) 0 0) 0 0 19 [some (.ref (xj_ad G (21, 0, 0))), some (.int p), some (.int n), none, none, none] [] v := by
    intro h
    have e : pg_pump T p n = (-1, T) := by unfold pg_pump; rw [if_neg h]
    rw [e]
    refine xj_iconst (v := -1) C a_T_pump_19 (by decide) ?_
    exact xj_iret C a_T_pump_20 ⟨rfl, v, rfl, hT, xf_U.rf v⟩
  refine xj_iload_n C a_T_pump_0 rfl ?_
  refine xj_iconst (v := nI 0) C a_T_pump_1 (by decide) ?_
  refine xj_iconst (v := nI 5) C a_T_pump_2 (by decide) ?_
  refine xn_callS3i C a_T_pump_3 (c_T_outside _ _ v p (nI 0) (nI 5)) ms_T_outside lk_T_95 ⟨by decide, by decide⟩ rfl (Nat.le_of_ble_eq_true rfl) ⟨Nat.le_refl _, Nat.le_refl _⟩ ?_
  refine xj_if_ne C a_T_pump_6 rfl (fun h6 => ?_) (fun h6 => ?_)
  · rw [xp_outI (n := 6) (by decide) (by omega)] at h6
    exact bad (fun h => h6 h.1)
  · rw [xp_outI (n := 6) (by decide) (by omega)] at h6
    have h6 : (xp_at 6 p).isSome = true := by simpa using h6
    refine xj_iload_n C a_T_pump_9 rfl ?_
    refine xj_iconst (v := nI 1) C a_T_pump_10 (by decide) ?_
    refine xj_bipush (v := nI 8) C a_T_pump_11 (by decide) ?_
    refine xn_callS3i C a_T_pump_13 (c_T_outside _ _ v n (nI 1) (nI 8)) ms_T_outside lk_T_95 ⟨by decide, by decide⟩ rfl (Nat.le_of_ble_eq_true rfl) ⟨Nat.le_refl _, Nat.le_refl _⟩ ?_
    refine xj_if_eq C a_T_pump_16 rfl (fun h16 => ?_) (fun h16 => ?_)
    · rw [xp_b0, decide_eq_false_iff_not] at h16
      have h16 : 1 ≤ n ∧ n ≤ 8 := by
        rw [not_or, Classical.not_not] at h16
        exact ⟨Int32.not_lt.mp h16.1, h16.2⟩
      obtain ⟨q, q1, rfl, q3⟩ := xp_isS (by decide) h6
      obtain ⟨N, N1, rfl⟩ : ∃ N, N ≤ 8 ∧ n = nI N := by
        have hn0 : ¬ n < 0 := by
          have h1 : (1 : Int32).toInt = 1 := by decide
          have := h16.1
          rw [Int32.le_iff_toInt_le, h1] at this
          rw [Int32.lt_iff_toInt_lt, Int32.toInt_zero]
          omega
        exact nI_of2 (M := 8) (n := 8) (by decide) hn0 h16.2
      have ep : pg_pump T (nI q) (nI N) = (nI (pg_pmp q N T 0).1, (pg_pmp q N T 0).2) := by
        unfold pg_pump
        rw [if_pos ⟨h6, h16⟩, q3, xp_un_n (show N < 2 ^ 31 by omega)]
      rw [ep]
      have loop : ∀ (j k : Nat) (Tc : pg_T) (g : Nat) (vc : xn_V) (z5 : Option Value), k + j = N → g ≤ k → pg_gi Tc → xt_T Tc vc → xf_U v vc → pg_pmp q j Tc g = pg_pmp q N T 0 → xn_X E G (xj_R E G (xp_ti v (.int (nI (pg_pmp q N T 0).1)) (pg_pmp q N T 0).2) 0 0) 0 0 26 [some (.ref (xj_ad G (21, 0, 0))), some (.int (nI q)), some (.int (nI N)), some (.int (nI g)), some (.int (nI k)), z5] [] vc := by
        intro j
        induction j with
        | zero =>
          intro k Tc g vc z5 hk hg hGc hTc hF e
          rw [← e]
          have : k = N := by omega
          subst this
          refine xj_iload C a_T_pump_26 rfl ?_
          refine xj_iload_n C a_T_pump_28 rfl ?_
          refine xj_icmp_ge (x := nI k) (y := nI k) C a_T_pump_29 rfl (fun _ => ?_) (fun h => absurd (Int32.le_refl _) h)
          refine xj_iload_n C a_T_pump_92 rfl ?_
          exact xj_iret C a_T_pump_93 ⟨rfl, vc, rfl, hTc, hF⟩
        | succ j ih =>
          intro k Tc g vc z5 hk hg hGc hTc hF e
          have hz2 := hGc.2.1
          have hmk := hGc.2.2.2.2 q q1
          have es : pg_pmp q (j + 1) Tc g = if Tc.2.2.2.1 q < Tc.1.1 ∧ Tc.1.1 < 150 then (match pg_give Tc (Tc.2.2.2.1 q) q with | some T' => pg_pmp q j (pg_mk T' q) (g + 1) | none => pg_pmp q j (pg_mk Tc q) g) else (g, Tc) := rfl
          have stop : ¬ (Tc.2.2.2.1 q < Tc.1.1 ∧ Tc.1.1 < 150) → xn_X E G (xj_R E G (xp_ti v (.int (nI (pg_pmp q N T 0).1)) (pg_pmp q N T 0).2) 0 0) 0 0 92 [some (.ref (xj_ad G (21, 0, 0))), some (.int (nI q)), some (.int (nI N)), some (.int (nI g)), some (.int (nI k)), z5] [] vc := by
            intro h
            rw [es, if_neg h] at e
            rw [← e]
            refine xj_iload_n C a_T_pump_92 rfl ?_
            exact xj_iret C a_T_pump_93 ⟨rfl, vc, rfl, hTc, hF⟩
          refine xj_iload C a_T_pump_26 rfl ?_
          refine xj_iload_n C a_T_pump_28 rfl ?_
          refine xj_icmp_ge C a_T_pump_29 rfl (fun h29 => ?_) (fun h29 => ?_)
          · rw [nI_leI (by omega) (by omega)] at h29
            omega
          · refine xj_aload_n C a_T_pump_32 rfl ?_
            refine xn_g_T_mark C a_T_pump_33 fl_T_85 ?_
            refine xj_iload_n C a_T_pump_36 rfl ?_
            refine xn_ld_45 C a_T_pump_37 (by first | assumption | omega) ?_
            refine xj_topi (hTc.2.2.2.1 q q1) ?_
            refine xj_aload_n C a_T_pump_38 rfl ?_
            refine xn_g_T_count C a_T_pump_39 fl_T_88 ?_
            refine xj_topi hTc.1.z ?_
            refine xj_icmp_ge C a_T_pump_42 rfl (fun h42 => ?_) (fun h42 => ?_)
            · rw [nI_leI (by omega) (by omega)] at h42
              exact stop (fun h => by omega)
            · rw [nI_leI (by omega) (by omega)] at h42
              refine xj_aload_n C a_T_pump_45 rfl ?_
              refine xn_g_T_count C a_T_pump_46 fl_T_88 ?_
              refine xj_topi hTc.1.z ?_
              refine xj_sipush (v := nI 150) C a_T_pump_49 (by decide) ?_
              refine xj_icmp_ge C a_T_pump_52 rfl (fun h52 => ?_) (fun h52 => ?_)
              · rw [nI_leI (by omega) (by omega)] at h52
                exact stop (fun h => by omega)
              · rw [nI_leI (by omega) (by omega)] at h52
                have hlt : Tc.2.2.2.1 q < Tc.1.1 := by omega
                have hz : Tc.1.1 < 150 := by omega
                rw [es, if_pos ⟨hlt, hz⟩] at e
                refine xj_aload_n C a_T_pump_55 rfl ?_
                refine xn_g_T_mark C a_T_pump_56 fl_T_85 ?_
                refine xj_iload_n C a_T_pump_59 rfl ?_
                refine xn_ld_45 C a_T_pump_60 (by first | assumption | omega) ?_
                refine xj_topi (hTc.2.2.2.1 q q1) ?_
                refine xj_istore5 C a_T_pump_61 rfl ?_
                refine xj_aload_n C a_T_pump_63 rfl ?_
                refine xn_g_T_mark C a_T_pump_64 fl_T_85 ?_
                refine xj_iload_n C a_T_pump_67 rfl ?_
                refine xj_dup2 C a_T_pump_68 rfl rfl ?_
                refine xn_ld_45 C a_T_pump_69 (by first | assumption | omega) ?_
                refine xj_topi (hTc.2.2.2.1 q q1) ?_
                have hT1 := hTc.mk q1
                have hG1 := hGc.mk hlt
                have hF1 : xf_U v (xn_uI vc 45 0 0 q (nI (Tc.2.2.2.1 q + 1))) := hF.uI (by omega)
                refine xj_iconst (v := nI 1) C a_T_pump_70 (by decide) ?_
                refine xj_iaddN C a_T_pump_71 ?_
                refine xn_st_45 C a_T_pump_72 (by first | assumption | omega) ?_
                refine xj_aload_n C a_T_pump_73 rfl ?_
                refine xj_iload C a_T_pump_74 rfl ?_
                refine xj_iload_n C a_T_pump_76 rfl ?_
                refine xj_callV2 C a_T_pump_77 (c_T_give _ _ _ (pg_mk Tc q) hT1 hG1 hz (Tc.2.2.2.1 q) q hlt q1) mv_T_give lk_T_229 ⟨rfl, rfl, rfl⟩ xj_ok21 ⟨by decide, by decide⟩ rfl (Nat.le_of_ble_eq_true rfl) ⟨Nat.le_refl _, Nat.le_refl _⟩ (fun a' w' hres => ?_)
                obtain ⟨rfl, v2, rfl, hX2, hf2⟩ := hres
                rw [pg_give_mkc] at hX2 ⊢
                cases eg : pg_give Tc (Tc.2.2.2.1 q) q with
                | none =>
                  rw [eg] at hX2 e
                  refine xj_if_eq C a_T_pump_80 rfl (fun _ => ?_) (fun h => absurd rfl h)
                  refine xj_iincN4 C a_T_pump_86 rfl ?_
                  refine xj_goto C a_T_pump_89 rfl ?_
                  exact ih (k + 1) (pg_mk Tc q) g v2 _ (by omega) (by omega) hG1 hX2 (hF1.tr hf2) e
                | some T' =>
                  rw [eg] at hX2 e
                  obtain ⟨m1, m2⟩ := pg_give_mk eg
                  have hG2 := (hGc.give hz hlt q1 eg).mk (p := q) (by rw [m1]; omega)
                  refine xj_if_eq C a_T_pump_80 rfl (fun h => absurd h (show ¬ xp_b true = 0 by decide)) (fun _ => ?_)
                  refine xj_iincN3 C a_T_pump_83 rfl ?_
                  refine xj_iincN4 C a_T_pump_86 rfl ?_
                  refine xj_goto C a_T_pump_89 rfl ?_
                  exact ih (k + 1) (pg_mk T' q) (g + 1) v2 _ (by omega) (by omega) hG2 hX2 (hF1.tr hf2) e
      refine xj_iconst (v := nI 0) C a_T_pump_21 (by decide) ?_
      refine xj_istore3 C a_T_pump_22 rfl ?_
      refine xj_iconst (v := nI 0) C a_T_pump_23 (by decide) ?_
      refine xj_istore4 C a_T_pump_24 rfl ?_
      exact loop N 0 T 0 v none (by omega) (by omega) hG hT (xf_U.rf v) rfl
    · rw [xp_b0, decide_eq_false_iff_not, Classical.not_not] at h16
      refine bad (fun h => ?_)
      rcases h16 with g | g
      · exact Int32.not_lt.mpr h.2.1 g
      · exact g h.2.2
