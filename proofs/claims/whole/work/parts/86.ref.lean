/-! the reference: all rules -/
theorem pg_in.st {F r : Nat} {S : pg_S} (h : pg_in F r S) (hz : S.1.1 ≤ 252) {y : Int64} (hv : ∀ k, k < 3 → pg_vt y k < S.1.1 ∧ (pg_b S.1 (pg_vt y k) = 0 ∨ (pg_proof S.1 (pg_b S.1 (pg_vt y k)) (pg_vt y k)).isSome = true)) : pg_st S.1 y < 190 := by
  obtain ⟨k, k1, k2⟩ := pg_st_is S.1 y
  obtain ⟨h1, h2⟩ := hv k k1
  rw [k2]
  rcases h2 with e | e
  · rw [pg_nb_n (n := 0) e (by decide)]; decide
  · obtain ⟨p, p1, p2, p3⟩ := h.2.cert (by omega) (Nat.le_of_lt h1) e
    rw [pg_nb_n p1 (by omega)]
    omega
theorem pg_in.st7 {F r : Nat} {S : pg_S} (h : pg_in F r S) (hz : S.1.1 ≤ 252) (ho : (pg_vts r S 4).2.2 = true) (ht : (pg_vts r S 4).2.1 = 2) : pg_st S.1 (pg_vts r S 4).1.toInt64 < 190 := by
  refine h.st hz (fun k hk => ?_)
  obtain ⟨s, hs⟩ := pg_vts_vt (by omega) ho ht hk
  obtain ⟨s1, s2, s3, s4, s5⟩ := pg_vc_some hs
  exact ⟨s1, h.1.1.2.2.2.2.2.2.2.1 _ s1 s2 s3⟩
theorem pg_in.stm {F r : Nat} {S : pg_S} (h : pg_in F r S) (hz : S.1.1 ≤ 252) {m : Nat} (hm : m < S.1.1) (hg : pg_gn S.1 m = true) : pg_st S.1 (pg_b S.1 m) < 190 := by
  refine h.st hz (fun k hk => ?_)
  obtain ⟨v1, v2⟩ := (pg_gn_v hg).1 k hk
  exact ⟨by omega, pg_gc_b v2⟩
theorem pg_rl_or {r : Nat} {S : pg_S} : pg_rl r S = ((pg_r1 r S).or ((pg_r2 r S).or (pg_r3 r S))).or ((pg_r4 r S).or ((pg_r5 S).or ((pg_r6 r S).or ((pg_r7 r S).or (pg_r8 r S))))) := by
  unfold pg_rl
  cases pg_r1 r S <;> cases pg_r2 r S <;> cases pg_r3 r S <;> rfl
/-- what a run of the reference leaves -/
def xp_tR (r : Nat) (v : xn_V) (S' : pg_S) (a : Option Value) (w' : xj_W) : Prop := a = none ∧ ∃ v', w' = xn_W v' ∧ xt_B S'.1 v' ∧ xt_R r S'.2 v' ∧ xf_T r v v'
theorem c_T_rules (l : Launch) (G : xj_G) (v : xn_V) (F r : Nat) (hr : r < 4) (S : pg_S) (hS : xt_S r S v) (hq : ∀ k, pg_in F r (pg_rls r k S) ∧ (pg_rls r k S).1.1 ≤ 196) : xj_Mx l G 4 113 0 0 m_T_rules [.ref (xj_ad G (21, 0, 0)), .int (nI r)] (xn_W v) (xp_tR r v (pg_run r S)) := by
  refine xj_Mx_of (by decide) (Nat.le_of_ble_eq_true rfl) (fun E hE C _ => ?_)
  subst hE
  replace C : xj_C E G prog_9_method_28_code "ThreePhaseGroupModel" 4 4 113 0 0 none := C
  show xn_X E G _ 0 0 0 [some (.ref (xj_ad G (21, 0, 0))), some (.int (nI r)), none, none] [] v
  have fin : ∀ (Sf : pg_S) (vf : xn_V) (z2 z3 : Option Value), Sf = pg_rls r 1000 S → pg_num Sf.2 → xt_S r Sf vf → xf_T r v vf → xn_X E G (xj_R E G (xp_tR r v (pg_run r S)) 0 0) 0 0 75 [some (.ref (xj_ad G (21, 0, 0))), some (.int (nI r)), z2, z3] [] vf := by
    intro Sf vf z2 z3 eS hN hX hF
    obtain ⟨hB, hR, hA⟩ := hX
    have hz := hB.2.1
    have hwn : pg_wn Sf ≤ Sf.1.1 := xp_c_le _ _
    have hvw := hN.1
    have hch := hN.2.1
    have htm := hN.2.2.2.2.1
    have hsp := hN.2.2.2.2.2.1
    have haf := hN.2.2.2.2.2.2.1
    have er : pg_run r S = (Sf.1, pg_u (pg_tmr Sf) 11 0 0) := by unfold pg_run; rw [← eS]
    rw [er]
    have zero : (pg_vw Sf.2 = 15 ∨ (pg_ch Sf.2 = 0 ∧ pg_wn Sf = 0)) → xn_X E G (xj_R E G (xp_tR r v (Sf.1, pg_u (pg_tmr Sf) 11 0 0)) 0 0) 0 0 103 [some (.ref (xj_ad G (21, 0, 0))), some (.int (nI r)), z2, z3] [] vf := by
      intro h
      have et : pg_tmr Sf = pg_u Sf.2 5 0 0 := by unfold pg_tmr; rw [if_pos h]
      rw [et]
      refine xj_aload_n C a_T_rules_103 rfl ?_
      refine xn_g_T_timer C a_T_rules_104 fl_T_54 ?_
      refine xj_iload_n C a_T_rules_107 rfl ?_
      refine xj_iconst (v := nI 0) C a_T_rules_108 (by decide) ?_
      refine xn_st_36 C a_T_rules_109 (by first | assumption | omega) ?_
      refine xj_goto C a_T_rules_110 rfl ?_
      refine xj_vret C a_T_rules_141 ⟨rfl, _, rfl, hB.uI (by omega), (hR.uS (t := 5) (x := 0) (K := 36) (by decide) rfl).congr (fun t i ht => ?_) rfl, hF.uI (by omega)⟩
      show (if t = 11 ∧ i = 0 then 0 else _) = _
      rw [if_neg (by omega)]
    have tail : ¬ (pg_vw Sf.2 = 15 ∨ (pg_ch Sf.2 = 0 ∧ pg_wn Sf = 0)) → xn_X E G (xj_R E G (xp_tR r v (Sf.1, pg_u (pg_tmr Sf) 11 0 0)) 0 0) 0 0 113 [some (.ref (xj_ad G (21, 0, 0))), some (.int (nI r)), z2, z3] [] vf := by
      intro h
      have again : (pg_tm Sf.2 = 0 ∨ pg_af Sf.2 = 1) → xn_X E G (xj_R E G (xp_tR r v (Sf.1, pg_u (pg_tmr Sf) 11 0 0)) 0 0) 0 0 129 [some (.ref (xj_ad G (21, 0, 0))), some (.int (nI r)), z2, z3] [] vf := by
        intro h2
        have et : pg_tmr Sf = pg_u Sf.2 5 0 (pg_sp Sf.2) := by unfold pg_tmr; rw [if_neg h, if_pos h2]
        rw [et]
        refine xj_aload_n C a_T_rules_129 rfl ?_
        refine xn_g_T_timer C a_T_rules_130 fl_T_54 ?_
        refine xj_iload_n C a_T_rules_133 rfl ?_
        refine xj_aload_n C a_T_rules_134 rfl ?_
        refine xn_g_T_span C a_T_rules_135 fl_T_51 ?_
        refine xj_iload_n C a_T_rules_138 rfl ?_
        refine xn_ld_35 C a_T_rules_139 (by first | assumption | omega) ?_
        refine xj_topi hR.sp ?_
        refine xn_st_36 C a_T_rules_140 (by first | assumption | omega) ?_
        refine xj_vret C a_T_rules_141 ⟨rfl, _, rfl, hB.uI (by omega), (hR.uS (t := 5) (x := pg_sp Sf.2) (K := 36) (by decide) rfl).congr (fun t i ht => ?_) rfl, hF.uI (by omega)⟩
        show (if t = 11 ∧ i = 0 then 0 else _) = _
        rw [if_neg (by omega)]
      refine xj_aload_n C a_T_rules_113 rfl ?_
      refine xn_g_T_timer C a_T_rules_114 fl_T_54 ?_
      refine xj_iload_n C a_T_rules_117 rfl ?_
      refine xn_ld_36 C a_T_rules_118 (by first | assumption | omega) ?_
      refine xj_topi hR.tm ?_
      refine xj_if_eq C a_T_rules_119 rfl (fun h119 => ?_) (fun h119 => ?_)
      · rw [xp_nz (by omega)] at h119
        exact again (Or.inl h119)
      · rw [xp_nz (by omega)] at h119
        refine xj_aload_n C a_T_rules_122 rfl ?_
        refine xn_g_T_afresh C a_T_rules_123 fl_T_138 ?_
        refine xj_topi hA ?_
        refine xj_if_eq C a_T_rules_126 rfl (fun h126 => ?_) (fun h126 => ?_)
        · rw [xp_nz (by omega)] at h126
          have et : pg_tmr Sf = Sf.2 := by unfold pg_tmr; rw [if_neg h, if_neg (by omega)]
          rw [et]
          refine xj_vret C a_T_rules_141 ⟨rfl, _, rfl, hB, hR.congr (fun t i ht => ?_) rfl, hF⟩
          show (if t = 11 ∧ i = 0 then 0 else _) = _
          rw [if_neg (by omega)]
        · rw [xp_nz (by omega)] at h126
          exact again (Or.inr (by omega))
    refine xj_aload_n C a_T_rules_75 rfl ?_
    refine xn_g_T_view C a_T_rules_76 fl_T_36 ?_
    refine xj_iload_n C a_T_rules_79 rfl ?_
    refine xn_ld_30 C a_T_rules_80 (by first | assumption | omega) ?_
    refine xj_topi hR.vw ?_
    refine xj_bipush (v := nI 15) C a_T_rules_81 (by decide) ?_
    refine xj_icmp_eq C a_T_rules_83 rfl (fun h83 => ?_) (fun h83 => ?_)
    · rw [nI_eq (by omega) (by omega)] at h83
      exact zero (Or.inl h83)
    · rw [nI_eq (by omega) (by omega)] at h83
      refine xj_aload_n C a_T_rules_86 rfl ?_
      refine xn_g_T_changing C a_T_rules_87 fl_T_39 ?_
      refine xj_iload_n C a_T_rules_90 rfl ?_
      refine xn_ld_31 C a_T_rules_91 (by first | assumption | omega) ?_
      refine xj_topi hR.ch ?_
      refine xj_if_ne C a_T_rules_92 rfl (fun h92 => ?_) (fun h92 => ?_)
      · rw [xp_nz (by omega)] at h92
        exact tail (by omega)
      · rw [xp_nz (by omega)] at h92
        have h92 : pg_ch Sf.2 = 0 := by simpa using h92
        refine xj_aload_n C a_T_rules_95 rfl ?_
        refine xj_iload_n C a_T_rules_96 rfl ?_
        refine xn_callV1i C a_T_rules_97 (c_T_waiting _ _ vf r hr Sf hB hR) mv_T_waiting lk_T_201 ⟨rfl, rfl, rfl⟩ xj_ok21 ⟨by decide, by decide⟩ rfl (Nat.le_of_ble_eq_true rfl) ⟨Nat.le_refl _, Nat.le_refl _⟩ ?_
        refine xj_if_ne C a_T_rules_100 rfl (fun h100 => ?_) (fun h100 => ?_)
        · rw [xp_nz (by omega)] at h100
          exact tail (by omega)
        · rw [xp_nz (by omega)] at h100
          exact zero (Or.inr ⟨h92, by omega⟩)
  have loop : ∀ (n i : Nat) (Sc : pg_S) (vc : xn_V), i + n = 1000 → (∀ k, pg_in F r (pg_rls r k Sc) ∧ (pg_rls r k Sc).1.1 ≤ 196) → pg_rls r n Sc = pg_rls r 1000 S → xt_S r Sc vc → xf_T r v vc → xn_X E G (xj_R E G (xp_tR r v (pg_run r S)) 0 0) 0 0 4 [some (.ref (xj_ad G (21, 0, 0))), some (.int (nI r)), some (.int (nI 1)), some (.int (nI i))] [] vc := by
    intro n
    induction n with
    | zero =>
      intro i Sc vc hin hq eS hX hF
      have hin2 : i = 1000 := by omega
      subst hin2
      refine xj_iload_n C a_T_rules_4 rfl ?_
      refine xj_sipush (v := nI 1000) C a_T_rules_5 (by decide) ?_
      refine xj_icmp_ge (x := nI 1000) (y := nI 1000) C a_T_rules_8 rfl (fun _ => ?_) (fun h => absurd (by decide) h)
      exact fin Sc vc _ _ eS ((hq 0).1.1.num (by have := (hq 0).2; omega)) hX hF
    | succ n ih =>
      intro i Sc vc hin hq eS hX hF
      have h0 : pg_in F r Sc := (hq 0).1
      have hz : Sc.1.1 ≤ 196 := (hq 0).2
      have hN := h0.1.num (by omega)
      have hsm := h0.sm (by omega)
      have again : ∀ S', pg_rl r Sc = some S' → ∀ v', xt_S r S' v' → xf_T r v v' → xn_X E G (xj_R E G (xp_tR r v (pg_run r S)) 0 0) 0 0 63 [some (.ref (xj_ad G (21, 0, 0))), some (.int (nI r)), some (.int (nI 1)), some (.int (nI i))] [] v' := by
        intro S' h v' hX' hF'
        have es : ∀ k, pg_rls r (k + 1) Sc = pg_rls r k S' := fun k => by
          show (match pg_rl r Sc with | some S2 => pg_rls r k S2 | none => Sc) = _
          rw [h]
        refine xj_iconst (v := nI 1) C a_T_rules_63 (by decide) ?_
        refine xj_goto C a_T_rules_64 rfl ?_
        refine xj_istore2 C a_T_rules_68 rfl ?_
        refine xj_iincN3 C a_T_rules_69 rfl ?_
        refine xj_goto C a_T_rules_72 rfl ?_
        exact ih (i + 1) S' v' (by omega) (fun k => by rw [← es k]; exact hq (k + 1)) (by rw [← es n]; exact eS) hX' hF'
      rw [pg_rl_or] at again
      obtain ⟨a1, a2, a3, a4, a5, a6, a7, a8, a9, b1, b2, b3, c1, c2, c3, d1, d2, d3, e1, e2, e3⟩ := h0.1.1
      refine xj_iload_n C a_T_rules_4 rfl ?_
      refine xj_sipush (v := nI 1000) C a_T_rules_5 (by decide) ?_
      refine xj_icmp_ge (x := nI i) (y := nI 1000) C a_T_rules_8 rfl (fun h => absurd h (by rw [nI_leI (by omega) (by omega)]; omega)) (fun _ => ?_)
      refine xj_iload_n C a_T_rules_11 rfl ?_
      refine xj_if_eq C a_T_rules_12 rfl (fun h => absurd h (by decide)) (fun _ => ?_)
      refine xj_aload_n C a_T_rules_15 rfl ?_
      refine xj_iload_n C a_T_rules_16 rfl ?_
      refine xj_callV1 C a_T_rules_17 (c_T_phases _ _ vc r hr Sc hX hN (by omega) (by omega)) mv_T_phases lk_T_183 ⟨rfl, rfl, rfl⟩ xj_ok21 ⟨by decide, by decide⟩ rfl (Nat.le_of_ble_eq_true rfl) ⟨Nat.le_refl _, Nat.le_refl _⟩ (fun a' w' hres => ?_)
      obtain ⟨rfl, v1, rfl, hX1, hf1⟩ := hres
      cases q1 : (pg_r1 r Sc).or ((pg_r2 r Sc).or (pg_r3 r Sc)) with
      | some S' =>
        rw [q1] at hX1
        refine xj_if_ne C a_T_rules_20 rfl (fun _ => ?_) (fun h => absurd h (show ¬ xp_b true = 0 by decide))
        exact again S' (by rw [q1]; rfl) v1 hX1 (hF.tr hf1)
      | none =>
        rw [q1] at hX1 again
        replace hX1 : xt_S r Sc v1 := hX1
        refine xj_if_ne C a_T_rules_20 rfl (fun h => absurd rfl h) (fun _ => ?_)
        refine xj_aload_n C a_T_rules_23 rfl ?_
        refine xj_iload_n C a_T_rules_24 rfl ?_
        refine xj_callV1 C a_T_rules_25 (c_T_executes _ _ v1 r hr Sc hX1 hN a1 h0.2.2.1 (by omega) (by omega) (fun n hn => (d3 n (by omega)).2 hn)) mv_T_executes lk_T_186 ⟨rfl, rfl, rfl⟩ xj_ok21 ⟨by decide, by decide⟩ rfl (Nat.le_of_ble_eq_true rfl) ⟨Nat.le_refl _, Nat.le_refl _⟩ (fun a' w' hres => ?_)
        obtain ⟨rfl, v2, rfl, hX2, hf2⟩ := hres
        have hF2 := (hF.tr hf1).tr hf2
        cases q2 : pg_r4 r Sc with
        | some S' =>
          rw [q2] at hX2
          refine xj_if_ne C a_T_rules_28 rfl (fun _ => ?_) (fun h => absurd h (show ¬ xp_b true = 0 by decide))
          exact again S' (by rw [q2]; rfl) v2 hX2 hF2
        | none =>
          rw [q2] at hX2 again
          replace hX2 : xt_S r Sc v2 := hX2
          refine xj_if_ne C a_T_rules_28 rfl (fun h => absurd rfl h) (fun _ => ?_)
          have hcert : ∀ i, pg_bst Sc Sc.1.1 = some i → ∃ n, n < 200 ∧ pg_a Sc.1 i = nI n := by
            intro i hi
            obtain ⟨i1, i2, i3, i4, i5⟩ := pg_bst_some hi
            obtain ⟨n, n1, n2, n3, -⟩ := pg_hr_cert h0 (by omega) i1 i3 i5
            exact ⟨n, by omega, n1⟩
          refine xj_aload_n C a_T_rules_31 rfl ?_
          refine xj_iload_n C a_T_rules_32 rfl ?_
          refine xj_callV1 C a_T_rules_33 (c_T_truncates _ _ v2 r hr Sc hX2 (by omega) hcert) mv_T_truncates lk_T_189 ⟨rfl, rfl, rfl⟩ xj_ok21 ⟨by decide, by decide⟩ rfl (Nat.le_of_ble_eq_true rfl) ⟨Nat.le_refl _, Nat.le_refl _⟩ (fun a' w' hres => ?_)
          obtain ⟨rfl, v3, rfl, hX3, hf3⟩ := hres
          have hF3 := hF2.tr hf3
          cases q3 : pg_r5 Sc with
          | some S' =>
            rw [q3] at hX3
            refine xj_if_ne C a_T_rules_36 rfl (fun _ => ?_) (fun h => absurd h (show ¬ xp_b true = 0 by decide))
            exact again S' (by rw [q3]; rfl) v3 hX3 hF3
          | none =>
            rw [q3] at hX3 again
            replace hX3 : xt_S r Sc v3 := hX3
            refine xj_if_ne C a_T_rules_36 rfl (fun h => absurd rfl h) (fun _ => ?_)
            refine xj_aload_n C a_T_rules_39 rfl ?_
            refine xj_iload_n C a_T_rules_40 rfl ?_
            refine xj_callV1 C a_T_rules_41 (c_T_joins _ _ v3 r hr Sc hX3 hN (by omega) (by omega) a7 (fun hl => by obtain ⟨i, -, -, h2, -⟩ := pg_vcs_fold h0 hl; exact h2)) mv_T_joins lk_T_192 ⟨rfl, rfl, rfl⟩ xj_ok21 ⟨by decide, by decide⟩ rfl (Nat.le_of_ble_eq_true rfl) ⟨Nat.le_refl _, Nat.le_refl _⟩ (fun a' w' hres => ?_)
            obtain ⟨rfl, v4, rfl, hX4, hf4⟩ := hres
            have hF4 := hF3.tr hf4
            cases q4 : pg_r6 r Sc with
            | some S' =>
              rw [q4] at hX4
              refine xj_if_ne C a_T_rules_44 rfl (fun _ => ?_) (fun h => absurd h (show ¬ xp_b true = 0 by decide))
              exact again S' (by rw [q4]; rfl) v4 hX4 hF4
            | none =>
              rw [q4] at hX4 again
              replace hX4 : xt_S r Sc v4 := hX4
              refine xj_if_ne C a_T_rules_44 rfl (fun h => absurd rfl h) (fun _ => ?_)
              refine xj_aload_n C a_T_rules_47 rfl ?_
              refine xj_iload_n C a_T_rules_48 rfl ?_
              refine xj_callV1 C a_T_rules_49 (c_T_opens _ _ v4 r hr Sc hX4 hN (by omega) (by omega) (by omega) (h0.1.o7 h0.2 (by omega)) (fun y ey _ _ h3 h4 => by rw [ey]; exact h0.st7 (by omega) h3 h4)) mv_T_opens lk_T_195 ⟨rfl, rfl, rfl⟩ xj_ok21 ⟨by decide, by decide⟩ rfl (Nat.le_of_ble_eq_true rfl) ⟨Nat.le_refl _, Nat.le_refl _⟩ (fun a' w' hres => ?_)
              obtain ⟨rfl, v5, rfl, hX5, hf5⟩ := hres
              have hF5 := hF4.tr hf5
              cases q5 : pg_r7 r Sc with
              | some S' =>
                rw [q5] at hX5
                refine xj_if_ne C a_T_rules_52 rfl (fun _ => ?_) (fun h => absurd h (show ¬ xp_b true = 0 by decide))
                exact again S' (by rw [q5]; rfl) v5 hX5 hF5
              | none =>
                rw [q5] at hX5 again
                replace hX5 : xt_S r Sc v5 := hX5
                refine xj_if_ne C a_T_rules_52 rfl (fun h => absurd rfl h) (fun _ => ?_)
                refine xj_aload_n C a_T_rules_55 rfl ?_
                refine xj_iload_n C a_T_rules_56 rfl ?_
                refine xj_callV1 C a_T_rules_57 (c_T_proposes _ _ v5 r hr Sc hX5 hN (by omega) (by omega)) mv_T_proposes lk_T_198 ⟨rfl, rfl, rfl⟩ xj_ok21 ⟨by decide, by decide⟩ rfl (Nat.le_of_ble_eq_true rfl) ⟨Nat.le_refl _, Nat.le_refl _⟩ (fun a' w' hres => ?_)
                obtain ⟨rfl, v6, rfl, hX6, hf6⟩ := hres
                have hF6 := hF5.tr hf6
                cases q6 : pg_r8 r Sc with
                | some S' =>
                  rw [q6] at hX6
                  refine xj_if_eq C a_T_rules_60 rfl (fun h => absurd h (show ¬ xp_b true = 0 by decide)) (fun _ => ?_)
                  exact again S' (by rw [q6]; rfl) v6 hX6 hF6
                | none =>
                  rw [q6] at hX6
                  replace hX6 : xt_S r Sc v6 := hX6
                  refine xj_if_eq C a_T_rules_60 rfl (fun _ => ?_) (fun h => absurd rfl h)
                  have hnone : pg_rl r Sc = none := by rw [pg_rl_or, q1, q2, q3, q4, q5, q6]; rfl
                  have es : pg_rls r (n + 1) Sc = Sc := by
                    show (match pg_rl r Sc with | some S2 => pg_rls r n S2 | none => Sc) = _
                    rw [hnone]
                  rw [es] at eS
                  refine xj_iconst (v := nI 0) C a_T_rules_67 (by decide) ?_
                  refine xj_istore2 C a_T_rules_68 rfl ?_
                  refine xj_iincN3 C a_T_rules_69 rfl ?_
                  refine xj_goto C a_T_rules_72 rfl ?_
                  refine xj_iload_n C a_T_rules_4 rfl ?_
                  refine xj_sipush (v := nI 1000) C a_T_rules_5 (by decide) ?_
                  refine xj_icmp_ge (x := nI (i + 1)) (y := nI 1000) C a_T_rules_8 rfl (fun _ => ?_) (fun _ => ?_)
                  · exact fin Sc v6 _ _ eS hN hX6 hF6
                  · refine xj_iload_n C a_T_rules_11 rfl ?_
                    refine xj_if_eq C a_T_rules_12 rfl (fun _ => ?_) (fun h => absurd rfl h)
                    exact fin Sc v6 _ _ eS hN hX6 hF6
  refine xj_iconst (v := nI 1) C a_T_rules_0 (by decide) ?_
  refine xj_istore2 C a_T_rules_1 rfl ?_
  refine xj_iconst (v := nI 0) C a_T_rules_2 (by decide) ?_
  refine xj_istore3 C a_T_rules_3 rfl ?_
  exact loop 1000 0 S v (by omega) hq rfl hS (xf_T.rf r v)
