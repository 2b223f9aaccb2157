/-! the reference: the phases, and executing -/
theorem pg_rk_or {k r : Nat} {S S' : pg_S} (hk : 1 ≤ k ∧ k ≤ 3) (h : pg_rk k r S = some S') (hp : ∀ k', 1 ≤ k' → k' < k → pg_rk k' r S = none) : (pg_r1 r S).or ((pg_r2 r S).or (pg_r3 r S)) = some S' := by
  rcases (show k = 1 ∨ k = 2 ∨ k = 3 by omega) with rfl | rfl | rfl
  · have h : pg_r1 r S = some S' := h
    rw [h]; rfl
  · have h : pg_r2 r S = some S' := h
    have h1 : pg_r1 r S = none := hp 1 (by decide) (by decide)
    rw [h1, h]; rfl
  · have h : pg_r3 r S = some S' := h
    have h1 : pg_r1 r S = none := hp 1 (by decide) (by decide)
    have h2 : pg_r2 r S = none := hp 2 (by decide) (by decide)
    rw [h1, h2, h]; rfl
theorem c_T_phases (l : Launch) (G : xj_G) (v : xn_V) (r : Nat) (hr : r < 4) (S : pg_S) (hS : xt_S r S v) (hN : pg_num S.2) (hz : S.1.1 < 200) (hh : pg_h S.2 < 190) : xj_Mx l G 2 55 0 0 m_T_phases [.ref (xj_ad G (21, 0, 0)), .int (nI r)] (xn_W v) (xp_tr r v S ((pg_r1 r S).or ((pg_r2 r S).or (pg_r3 r S)))) := by
  refine xj_Mx_of (by decide) (Nat.le_of_ble_eq_true rfl) (fun E hE C _ => ?_)
  subst hE
  replace C : xj_C E G prog_9_method_29_code "ThreePhaseGroupModel" 5 2 55 0 0 (some .boolean) := C
  show xn_X E G _ 0 0 0 [some (.ref (xj_ad G (21, 0, 0))), some (.int (nI r)), none, none, none] [] v
  have inner : ∀ (k : Nat), 1 ≤ k → k ≤ 3 → (∀ k', 1 ≤ k' → k' < k → pg_rk k' r S = none) → (∀ (v1 : xn_V) (z3 z4 : Option Value), xt_S r S v1 → xf_T r v v1 → pg_rk k r S = none → xn_X E G (xj_R E G (xp_tr r v S ((pg_r1 r S).or ((pg_r2 r S).or (pg_r3 r S)))) 0 0) 0 0 74 [some (.ref (xj_ad G (21, 0, 0))), some (.int (nI r)), some (.int (nI k)), z3, z4] [] v1) → ∀ (N n : Nat) (v1 : xn_V) (z4 : Option Value), pg_h S.2 < n → n ≤ pg_h S.2 + 5 → pg_h S.2 + 5 - n < N → (∀ m, pg_h S.2 < m → m < n → pg_ac S.2 m = 0 ∨ pg_phs k r S m = none) → xt_S r S v1 → xf_T r v v1 → xn_X E G (xj_R E G (xp_tr r v S ((pg_r1 r S).or ((pg_r2 r S).or (pg_r3 r S)))) 0 0) 0 0 16 [some (.ref (xj_ad G (21, 0, 0))), some (.int (nI r)), some (.int (nI k)), some (.int (nI n)), z4] [] v1 := by
    intro k hk1 hk3 hprev done N
    induction N with
    | zero => intro n v1 z4 _ _ h; omega
    | succ N ih =>
      intro n v1 z4 hn hn5 hN2 hm hS1 hF1
      have hac := (hN.2.2.2.2.2.2.2 n).1
      refine xj_iload_n C a_T_phases_16 rfl ?_
      refine xj_aload_n C a_T_phases_17 rfl ?_
      refine xn_g_T_h C a_T_phases_18 fl_T_42 ?_
      refine xj_iload_n C a_T_phases_21 rfl ?_
      refine xn_ld_32 C a_T_phases_22 (by first | assumption | omega) ?_
      refine xj_topi hS1.2.1.h ?_
      refine xj_iconst (v := nI 4) C a_T_phases_23 (by decide) ?_
      refine xj_iaddN C a_T_phases_24 ?_
      refine xj_icmp_gt C a_T_phases_25 rfl (fun h25 => ?_) (fun h25 => ?_)
      · rw [nI_ltI (by omega) (by omega)] at h25
        exact done v1 _ _ hS1 hF1 (pg_rk_none (fun m m1 m2 => hm m m1 (by omega)))
      · rw [nI_ltI (by omega) (by omega)] at h25
        have next : ∀ v2, xt_S r S v2 → xf_T r v v2 → (pg_ac S.2 n = 0 ∨ pg_phs k r S n = none) → xn_X E G (xj_R E G (xp_tr r v S ((pg_r1 r S).or ((pg_r2 r S).or (pg_r3 r S)))) 0 0) 0 0 68 [some (.ref (xj_ad G (21, 0, 0))), some (.int (nI r)), some (.int (nI k)), some (.int (nI n)), some (.int (nI (200 * r + n)))] [] v2 := by
          intro v2 hS2 hF2 h2
          refine xj_iincN3 C a_T_phases_68 rfl ?_
          refine xj_goto C a_T_phases_71 rfl ?_
          refine ih (n + 1) v2 _ (by omega) (by omega) (by omega) (fun m m1 m2 => ?_) hS2 hF2
          by_cases e : m = n
          · rw [e]; exact h2
          · exact hm m m1 (by omega)
        refine xj_sipush (v := nI 200) C a_T_phases_28 (by decide) ?_
        refine xj_iload_n C a_T_phases_31 rfl ?_
        refine xj_imulN C a_T_phases_32 ?_
        refine xj_iload_n C a_T_phases_33 rfl ?_
        refine xj_iaddN C a_T_phases_34 ?_
        refine xj_istore4 C a_T_phases_35 rfl ?_
        refine xj_aload_n C a_T_phases_37 rfl ?_
        refine xn_g_T_accepted C a_T_phases_38 fl_T_57 ?_
        refine xj_iload C a_T_phases_41 rfl ?_
        refine xn_ld_37 C a_T_phases_43 (by first | assumption | omega) ?_
        refine xj_topi (hS1.2.1.ac (show n < 200 by omega)) ?_
        refine xj_if_eq C a_T_phases_44 rfl (fun h44 => ?_) (fun h44 => ?_)
        · rw [xp_nz (by omega)] at h44
          exact next v1 hS1 hF1 (Or.inl h44)
        · rw [xp_nz (by omega)] at h44
          refine xj_aload_n C a_T_phases_47 rfl ?_
          refine xj_iload_n C a_T_phases_48 rfl ?_
          refine xj_iload_n C a_T_phases_49 rfl ?_
          refine xj_iload_n C a_T_phases_50 rfl ?_
          refine xj_aload_n C a_T_phases_51 rfl ?_
          refine xn_g_T_accepted C a_T_phases_52 fl_T_57 ?_
          refine xj_iload C a_T_phases_55 rfl ?_
          refine xn_ld_37 C a_T_phases_57 (by first | assumption | omega) ?_
          refine xj_topi (hS1.2.1.ac (show n < 200 by omega)) ?_
          refine xj_iconst (v := nI 2) C a_T_phases_58 (by decide) ?_
          refine xj_isub C a_T_phases_59 ?_
          refine xj_callV4 C a_T_phases_60 (c_T_phase _ _ v1 r hr S hS1 hN hz n (by omega) h44 k ⟨hk1, hk3⟩) mv_T_phase lk_T_204 ⟨rfl, rfl, rfl⟩ xj_ok21 ⟨by decide, by decide⟩ rfl (Nat.le_of_ble_eq_true rfl) ⟨Nat.le_refl _, Nat.le_refl _⟩ (fun a' w' hres => ?_)
          obtain ⟨rfl, v2, rfl, hS2, hf2⟩ := hres
          cases e : pg_phs k r S n with
          | none =>
            rw [e] at hS2
            refine xj_if_eq C a_T_phases_63 rfl (fun h63 => ?_) (fun h63 => ?_)
            · exact next v2 hS2 (hF1.tr hf2) (Or.inr e)
            · exact absurd rfl h63
          | some S' =>
            rw [e] at hS2
            refine xj_if_eq C a_T_phases_63 rfl (fun h63 => ?_) (fun h63 => ?_)
            · exact absurd h63 (show ¬ xp_b true = 0 by decide)
            · rw [pg_rk_or ⟨hk1, hk3⟩ (pg_rk_some hn (by omega) h44 e hm) hprev]
              refine xj_iconst (v := nI 1) C a_T_phases_66 (by decide) ?_
              exact xj_zret C a_T_phases_67 rfl ⟨rfl, v2, rfl, hS2, hF1.tr hf2⟩
  have outer : ∀ (N k : Nat) (v1 : xn_V) (z3 z4 : Option Value), 1 ≤ k → k ≤ 4 → 4 - k < N → (∀ k', 1 ≤ k' → k' < k → pg_rk k' r S = none) → xt_S r S v1 → xf_T r v v1 → xn_X E G (xj_R E G (xp_tr r v S ((pg_r1 r S).or ((pg_r2 r S).or (pg_r3 r S)))) 0 0) 0 0 2 [some (.ref (xj_ad G (21, 0, 0))), some (.int (nI r)), some (.int (nI k)), z3, z4] [] v1 := by
    intro N
    induction N with
    | zero => intro k v1 z3 z4 _ _ h; omega
    | succ N ih =>
      intro k v1 z3 z4 hk1 hk4 hN2 hp hS1 hF1
      refine xj_iload_n C a_T_phases_2 rfl ?_
      refine xj_iconst (v := nI 3) C a_T_phases_3 (by decide) ?_
      refine xj_icmp_gt C a_T_phases_4 rfl (fun h4 => ?_) (fun h4 => ?_)
      · rw [nI_ltI (by omega) (by omega)] at h4
        have h1 : pg_r1 r S = none := hp 1 (by decide) (by omega)
        have h2 : pg_r2 r S = none := hp 2 (by decide) (by omega)
        have h3 : pg_r3 r S = none := hp 3 (by decide) (by omega)
        rw [h1, h2, h3]
        refine xj_iconst (v := nI 0) C a_T_phases_80 (by decide) ?_
        exact xj_zret C a_T_phases_81 rfl ⟨rfl, v1, rfl, hS1, hF1⟩
      · rw [nI_ltI (by omega) (by omega)] at h4
        refine xj_aload_n C a_T_phases_7 rfl ?_
        refine xn_g_T_h C a_T_phases_8 fl_T_42 ?_
        refine xj_iload_n C a_T_phases_11 rfl ?_
        refine xn_ld_32 C a_T_phases_12 (by first | assumption | omega) ?_
        refine xj_topi hS1.2.1.h ?_
        refine xj_iconst (v := nI 1) C a_T_phases_13 (by decide) ?_
        refine xj_iaddN C a_T_phases_14 ?_
        refine xj_istore3 C a_T_phases_15 rfl ?_
        refine inner k hk1 (by omega) hp (fun v2 z3 z4 hS2 hF2 hnone => ?_) 6 (pg_h S.2 + 1) v1 _ (by omega) (by omega) (by omega) (fun m m1 m2 => by omega) hS1 hF1
        refine xj_iincN2 C a_T_phases_74 rfl ?_
        refine xj_goto C a_T_phases_77 rfl ?_
        refine ih (k + 1) v2 _ _ (by omega) (by omega) (by omega) (fun k' k1 k2 => ?_) hS2 hF2
        by_cases e : k' = k
        · rw [e]; exact hnone
        · exact hp k' k1 (by omega)
  refine xj_iconst (v := nI 1) C a_T_phases_0 (by decide) ?_
  refine xj_istore2 C a_T_phases_1 rfl ?_
  exact outer 4 1 v none none (by omega) (by omega) (by omega) (fun k' k1 k2 => by omega) hS (xf_T.rf r v)
