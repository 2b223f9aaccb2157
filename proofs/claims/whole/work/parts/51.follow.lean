/-! all rules, one after another, then the timer -/
/-- what the rules ask of a replica -/
def pg_ok (r : Nat) (S : pg_S) : Prop := pg_num S.2 ∧ pg_kno S ∧ pg_top S ∧ pg_low S ∧ pg_ow r S ∧ pg_nu S ∧ pg_cu S ∧ pg_vcu r S ∧ pg_vo r S ∧ pg_vb S ∧ pg_nw S ∧ pg_vi r S ∧ pg_bke S.1 ∧ pg_o7 r S ∧ pg_rq S.1 ∧ S.1.1 < 255
theorem c_R_followRules (l : Launch) (G : xj_G) (v : xn_V) (r : Nat) (hr : r < 4) (S : pg_S) (hR : xc_R r S v) (hB : xc_B S.1 v) (hok : ∀ k, k ≤ 1000 → pg_ok r (pg_rls r k S)) (hend : pg_rl r (pg_rls r 1000 S) = none) : xj_Mx l G 5 117 0 0 m_R_followRules [.ref (xj_ad G (11, r, 0))] (xn_W v) (xp_bg r v (pg_run r S) none) := by
  refine xj_Mx_of (by decide) (Nat.le_of_ble_eq_true rfl) (fun E hE C _ => ?_)
  subst hE
  replace C : xj_C E G prog_5_method_18_code "ThreePhaseGroup$Replica" 3 5 117 0 0 none := C
  show xn_X E G _ 0 0 0 [some (.ref (xj_ad G (11, r, 0))), none, none] [] v
  refine xj_iconst (v := nI 1) C a_R_followRules_0 (by decide) ?_
  refine xj_istore1 C a_R_followRules_1 rfl ?_
  refine xj_iconst (v := nI 0) C a_R_followRules_2 (by decide) ?_
  refine xj_istore2 C a_R_followRules_3 rfl ?_
  have loop : ∀ (n i : Nat) (Sc : pg_S) (vc : xn_V), i + n = 1000 → (∀ k, k ≤ n → pg_ok r (pg_rls r k Sc)) → pg_rl r (pg_rls r n Sc) = none → pg_rls r n Sc = pg_rls r 1000 S → xc_R r Sc vc → xc_B Sc.1 vc → xf_O r v vc → xn_X E G (xj_R E G (xp_bg r v (pg_run r S) none) 0 0) 0 0 4 [some (.ref (xj_ad G (11, r, 0))), some (.int (nI 1)), some (.int (nI i))] [] vc := by
    intro n
    induction n with
    | zero =>
      intro i Sc vc hin hok hend heq hR hB hO0
      have hnone : pg_rl r Sc = none := hend
      have hstop : pg_rls r 1000 S = Sc := heq.symm
      have again : ∀ S', pg_rl r Sc = some S' → ∀ v', xc_R r S' v' → xc_B S'.1 v' → xf_O r vc v' → xn_X E G (xj_R E G (xp_bg r v (pg_run r S) none) 0 0) 0 0 70 [some (.ref (xj_ad G (11, r, 0))), some (.int (nI 1)), some (.int (nI i))] [] v' := by
        intro S' h
        rw [hnone] at h
        cases h
      have hsk := hok 0 (Nat.le_refl 0)
      replace hsk : pg_ok r Sc := hsk
      have hi3 : i ≤ 1000 := by omega
      obtain ⟨hN, hK, hT, hW, hO, hNu, hCu, hu, ho, hb, hnw, hi, hbk, h7, hQ, hz⟩ := hsk
      have hz1 : Sc.1.1 < 256 := by omega
      refine xj_iload_n C a_R_followRules_4 rfl ?_
      refine xj_ldc C a_R_followRules_5 ki_R_177 ?_
      refine xj_icmp_ge (x := nI i) (y := nI 100000) C a_R_followRules_7 rfl (fun h7a => absurd h7a (by rw [nI_leI (by omega) (by omega)]; omega)) (fun h7a => ?_)
      refine xj_iload_n C a_R_followRules_10 rfl ?_
      refine xj_if_eq C a_R_followRules_11 rfl (fun h11 => absurd h11 (by decide)) (fun h11 => ?_)
      refine xj_aload_n C a_R_followRules_14 rfl ?_
      refine xj_callV0 C a_R_followRules_15 (c_R_prepareNext _ _ vc r hr Sc hR hN hB hO hz1) mv_R_prepareNext lk_R_178 ⟨rfl, rfl, rfl⟩ (xj_ok11 (by first | assumption | omega)) ⟨by decide, by decide⟩ rfl (Nat.le_of_ble_eq_true rfl) ⟨Nat.le_refl _, Nat.le_refl _⟩ (fun a' w' hres => ?_)
      cases e1 : pg_r1 r Sc with
      | some S' =>
        rw [e1] at hres
        obtain ⟨rfl, v', rfl, g1, g2, g3⟩ := hres
        refine xj_if_ne C a_R_followRules_18 rfl (fun _ => ?_) (fun hx => absurd hx (by decide))
        exact again S' (by unfold pg_rl; rw [e1]; rfl) v' g1 g2 g3
      | none =>
        rw [e1] at hres
        obtain ⟨rfl, rfl⟩ := hres
        refine xj_if_ne C a_R_followRules_18 rfl (fun hx => absurd rfl hx) (fun _ => ?_)
        refine xj_aload_n C a_R_followRules_21 rfl ?_
        refine xj_callV0 C a_R_followRules_22 (c_R_commitNext _ _ vc r hr Sc hR hN hB hO hNu hz1) mv_R_commitNext lk_R_182 ⟨rfl, rfl, rfl⟩ (xj_ok11 (by first | assumption | omega)) ⟨by decide, by decide⟩ rfl (Nat.le_of_ble_eq_true rfl) ⟨Nat.le_refl _, Nat.le_refl _⟩ (fun a' w' hres => ?_)
        cases e2 : pg_r2 r Sc with
        | some S' =>
          rw [e2] at hres
          obtain ⟨rfl, v', rfl, g1, g2, g3⟩ := hres
          refine xj_if_ne C a_R_followRules_25 rfl (fun _ => ?_) (fun hx => absurd hx (by decide))
          exact again S' (by unfold pg_rl; rw [e1, e2]; rfl) v' g1 g2 g3
        | none =>
          rw [e2] at hres
          obtain ⟨rfl, rfl⟩ := hres
          refine xj_if_ne C a_R_followRules_25 rfl (fun hx => absurd rfl hx) (fun _ => ?_)
          refine xj_aload_n C a_R_followRules_28 rfl ?_
          refine xj_callV0 C a_R_followRules_29 (c_R_decideNext _ _ vc r hr Sc hR hN hB hO hNu) mv_R_decideNext lk_R_185 ⟨rfl, rfl, rfl⟩ (xj_ok11 (by first | assumption | omega)) ⟨by decide, by decide⟩ rfl (Nat.le_of_ble_eq_true rfl) ⟨Nat.le_refl _, Nat.le_refl _⟩ (fun a' w' hres => ?_)
          cases e3 : pg_r3 r Sc with
          | some S' =>
            rw [e3] at hres
            obtain ⟨rfl, v', rfl, g1, g2, g3⟩ := hres
            refine xj_if_ne C a_R_followRules_32 rfl (fun _ => ?_) (fun hx => absurd hx (by decide))
            exact again S' (by unfold pg_rl; rw [e1, e2, e3]; rfl) v' g1 g2 g3
          | none =>
            rw [e3] at hres
            obtain ⟨rfl, rfl⟩ := hres
            refine xj_if_ne C a_R_followRules_32 rfl (fun hx => absurd rfl hx) (fun _ => ?_)
            refine xj_aload_n C a_R_followRules_35 rfl ?_
            refine xj_callV0 C a_R_followRules_36 (c_R_executeNext _ _ vc r hr Sc hR hN hB hK hT hW hQ hz) mv_R_executeNext lk_R_188 ⟨rfl, rfl, rfl⟩ (xj_ok11 (by first | assumption | omega)) ⟨by decide, by decide⟩ rfl (Nat.le_of_ble_eq_true rfl) ⟨Nat.le_refl _, Nat.le_refl _⟩ (fun a' w' hres => ?_)
            cases e4 : pg_r4 r Sc with
            | some S' =>
              rw [e4] at hres
              obtain ⟨rfl, v', rfl, g1, g2, g3⟩ := hres
              refine xj_if_ne C a_R_followRules_39 rfl (fun _ => ?_) (fun hx => absurd hx (by decide))
              exact again S' (by unfold pg_rl; rw [e1, e2, e3, e4]; rfl) v' g1 g2 g3
            | none =>
              rw [e4] at hres
              obtain ⟨rfl, rfl⟩ := hres
              refine xj_if_ne C a_R_followRules_39 rfl (fun hx => absurd rfl hx) (fun _ => ?_)
              refine xj_aload_n C a_R_followRules_42 rfl ?_
              refine xj_callV0 C a_R_followRules_43 (c_R_settleNext _ _ vc r hr Sc hR hN hB hT hCu) mv_R_settleNext lk_R_191 ⟨rfl, rfl, rfl⟩ (xj_ok11 (by first | assumption | omega)) ⟨by decide, by decide⟩ rfl (Nat.le_of_ble_eq_true rfl) ⟨Nat.le_refl _, Nat.le_refl _⟩ (fun a' w' hres => ?_)
              cases e5 : pg_r5 Sc with
              | some S' =>
                rw [e5] at hres
                obtain ⟨rfl, v', rfl, g1, g2, g3⟩ := hres
                refine xj_if_ne C a_R_followRules_46 rfl (fun _ => ?_) (fun hx => absurd hx (by decide))
                exact again S' (by unfold pg_rl; rw [e1, e2, e3, e4, e5]; rfl) v' g1 g2 g3
              | none =>
                rw [e5] at hres
                obtain ⟨rfl, rfl⟩ := hres
                refine xj_if_ne C a_R_followRules_46 rfl (fun hx => absurd rfl hx) (fun _ => ?_)
                refine xj_aload_n C a_R_followRules_49 rfl ?_
                refine xj_callV0 C a_R_followRules_50 (c_R_joinChange _ _ vc r hr Sc hR hN hB hu ho hb hnw hz1) mv_R_joinChange lk_R_194 ⟨rfl, rfl, rfl⟩ (xj_ok11 (by first | assumption | omega)) ⟨by decide, by decide⟩ rfl (Nat.le_of_ble_eq_true rfl) ⟨Nat.le_refl _, Nat.le_refl _⟩ (fun a' w' hres => ?_)
                cases e6 : pg_r6 r Sc with
                | some S' =>
                  rw [e6] at hres
                  obtain ⟨rfl, v', rfl, g1, g2, g3⟩ := hres
                  refine xj_if_ne C a_R_followRules_53 rfl (fun _ => ?_) (fun hx => absurd hx (by decide))
                  exact again S' (by unfold pg_rl; rw [e1, e2, e3, e4, e5, e6]; rfl) v' g1 g2 g3
                | none =>
                  rw [e6] at hres
                  obtain ⟨rfl, rfl⟩ := hres
                  refine xj_if_ne C a_R_followRules_53 rfl (fun hx => absurd rfl hx) (fun _ => ?_)
                  refine xj_aload_n C a_R_followRules_56 rfl ?_
                  refine xj_callV0 C a_R_followRules_57 (c_R_openView _ _ vc r hr Sc hR hN hB hK hT hu ho hi hbk h7 hz1) mv_R_openView lk_R_197 ⟨rfl, rfl, rfl⟩ (xj_ok11 (by first | assumption | omega)) ⟨by decide, by decide⟩ rfl (Nat.le_of_ble_eq_true rfl) ⟨Nat.le_refl _, Nat.le_refl _⟩ (fun a' w' hres => ?_)
                  cases e7 : pg_r7 r Sc with
                  | some S' =>
                    rw [e7] at hres
                    obtain ⟨rfl, v', rfl, g1, g2, g3⟩ := hres
                    refine xj_if_ne C a_R_followRules_60 rfl (fun _ => ?_) (fun hx => absurd hx (by decide))
                    exact again S' (by unfold pg_rl; rw [e1, e2, e3, e4, e5, e6, e7]; rfl) v' g1 g2 g3
                  | none =>
                    rw [e7] at hres
                    obtain ⟨rfl, rfl⟩ := hres
                    refine xj_if_ne C a_R_followRules_60 rfl (fun hx => absurd rfl hx) (fun _ => ?_)
                    refine xj_aload_n C a_R_followRules_63 rfl ?_
                    refine xj_callV0 C a_R_followRules_64 (c_R_orderNext _ _ vc r hr Sc hR hN hB hK hz1) mv_R_orderNext lk_R_200 ⟨rfl, rfl, rfl⟩ (xj_ok11 (by first | assumption | omega)) ⟨by decide, by decide⟩ rfl (Nat.le_of_ble_eq_true rfl) ⟨Nat.le_refl _, Nat.le_refl _⟩ (fun a' w' hres => ?_)
                    cases e8 : pg_r8 r Sc with
                    | some S' =>
                      rw [e8] at hres
                      obtain ⟨rfl, v', rfl, g1, g2, g3⟩ := hres
                      refine xj_if_eq C a_R_followRules_67 rfl (fun hx => absurd hx (by decide)) (fun _ => ?_)
                      exact again S' (by unfold pg_rl; rw [e1, e2, e3, e4, e5, e6, e7, e8]; rfl) v' g1 g2 g3
                    | none =>
                      rw [e8] at hres
                      obtain ⟨rfl, rfl⟩ := hres
                      refine xj_if_eq C a_R_followRules_67 rfl (fun _ => ?_) (fun hx => absurd rfl hx)
                      have hnone1 : pg_rl r Sc = none := by unfold pg_rl; rw [e1, e2, e3, e4, e5, e6, e7, e8]; rfl
                      have _ := hnone1
                      refine xj_iconst (v := nI 0) C a_R_followRules_74 (by decide) ?_
                      refine xj_istore1 C a_R_followRules_75 rfl ?_
                      refine xj_iincN2 C a_R_followRules_76 rfl ?_
                      refine xj_goto C a_R_followRules_79 rfl ?_
                      refine xj_iload_n C a_R_followRules_4 rfl ?_
                      refine xj_ldc C a_R_followRules_5 ki_R_177 ?_
                      refine xj_icmp_ge (x := nI (i + 1)) (y := nI 100000) C a_R_followRules_7 rfl (fun h7a => absurd h7a (by rw [nI_leI (by omega) (by omega)]; omega)) (fun h7a => ?_)
                      refine xj_iload_n C a_R_followRules_10 rfl ?_
                      refine xj_if_eq C a_R_followRules_11 rfl (fun _ => ?_) (fun hx => absurd rfl hx)
                      refine xj_aload_n C a_R_followRules_82 rfl ?_
                      refine xj_callV0 C a_R_followRules_83 (c_R_setTimer _ _ vc r hr Sc hR hN hB hK) mv_R_setTimer lk_R_203 ⟨rfl, rfl, rfl⟩ (xj_ok11 (by first | assumption | omega)) ⟨by decide, by decide⟩ rfl (Nat.le_of_ble_eq_true rfl) ⟨Nat.le_refl _, Nat.le_refl _⟩ (fun a' w' hres => ?_)
                      obtain ⟨rfl, v', rfl, g1, g2⟩ := hres
                      refine xj_vret C a_R_followRules_86 ?_
                      refine ⟨rfl, v', rfl, ?_⟩
                      unfold pg_run
                      rw [hstop]
                      exact ⟨g1, hB.R g2, hO0.R g2⟩
    | succ n ih =>
      intro i Sc vc hin hok hend heq hR hB hO0
      have hsk := hok 0 (Nat.zero_le _)
      replace hsk : pg_ok r Sc := hsk
      have hi3 : i ≤ 1000 := by omega
      have again : ∀ S', pg_rl r Sc = some S' → ∀ v', xc_R r S' v' → xc_B S'.1 v' → xf_O r vc v' → xn_X E G (xj_R E G (xp_bg r v (pg_run r S) none) 0 0) 0 0 70 [some (.ref (xj_ad G (11, r, 0))), some (.int (nI 1)), some (.int (nI i))] [] v' := by
        intro S' h v' g1 g2 g3
        have estep : ∀ k, pg_rls r (k + 1) Sc = pg_rls r k S' := by
          intro k
          show (match pg_rl r Sc with | some S2 => pg_rls r k S2 | none => Sc) = _
          rw [h]
        refine xj_iconst (v := nI 1) C a_R_followRules_70 (by decide) ?_
        refine xj_goto C a_R_followRules_71 rfl ?_
        refine xj_istore1 C a_R_followRules_75 rfl ?_
        refine xj_iincN2 C a_R_followRules_76 rfl ?_
        refine xj_goto C a_R_followRules_79 rfl ?_
        refine ih (i + 1) S' v' (by omega) (fun k hk => ?_) ?_ ?_ g1 g2 (hO0.tr g3)
        · have := hok (k + 1) (by omega)
          rwa [estep] at this
        · rw [← estep]; exact hend
        · rw [← estep]; exact heq
      have hstop1 : pg_rl r Sc = none → pg_rls r 1000 S = Sc := by
        intro h
        rw [← heq]
        show (match pg_rl r Sc with | some S2 => pg_rls r n S2 | none => Sc) = _
        rw [h]
      obtain ⟨hN, hK, hT, hW, hO, hNu, hCu, hu, ho, hb, hnw, hi, hbk, h7, hQ, hz⟩ := hsk
      have hz1 : Sc.1.1 < 256 := by omega
      refine xj_iload_n C a_R_followRules_4 rfl ?_
      refine xj_ldc C a_R_followRules_5 ki_R_177 ?_
      refine xj_icmp_ge (x := nI i) (y := nI 100000) C a_R_followRules_7 rfl (fun h7a => absurd h7a (by rw [nI_leI (by omega) (by omega)]; omega)) (fun h7a => ?_)
      refine xj_iload_n C a_R_followRules_10 rfl ?_
      refine xj_if_eq C a_R_followRules_11 rfl (fun h11 => absurd h11 (by decide)) (fun h11 => ?_)
      refine xj_aload_n C a_R_followRules_14 rfl ?_
      refine xj_callV0 C a_R_followRules_15 (c_R_prepareNext _ _ vc r hr Sc hR hN hB hO hz1) mv_R_prepareNext lk_R_178 ⟨rfl, rfl, rfl⟩ (xj_ok11 (by first | assumption | omega)) ⟨by decide, by decide⟩ rfl (Nat.le_of_ble_eq_true rfl) ⟨Nat.le_refl _, Nat.le_refl _⟩ (fun a' w' hres => ?_)
      cases e1 : pg_r1 r Sc with
      | some S' =>
        rw [e1] at hres
        obtain ⟨rfl, v', rfl, g1, g2, g3⟩ := hres
        refine xj_if_ne C a_R_followRules_18 rfl (fun _ => ?_) (fun hx => absurd hx (by decide))
        exact again S' (by unfold pg_rl; rw [e1]; rfl) v' g1 g2 g3
      | none =>
        rw [e1] at hres
        obtain ⟨rfl, rfl⟩ := hres
        refine xj_if_ne C a_R_followRules_18 rfl (fun hx => absurd rfl hx) (fun _ => ?_)
        refine xj_aload_n C a_R_followRules_21 rfl ?_
        refine xj_callV0 C a_R_followRules_22 (c_R_commitNext _ _ vc r hr Sc hR hN hB hO hNu hz1) mv_R_commitNext lk_R_182 ⟨rfl, rfl, rfl⟩ (xj_ok11 (by first | assumption | omega)) ⟨by decide, by decide⟩ rfl (Nat.le_of_ble_eq_true rfl) ⟨Nat.le_refl _, Nat.le_refl _⟩ (fun a' w' hres => ?_)
        cases e2 : pg_r2 r Sc with
        | some S' =>
          rw [e2] at hres
          obtain ⟨rfl, v', rfl, g1, g2, g3⟩ := hres
          refine xj_if_ne C a_R_followRules_25 rfl (fun _ => ?_) (fun hx => absurd hx (by decide))
          exact again S' (by unfold pg_rl; rw [e1, e2]; rfl) v' g1 g2 g3
        | none =>
          rw [e2] at hres
          obtain ⟨rfl, rfl⟩ := hres
          refine xj_if_ne C a_R_followRules_25 rfl (fun hx => absurd rfl hx) (fun _ => ?_)
          refine xj_aload_n C a_R_followRules_28 rfl ?_
          refine xj_callV0 C a_R_followRules_29 (c_R_decideNext _ _ vc r hr Sc hR hN hB hO hNu) mv_R_decideNext lk_R_185 ⟨rfl, rfl, rfl⟩ (xj_ok11 (by first | assumption | omega)) ⟨by decide, by decide⟩ rfl (Nat.le_of_ble_eq_true rfl) ⟨Nat.le_refl _, Nat.le_refl _⟩ (fun a' w' hres => ?_)
          cases e3 : pg_r3 r Sc with
          | some S' =>
            rw [e3] at hres
            obtain ⟨rfl, v', rfl, g1, g2, g3⟩ := hres
            refine xj_if_ne C a_R_followRules_32 rfl (fun _ => ?_) (fun hx => absurd hx (by decide))
            exact again S' (by unfold pg_rl; rw [e1, e2, e3]; rfl) v' g1 g2 g3
          | none =>
            rw [e3] at hres
            obtain ⟨rfl, rfl⟩ := hres
            refine xj_if_ne C a_R_followRules_32 rfl (fun hx => absurd rfl hx) (fun _ => ?_)
            refine xj_aload_n C a_R_followRules_35 rfl ?_
            refine xj_callV0 C a_R_followRules_36 (c_R_executeNext _ _ vc r hr Sc hR hN hB hK hT hW hQ hz) mv_R_executeNext lk_R_188 ⟨rfl, rfl, rfl⟩ (xj_ok11 (by first | assumption | omega)) ⟨by decide, by decide⟩ rfl (Nat.le_of_ble_eq_true rfl) ⟨Nat.le_refl _, Nat.le_refl _⟩ (fun a' w' hres => ?_)
            cases e4 : pg_r4 r Sc with
            | some S' =>
              rw [e4] at hres
              obtain ⟨rfl, v', rfl, g1, g2, g3⟩ := hres
              refine xj_if_ne C a_R_followRules_39 rfl (fun _ => ?_) (fun hx => absurd hx (by decide))
              exact again S' (by unfold pg_rl; rw [e1, e2, e3, e4]; rfl) v' g1 g2 g3
            | none =>
              rw [e4] at hres
              obtain ⟨rfl, rfl⟩ := hres
              refine xj_if_ne C a_R_followRules_39 rfl (fun hx => absurd rfl hx) (fun _ => ?_)
              refine xj_aload_n C a_R_followRules_42 rfl ?_
              refine xj_callV0 C a_R_followRules_43 (c_R_settleNext _ _ vc r hr Sc hR hN hB hT hCu) mv_R_settleNext lk_R_191 ⟨rfl, rfl, rfl⟩ (xj_ok11 (by first | assumption | omega)) ⟨by decide, by decide⟩ rfl (Nat.le_of_ble_eq_true rfl) ⟨Nat.le_refl _, Nat.le_refl _⟩ (fun a' w' hres => ?_)
              cases e5 : pg_r5 Sc with
              | some S' =>
                rw [e5] at hres
                obtain ⟨rfl, v', rfl, g1, g2, g3⟩ := hres
                refine xj_if_ne C a_R_followRules_46 rfl (fun _ => ?_) (fun hx => absurd hx (by decide))
                exact again S' (by unfold pg_rl; rw [e1, e2, e3, e4, e5]; rfl) v' g1 g2 g3
              | none =>
                rw [e5] at hres
                obtain ⟨rfl, rfl⟩ := hres
                refine xj_if_ne C a_R_followRules_46 rfl (fun hx => absurd rfl hx) (fun _ => ?_)
                refine xj_aload_n C a_R_followRules_49 rfl ?_
                refine xj_callV0 C a_R_followRules_50 (c_R_joinChange _ _ vc r hr Sc hR hN hB hu ho hb hnw hz1) mv_R_joinChange lk_R_194 ⟨rfl, rfl, rfl⟩ (xj_ok11 (by first | assumption | omega)) ⟨by decide, by decide⟩ rfl (Nat.le_of_ble_eq_true rfl) ⟨Nat.le_refl _, Nat.le_refl _⟩ (fun a' w' hres => ?_)
                cases e6 : pg_r6 r Sc with
                | some S' =>
                  rw [e6] at hres
                  obtain ⟨rfl, v', rfl, g1, g2, g3⟩ := hres
                  refine xj_if_ne C a_R_followRules_53 rfl (fun _ => ?_) (fun hx => absurd hx (by decide))
                  exact again S' (by unfold pg_rl; rw [e1, e2, e3, e4, e5, e6]; rfl) v' g1 g2 g3
                | none =>
                  rw [e6] at hres
                  obtain ⟨rfl, rfl⟩ := hres
                  refine xj_if_ne C a_R_followRules_53 rfl (fun hx => absurd rfl hx) (fun _ => ?_)
                  refine xj_aload_n C a_R_followRules_56 rfl ?_
                  refine xj_callV0 C a_R_followRules_57 (c_R_openView _ _ vc r hr Sc hR hN hB hK hT hu ho hi hbk h7 hz1) mv_R_openView lk_R_197 ⟨rfl, rfl, rfl⟩ (xj_ok11 (by first | assumption | omega)) ⟨by decide, by decide⟩ rfl (Nat.le_of_ble_eq_true rfl) ⟨Nat.le_refl _, Nat.le_refl _⟩ (fun a' w' hres => ?_)
                  cases e7 : pg_r7 r Sc with
                  | some S' =>
                    rw [e7] at hres
                    obtain ⟨rfl, v', rfl, g1, g2, g3⟩ := hres
                    refine xj_if_ne C a_R_followRules_60 rfl (fun _ => ?_) (fun hx => absurd hx (by decide))
                    exact again S' (by unfold pg_rl; rw [e1, e2, e3, e4, e5, e6, e7]; rfl) v' g1 g2 g3
                  | none =>
                    rw [e7] at hres
                    obtain ⟨rfl, rfl⟩ := hres
                    refine xj_if_ne C a_R_followRules_60 rfl (fun hx => absurd rfl hx) (fun _ => ?_)
                    refine xj_aload_n C a_R_followRules_63 rfl ?_
                    refine xj_callV0 C a_R_followRules_64 (c_R_orderNext _ _ vc r hr Sc hR hN hB hK hz1) mv_R_orderNext lk_R_200 ⟨rfl, rfl, rfl⟩ (xj_ok11 (by first | assumption | omega)) ⟨by decide, by decide⟩ rfl (Nat.le_of_ble_eq_true rfl) ⟨Nat.le_refl _, Nat.le_refl _⟩ (fun a' w' hres => ?_)
                    cases e8 : pg_r8 r Sc with
                    | some S' =>
                      rw [e8] at hres
                      obtain ⟨rfl, v', rfl, g1, g2, g3⟩ := hres
                      refine xj_if_eq C a_R_followRules_67 rfl (fun hx => absurd hx (by decide)) (fun _ => ?_)
                      exact again S' (by unfold pg_rl; rw [e1, e2, e3, e4, e5, e6, e7, e8]; rfl) v' g1 g2 g3
                    | none =>
                      rw [e8] at hres
                      obtain ⟨rfl, rfl⟩ := hres
                      refine xj_if_eq C a_R_followRules_67 rfl (fun _ => ?_) (fun hx => absurd rfl hx)
                      have hnone1 : pg_rl r Sc = none := by unfold pg_rl; rw [e1, e2, e3, e4, e5, e6, e7, e8]; rfl
                      have hstop := hstop1 hnone1
                      refine xj_iconst (v := nI 0) C a_R_followRules_74 (by decide) ?_
                      refine xj_istore1 C a_R_followRules_75 rfl ?_
                      refine xj_iincN2 C a_R_followRules_76 rfl ?_
                      refine xj_goto C a_R_followRules_79 rfl ?_
                      refine xj_iload_n C a_R_followRules_4 rfl ?_
                      refine xj_ldc C a_R_followRules_5 ki_R_177 ?_
                      refine xj_icmp_ge (x := nI (i + 1)) (y := nI 100000) C a_R_followRules_7 rfl (fun h7a => absurd h7a (by rw [nI_leI (by omega) (by omega)]; omega)) (fun h7a => ?_)
                      refine xj_iload_n C a_R_followRules_10 rfl ?_
                      refine xj_if_eq C a_R_followRules_11 rfl (fun _ => ?_) (fun hx => absurd rfl hx)
                      refine xj_aload_n C a_R_followRules_82 rfl ?_
                      refine xj_callV0 C a_R_followRules_83 (c_R_setTimer _ _ vc r hr Sc hR hN hB hK) mv_R_setTimer lk_R_203 ⟨rfl, rfl, rfl⟩ (xj_ok11 (by first | assumption | omega)) ⟨by decide, by decide⟩ rfl (Nat.le_of_ble_eq_true rfl) ⟨Nat.le_refl _, Nat.le_refl _⟩ (fun a' w' hres => ?_)
                      obtain ⟨rfl, v', rfl, g1, g2⟩ := hres
                      refine xj_vret C a_R_followRules_86 ?_
                      refine ⟨rfl, v', rfl, ?_⟩
                      unfold pg_run
                      rw [hstop]
                      exact ⟨g1, hB.R g2, hO0.R g2⟩
  exact loop 1000 0 S v rfl hok hend rfl hR hB (xf_O.rf r v)
