/-! the new messages are judged -/
def xf_J (v v' : xn_V) : Prop := v'.2 = v.2 ∧ ∀ k r i x, ¬ k = 7 → ¬ (k = 1 ∧ x = 7) → v'.1 k r i x = v.1 k r i x
theorem xf_J.rf (v : xn_V) : xf_J v v := ⟨rfl, fun _ _ _ _ _ _ => rfl⟩
theorem xc_B.J {B : pg_B} {v v' : xn_V} (h : xc_B B v) (hf : xf_J v v') : xc_B B v' := by
  obtain ⟨h1, h2, h3, h4⟩ := h
  refine ⟨by rw [hf.2 1 0 0 6 (by omega) (by omega)]; exact h1, h2, h3, fun m hm => ?_⟩
  rw [hf.2 2 0 0 m (by omega) (by omega), hf.2 3 0 0 m (by omega) (by omega), hf.2 4 0 0 m (by omega) (by omega), hf.1, hf.2 6 0 0 m (by omega) (by omega)]
  exact h4 m hm
theorem c_B_judgeNew (l : Launch) (G : xj_G) (v : xn_V) (B : pg_B) (hB : xc_B B v) (hbk : pg_bke B) (hcp : pg_cps B) (h6 : pg_b6 B) (j0 : Nat) (hV : xc_V B j0 v) : xj_Mx l G 4 102 0 0 m_B_judgeNew [.ref (xj_ad G (1, 0, 0))] (xn_W v) (fun a' w' => a' = none ∧ ∃ v', w' = xn_W v' ∧ xc_V B B.1 v' ∧ xf_J v v') := by
  have hz := hB.2.1
  refine xj_Mx_of (by decide) (Nat.le_of_ble_eq_true rfl) (fun E hE C _ => ?_)
  subst hE
  replace C : xj_C E G prog_2_method_6_code "ThreePhaseGroup$Board" 1 4 102 0 0 none := C
  show xn_X E G _ 0 0 0 [some (.ref (xj_ad G (1, 0, 0)))] [] v
  have loop : ∀ n j v1, B.1 - j < n → xc_V B j v1 → xf_J v v1 → xn_X E G (xj_R E G (fun a' w' => a' = none ∧ ∃ v', w' = xn_W v' ∧ xc_V B B.1 v' ∧ xf_J v v') 0 0) 0 0 0 [some (.ref (xj_ad G (1, 0, 0)))] [] v1 := by
    intro n
    induction n with
    | zero => intro j v1 h; omega
    | succ n ih =>
      intro j v1 hn hV1 hF
      have hB1 := hB.J hF
      obtain ⟨hj, hjz, hlo, hhi⟩ := hV1
      refine xj_aload_n C a_B_judgeNew_0 rfl ?_
      refine xn_g_B_judged C a_B_judgeNew_1 fl_B_36 ?_
      refine xj_topi (y := nI j) (by simp [xn_uI, hj]) ?_
      refine xj_aload_n C a_B_judgeNew_4 rfl ?_
      refine xn_g_B_size C a_B_judgeNew_5 fl_B_32 ?_
      refine xj_topi hB1.1 ?_
      refine xj_icmp_ge C a_B_judgeNew_8 rfl (fun h8 => ?_) (fun h8 => ?_)
      · rw [nI_leI (by omega) (by omega)] at h8
        have : j = B.1 := by omega
        subst this
        refine xj_vret C a_B_judgeNew_88 ?_
        exact ⟨rfl, v1, rfl, ⟨hj, hjz, hlo, hhi⟩, hF⟩
      · rw [nI_leI (by omega) (by omega)] at h8
        have hkj := (hB.2.2.1 j (by omega)).1
        have step : ∀ y : Int32, y = xp_b (pg_gc B j || pg_gn B j) → xn_X E G (xj_R E G (fun a' w' => a' = none ∧ ∃ v', w' = xn_W v' ∧ xc_V B B.1 v' ∧ xf_J v v') 0 0) 0 0 75 [some (.ref (xj_ad G (1, 0, 0)))] [] (xn_uI v1 7 0 0 j y) := by
          intro y hy
          refine xj_aload_n C a_B_judgeNew_75 rfl ?_
          refine xj_dup C a_B_judgeNew_76 rfl ?_
          refine xn_g_B_judged C a_B_judgeNew_77 fl_B_36 ?_
          refine xj_topi (y := nI j) (by simp [xn_uI, hj]) ?_
          refine xj_iconst (v := nI 1) C a_B_judgeNew_80 (by decide) ?_
          refine xj_iadd C a_B_judgeNew_81 ?_
          refine xj_topi (nI_add j 1) ?_
          refine xn_p_B_judged C a_B_judgeNew_82 fl_B_36 ?_
          refine xj_goto C a_B_judgeNew_85 rfl ?_
          refine ih (j + 1) _ (by omega) ⟨?_, by omega, fun x hx => ?_, fun x h1 h2 => ?_⟩ ⟨?_, fun k r i x h1 h2 => ?_⟩
          · simp [xn_uI]
          · by_cases e : x = j
            · subst e
              simpa [xn_uI] using hy
            · have := hlo x (by omega)
              simpa [xn_uI, e] using this
          · have := hhi x (by omega) h2
            have e : ¬ x = j := by omega
            simpa [xn_uI, e] using this
          · exact hF.1
          · have := hF.2 k r i x h1 h2
            have e1 : ¬ (k = 1 ∧ r = 0 ∧ i = 0 ∧ x = 7) := by omega
            simpa [xn_uI, e1, h1] using this
        refine xj_aload_n C a_B_judgeNew_11 rfl ?_
        refine xn_g_B_kind C a_B_judgeNew_12 fl_B_9 ?_
        refine xj_aload_n C a_B_judgeNew_15 rfl ?_
        refine xn_g_B_judged C a_B_judgeNew_16 fl_B_36 ?_
        refine xj_topi (y := nI j) (by simp [xn_uI, hj]) ?_
        refine xn_ld_2 C a_B_judgeNew_19 (by first | assumption | omega) ?_
        refine xj_topi (hB1.k (by omega)) ?_
        refine xj_iconst (v := nI 5) C a_B_judgeNew_20 (by decide) ?_
        refine xj_icmp_ne C a_B_judgeNew_21 rfl (fun h21 => ?_) (fun h21 => ?_)
        · rw [nI_eq (by omega) (by omega)] at h21
          have hgc : pg_gc B j = false := by
            cases e : pg_gc B j with
            | false => rfl
            | true => exact absurd (pg_gc5 e) h21
          refine xj_aload_n C a_B_judgeNew_44 rfl ?_
          refine xn_g_B_kind C a_B_judgeNew_45 fl_B_9 ?_
          refine xj_aload_n C a_B_judgeNew_48 rfl ?_
          refine xn_g_B_judged C a_B_judgeNew_49 fl_B_36 ?_
          refine xj_topi (y := nI j) (by simp [xn_uI, hj]) ?_
          refine xn_ld_2 C a_B_judgeNew_52 (by first | assumption | omega) ?_
          refine xj_topi (hB1.k (by omega)) ?_
          refine xj_bipush (v := nI 6) C a_B_judgeNew_53 (by decide) ?_
          refine xj_icmp_ne C a_B_judgeNew_55 rfl (fun h55 => ?_) (fun h55 => ?_)
          · rw [nI_eq (by omega) (by omega)] at h55
            have hgn : pg_gn B j = false := by
              cases e : pg_gn B j with
              | false => rfl
              | true => exact absurd (pg_gn6 e) h55
            have e0 : xn_uI v1 7 0 0 j 0 = v1 := by
              unfold xn_uI
              refine Prod.ext ?_ rfl
              funext k r i x
              show (if k = 7 ∧ r = 0 ∧ i = 0 ∧ x = j then 0 else v1.1 k r i x) = v1.1 k r i x
              by_cases e : k = 7 ∧ r = 0 ∧ i = 0 ∧ x = j
              · obtain ⟨rfl, rfl, rfl, rfl⟩ := e
                rw [if_pos ⟨rfl, rfl, rfl, rfl⟩, hhi x (by omega) (by omega)]
              · rw [if_neg e]
            have := step 0 (by rw [hgc, hgn]; rfl)
            rw [e0] at this
            exact this
          · rw [nI_eq (by omega) (by omega)] at h55
            refine xj_aload_n C a_B_judgeNew_58 rfl ?_
            refine xn_g_B_valid C a_B_judgeNew_59 fl_B_28 ?_
            refine xj_aload_n C a_B_judgeNew_62 rfl ?_
            refine xn_g_B_judged C a_B_judgeNew_63 fl_B_36 ?_
            refine xj_topi (y := nI j) (by simp [xn_uI, hj]) ?_
            refine xj_aload_n C a_B_judgeNew_66 rfl ?_
            refine xj_aload_n C a_B_judgeNew_67 rfl ?_
            refine xn_g_B_judged C a_B_judgeNew_68 fl_B_36 ?_
            refine xj_topi (y := nI j) (by simp [xn_uI, hj]) ?_
            refine xn_callV1i C a_B_judgeNew_71 (c_B_isValidNewView _ _ v1 B hB1 hbk hcp h6 j (by omega) h55 hlo) mv_B_isValidNewView lk_B_43 ⟨rfl, rfl, rfl⟩ xj_ok1 ⟨by decide, by decide⟩ rfl (Nat.le_of_ble_eq_true rfl) ⟨Nat.le_refl _, Nat.le_refl _⟩ ?_
            refine xn_st_7 C a_B_judgeNew_74 (by omega) (xp_b01 _) ?_
            exact step _ (by rw [hgc, Bool.false_or])
        · rw [nI_eq (by omega) (by omega)] at h21
          have hgn : pg_gn B j = false := by
            cases e : pg_gn B j with
            | false => rfl
            | true => have := pg_gn6 e; omega
          refine xj_aload_n C a_B_judgeNew_24 rfl ?_
          refine xn_g_B_valid C a_B_judgeNew_25 fl_B_28 ?_
          refine xj_aload_n C a_B_judgeNew_28 rfl ?_
          refine xn_g_B_judged C a_B_judgeNew_29 fl_B_36 ?_
          refine xj_topi (y := nI j) (by simp [xn_uI, hj]) ?_
          refine xj_aload_n C a_B_judgeNew_32 rfl ?_
          refine xj_aload_n C a_B_judgeNew_33 rfl ?_
          refine xn_g_B_judged C a_B_judgeNew_34 fl_B_36 ?_
          refine xj_topi (y := nI j) (by simp [xn_uI, hj]) ?_
          refine xn_callV1i C a_B_judgeNew_37 (c_B_isValidViewChange _ _ v1 B hB1 hbk hcp j (by omega) h21) mv_B_isValidViewChange lk_B_39 ⟨rfl, rfl, rfl⟩ xj_ok1 ⟨by decide, by decide⟩ rfl (Nat.le_of_ble_eq_true rfl) ⟨Nat.le_refl _, Nat.le_refl _⟩ ?_
          refine xn_st_7 C a_B_judgeNew_40 (by omega) (xp_b01 _) ?_
          refine xj_goto C a_B_judgeNew_41 rfl ?_
          exact step _ (by rw [hgn, Bool.or_false])
  exact loop (B.1 + 1) j0 v (by omega) hV (xf_J.rf v)
