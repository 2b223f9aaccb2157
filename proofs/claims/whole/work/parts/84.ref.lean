/-! the reference: rules 5 and 6 -/
def xp_om (o : Option Nat) : Int32 := match o with
  | some j => nI j
  | none => -1
theorem pg_bst_s (S : pg_S) (i : Nat) : pg_bst S (i + 1) = if pg_no S.2 i = 1 ∧ pg_k S.1 i = 7 ∧ nI (pg_h S.2) < pg_a S.1 i ∧ (pg_bst S i = none ∨ ∃ j, pg_bst S i = some j ∧ pg_a S.1 j < pg_a S.1 i) ∧ 3 ≤ pg_hr S 7 (pg_a S.1 i) (pg_b S.1 i) 0 then some i else pg_bst S i := by
  have e : pg_bst S (i + 1) = if pg_no S.2 i == 1 && (pg_k S.1 i == 7 && (decide (nI (pg_h S.2) < pg_a S.1 i) && ((match pg_bst S i with | none => true | some j => decide (pg_a S.1 j < pg_a S.1 i)) && decide (3 ≤ pg_hr S 7 (pg_a S.1 i) (pg_b S.1 i) 0)))) then some i else pg_bst S i := rfl
  rw [e]
  congr 1
  simp only [Bool.and_eq_true, beq_iff_eq, decide_eq_true_eq]
  refine propext (and_congr Iff.rfl (and_congr Iff.rfl (and_congr Iff.rfl (and_congr ?_ Iff.rfl))))
  cases pg_bst S i with
  | none => simp
  | some j => simp
theorem c_T_truncates (l : Launch) (G : xj_G) (v : xn_V) (r : Nat) (hr : r < 4) (S : pg_S) (hS : xt_S r S v) (he : pg_e S.2 < 1000) (hcert : ∀ i, pg_bst S S.1.1 = some i → ∃ n, n < 200 ∧ pg_a S.1 i = nI n) : xj_Mx l G 1 30 0 0 m_T_truncates [.ref (xj_ad G (21, 0, 0)), .int (nI r)] (xn_W v) (xp_tr r v S (pg_r5 S)) := by
  obtain ⟨hB, hR, hA⟩ := hS
  have hz := hB.2.1
  refine xj_Mx_of (by decide) (Nat.le_of_ble_eq_true rfl) (fun E hE C _ => ?_)
  subst hE
  replace C : xj_C E G prog_9_method_33_code "ThreePhaseGroupModel" 5 1 30 0 0 (some .boolean) := C
  show xn_X E G _ 0 0 0 [some (.ref (xj_ad G (21, 0, 0))), some (.int (nI r)), none, none, none] [] v
  have bz : ∀ {i j}, pg_bst S i = some j → j < i := fun h => (pg_bst_some h).1
  have loop : ∀ (N i : Nat) (z4 : Option Value), i ≤ S.1.1 → S.1.1 - i < N → xn_X E G (xj_R E G (xp_tr r v S (pg_r5 S)) 0 0) 0 0 4 [some (.ref (xj_ad G (21, 0, 0))), some (.int (nI r)), some (.int (xp_om (pg_bst S i))), some (.int (nI i)), z4] [] v := by
    intro N
    induction N with
    | zero => intro i z4 _ h; omega
    | succ N ih =>
      intro i z4 hi hN
      refine xj_iload_n C a_T_truncates_4 rfl ?_
      refine xj_aload_n C a_T_truncates_5 rfl ?_
      refine xn_g_T_count C a_T_truncates_6 fl_T_88 ?_
      refine xj_topi hB.z ?_
      refine xj_icmp_ge C a_T_truncates_9 rfl (fun h9 => ?_) (fun h9 => ?_)
      · rw [nI_leI (by omega) (by omega)] at h9
        have : i = S.1.1 := by omega
        subst this
        cases e : pg_bst S S.1.1 with
        | none =>
          have e5 : pg_r5 S = none := by unfold pg_r5; rw [e]
          rw [e5]
          refine xj_iload_n C a_T_truncates_116 rfl ?_
          refine xj_if_ge C a_T_truncates_117 rfl (fun h => absurd h (by decide)) (fun _ => ?_)
          refine xj_iconst (v := nI 0) C a_T_truncates_120 (by decide) ?_
          exact xj_zret C a_T_truncates_121 rfl ⟨rfl, v, rfl, ⟨hB, hR, hA⟩, xf_T.rf r v⟩
        | some j =>
          have hj := bz e
          obtain ⟨n, hn, en⟩ := hcert j e
          have e5 : pg_r5 S = some (S.1, pg_set S.2 n (pg_b S.1 j)) := by unfold pg_r5; rw [e]; show some (S.1, pg_set S.2 (pg_a S.1 j).toInt.toNat (pg_b S.1 j)) = _; rw [en, xp_nat (by omega)]
          rw [e5]
          refine xj_iload_n C a_T_truncates_116 rfl ?_
          refine xj_if_ge C a_T_truncates_117 rfl (fun _ => ?_) (fun h => absurd (nI_pos' (show j < 2 ^ 31 by omega)) h)
          refine xj_aload_n C a_T_truncates_122 rfl ?_
          refine xj_iload_n C a_T_truncates_123 rfl ?_
          refine xj_aload_n C a_T_truncates_124 rfl ?_
          refine xn_g_T_a C a_T_truncates_125 fl_T_16 ?_
          refine xj_iload_n C a_T_truncates_128 rfl ?_
          refine xn_ld_24 C a_T_truncates_129 (by first | assumption | omega) ?_
          refine xj_topi ((hB.a hj).trans en) ?_
          refine xj_aload_n C a_T_truncates_130 rfl ?_
          refine xn_g_T_b C a_T_truncates_131 fl_T_19 ?_
          refine xj_iload_n C a_T_truncates_134 rfl ?_
          refine xn_ld_25 C a_T_truncates_135 (by first | assumption | omega) ?_
          refine xj_topl (hB.b hj) ?_
          refine xj_callV3 C a_T_truncates_136 (c_T_settles _ _ v r hr S ⟨hB, hR, hA⟩ he n hn (pg_b S.1 j)) mv_T_settles lk_T_175 ⟨rfl, rfl, rfl⟩ xj_ok21 ⟨by decide, by decide⟩ rfl (Nat.le_of_ble_eq_true rfl) ⟨Nat.le_refl _, Nat.le_refl _⟩ (fun a' w' hres => ?_)
          obtain ⟨rfl, v2, rfl, hS2, hf2⟩ := hres
          refine xj_iconst (v := nI 1) C a_T_truncates_139 (by decide) ?_
          exact xj_zret C a_T_truncates_140 rfl ⟨rfl, v2, rfl, hS2, hf2⟩
      · rw [nI_leI (by omega) (by omega)] at h9
        have hi2 : i < S.1.1 := by omega
        have hwi := hB.2.2.1 i hi2
        have h01 := (hR.2.2.2 i).1
        have go : ∀ o z4, o = pg_bst S (i + 1) → xn_X E G (xj_R E G (xp_tr r v S (pg_r5 S)) 0 0) 0 0 110 [some (.ref (xj_ad G (21, 0, 0))), some (.int (nI r)), some (.int (xp_om o)), some (.int (nI i)), z4] [] v := by
          intro o z4 ho
          rw [ho]
          refine xj_iincN3 C a_T_truncates_110 rfl ?_
          refine xj_goto C a_T_truncates_113 rfl ?_
          exact ih (i + 1) _ (by omega) (by omega)
        have no : ¬ (pg_no S.2 i = 1 ∧ pg_k S.1 i = 7 ∧ nI (pg_h S.2) < pg_a S.1 i ∧ (pg_bst S i = none ∨ ∃ j, pg_bst S i = some j ∧ pg_a S.1 j < pg_a S.1 i) ∧ 3 ≤ pg_hr S 7 (pg_a S.1 i) (pg_b S.1 i) 0) → ∀ z4, xn_X E G (xj_R E G (xp_tr r v S (pg_r5 S)) 0 0) 0 0 76 [some (.ref (xj_ad G (21, 0, 0))), some (.int (nI r)), some (.int (xp_om (pg_bst S i))), some (.int (nI i)), z4] [] v := by
          intro h z4
          refine xj_iconst (v := nI 0) C a_T_truncates_76 (by decide) ?_
          refine xj_istore4 C a_T_truncates_77 rfl ?_
          refine xj_iload C a_T_truncates_79 rfl ?_
          refine xj_if_eq C a_T_truncates_81 rfl (fun _ => ?_) (fun h => absurd (by decide) h)
          exact go _ _ (by rw [pg_bst_s, if_neg h])
        refine xj_aload_n C a_T_truncates_12 rfl ?_
        refine xn_g_T_noted C a_T_truncates_13 fl_T_30 ?_
        refine xj_sipush (v := nI 200) C a_T_truncates_16 (by decide) ?_
        refine xj_iload_n C a_T_truncates_19 rfl ?_
        refine xj_imulN C a_T_truncates_20 ?_
        refine xj_iload_n C a_T_truncates_21 rfl ?_
        refine xj_iaddN C a_T_truncates_22 ?_
        refine xn_ld_28 C a_T_truncates_23 (by first | assumption | omega) ?_
        refine xj_topi (hR.no (by omega)) ?_
        refine xj_if_eq C a_T_truncates_24 rfl (fun h24 => ?_) (fun h24 => ?_)
        · rw [xp_nz (by omega)] at h24
          exact no (fun h => by omega) _
        · rw [xp_nz (by omega)] at h24
          have h24 : pg_no S.2 i = 1 := by omega
          refine xj_aload_n C a_T_truncates_27 rfl ?_
          refine xn_g_T_kind C a_T_truncates_28 fl_T_7 ?_
          refine xj_iload_n C a_T_truncates_31 rfl ?_
          refine xn_ld_22 C a_T_truncates_32 (by first | assumption | omega) ?_
          refine xj_topi (hB.k hi2) ?_
          refine xj_bipush (v := nI 7) C a_T_truncates_33 (by decide) ?_
          refine xj_icmp_ne C a_T_truncates_35 rfl (fun h35 => ?_) (fun h35 => ?_)
          · rw [nI_eq (by omega) (by omega)] at h35
            exact no (fun h => h35 h.2.1) _
          · rw [nI_eq (by omega) (by omega)] at h35
            have h35 : pg_k S.1 i = 7 := by simpa using h35
            refine xj_aload_n C a_T_truncates_38 rfl ?_
            refine xn_g_T_a C a_T_truncates_39 fl_T_16 ?_
            refine xj_iload_n C a_T_truncates_42 rfl ?_
            refine xn_ld_24 C a_T_truncates_43 (by first | assumption | omega) ?_
            refine xj_topi (hB.a hi2) ?_
            refine xj_aload_n C a_T_truncates_44 rfl ?_
            refine xn_g_T_h C a_T_truncates_45 fl_T_42 ?_
            refine xj_iload_n C a_T_truncates_48 rfl ?_
            refine xn_ld_32 C a_T_truncates_49 (by first | assumption | omega) ?_
            refine xj_topi hR.h ?_
            refine xj_icmp_le C a_T_truncates_50 rfl (fun h50 => ?_) (fun h50 => ?_)
            · exact no (fun h => Int32.not_lt.mpr h50 h.2.2.1) _
            · have h50 : nI (pg_h S.2) < pg_a S.1 i := Int32.not_le.mp h50
              have yes : (pg_bst S i = none ∨ ∃ j, pg_bst S i = some j ∧ pg_a S.1 j < pg_a S.1 i) → xn_X E G (xj_R E G (xp_tr r v S (pg_r5 S)) 0 0) 0 0 72 [some (.ref (xj_ad G (21, 0, 0))), some (.int (nI r)), some (.int (xp_om (pg_bst S i))), some (.int (nI i)), z4] [] v := by
                intro hb
                have hhr := pg_hr_le S 7 (pg_a S.1 i) (pg_b S.1 i) 0
                refine xj_iconst (v := nI 1) C a_T_truncates_72 (by decide) ?_
                refine xj_goto C a_T_truncates_73 rfl ?_
                refine xj_istore4 C a_T_truncates_77 rfl ?_
                refine xj_iload C a_T_truncates_79 rfl ?_
                refine xj_if_eq C a_T_truncates_81 rfl (fun h => absurd h (by decide)) (fun _ => ?_)
                refine xj_aload_n C a_T_truncates_84 rfl ?_
                refine xj_iload_n C a_T_truncates_85 rfl ?_
                refine xj_bipush (v := nI 7) C a_T_truncates_86 (by decide) ?_
                refine xj_aload_n C a_T_truncates_88 rfl ?_
                refine xn_g_T_a C a_T_truncates_89 fl_T_16 ?_
                refine xj_iload_n C a_T_truncates_92 rfl ?_
                refine xn_ld_24 C a_T_truncates_93 (by first | assumption | omega) ?_
                refine xj_topi (hB.a hi2) ?_
                refine xj_aload_n C a_T_truncates_94 rfl ?_
                refine xn_g_T_b C a_T_truncates_95 fl_T_19 ?_
                refine xj_iload_n C a_T_truncates_98 rfl ?_
                refine xn_ld_25 C a_T_truncates_99 (by first | assumption | omega) ?_
                refine xj_topl (hB.b hi2) ?_
                refine xj_iconst (v := nI 0) C a_T_truncates_100 (by decide) ?_
                refine xn_callV5i C a_T_truncates_101 (c_T_heard _ _ v r hr S hB hR 7 (by omega) (pg_a S.1 i) (pg_b S.1 i) (nI 0)) mv_T_heard lk_T_211 ⟨rfl, rfl, rfl⟩ xj_ok21 ⟨by decide, by decide⟩ rfl (Nat.le_of_ble_eq_true rfl) ⟨Nat.le_refl _, Nat.le_refl _⟩ ?_
                refine xj_iconst (v := nI 3) C a_T_truncates_104 (by decide) ?_
                refine xj_icmp_lt C a_T_truncates_105 rfl (fun h105 => ?_) (fun h105 => ?_)
                · have h105 : nI (pg_hr S 7 (pg_a S.1 i) (pg_b S.1 i) 0) < nI 3 := h105
                  rw [nI_ltI (by omega) (by omega)] at h105
                  exact go _ _ (by rw [pg_bst_s, if_neg (fun h => by omega)])
                · have h105 : ¬ nI (pg_hr S 7 (pg_a S.1 i) (pg_b S.1 i) 0) < nI 3 := h105
                  rw [nI_ltI (by omega) (by omega)] at h105
                  refine xj_iload_n C a_T_truncates_108 rfl ?_
                  refine xj_istore2 C a_T_truncates_109 rfl ?_
                  exact go (some i) _ (by rw [pg_bst_s, if_pos ⟨h24, h35, h50, hb, by omega⟩])
              cases e : pg_bst S i with
              | none =>
                refine xj_iload_n C a_T_truncates_53 rfl ?_
                refine xj_if_lt C a_T_truncates_54 rfl (fun _ => ?_) (fun h => absurd (by decide) h)
                rw [e] at yes
                exact yes (Or.inl rfl)
              | some j =>
                have hj := bz e
                refine xj_iload_n C a_T_truncates_53 rfl ?_
                refine xj_if_lt C a_T_truncates_54 rfl (fun h => absurd h (nI_pos (show j < 2 ^ 31 by omega))) (fun _ => ?_)
                rw [e] at yes no
                refine xj_aload_n C a_T_truncates_57 rfl ?_
                refine xn_g_T_a C a_T_truncates_58 fl_T_16 ?_
                refine xj_iload_n C a_T_truncates_61 rfl ?_
                refine xn_ld_24 C a_T_truncates_62 (by first | assumption | omega) ?_
                refine xj_topi (hB.a hi2) ?_
                refine xj_aload_n C a_T_truncates_63 rfl ?_
                refine xn_g_T_a C a_T_truncates_64 fl_T_16 ?_
                refine xj_iload_n C a_T_truncates_67 rfl ?_
                refine xn_ld_24 C a_T_truncates_68 (by first | assumption | omega) ?_
                refine xj_topi (hB.a (show j < S.1.1 by omega)) ?_
                refine xj_icmp_le C a_T_truncates_69 rfl (fun h69 => ?_) (fun h69 => ?_)
                · refine no ?_ _
                  rintro ⟨-, -, -, h | ⟨j', h1, h2⟩, -⟩
                  · cases h
                  · cases h1
                    exact Int32.not_lt.mpr h69 h2
                · exact yes (Or.inr ⟨j, rfl, Int32.not_le.mp h69⟩)
  refine xj_iconst (v := -1) C a_T_truncates_0 (by decide) ?_
  refine xj_istore2 C a_T_truncates_1 rfl ?_
  refine xj_iconst (v := nI 0) C a_T_truncates_2 (by decide) ?_
  refine xj_istore3 C a_T_truncates_3 rfl ?_
  exact loop (S.1.1 + 1) 0 none (by omega) (by omega)
theorem c_T_joins (l : Launch) (G : xj_G) (v : xn_V) (r : Nat) (hr : r < 4) (S : pg_S) (hS : xt_S r S v) (hN : pg_num S.2) (hh : pg_h S.2 < 190) (hz : S.1.1 < 200) (hvb : pg_vb S) (hl : ¬ (pg_vcs S).length < 2 → (pg_vcs S).foldl (fun l i => min l (pg_a S.1 i).toInt.toNat) 99 ≤ 15) : xj_Mx l G 2 51 0 0 m_T_joins [.ref (xj_ad G (21, 0, 0)), .int (nI r)] (xn_W v) (xp_tr r v S (pg_r6 r S)) := by
  obtain ⟨hB, hR, hA⟩ := hS
  have hvw := hN.1
  obtain ⟨P, hP⟩ : ∃ P : Nat → Bool, P = fun i => pg_no S.2 i == 1 && (pg_k S.1 i == 5 && decide (nI (pg_vw S.2) < pg_a S.1 i)) := ⟨_, rfl⟩
  obtain ⟨L, hL⟩ : ∃ L : Nat → Nat, L = fun i => ((List.range i).filter P).foldl (fun l i => min l (pg_a S.1 i).toInt.toNat) 99 := ⟨_, rfl⟩
  have hL99 : ∀ i, L i ≤ 99 := fun i => by rw [hL]; exact (xp_fmin (fun i => (pg_a S.1 i).toInt.toNat) _ 99).1
  have hLs : ∀ i, L (i + 1) = if P i then min (L i) (pg_a S.1 i).toInt.toNat else L i := by
    intro i
    rw [hL]
    dsimp only
    rw [List.range_succ, List.filter_append, List.foldl_append]
    cases e : P i
    · rw [List.filter_cons_of_neg (by rw [e]; decide)]; rfl
    · rw [List.filter_cons_of_pos e]; rfl
  have hcs : ∀ i, xp_c P (i + 1) = xp_c P i + (if P i then 1 else 0) := xp_c_s P
  have hv0 : pg_vcs S = (List.range S.1.1).filter P := by rw [hP]; rfl
  refine xj_Mx_of (by decide) (Nat.le_of_ble_eq_true rfl) (fun E hE C _ => ?_)
  subst hE
  replace C : xj_C E G prog_9_method_34_code "ThreePhaseGroupModel" 5 2 51 0 0 (some .boolean) := C
  show xn_X E G _ 0 0 0 [some (.ref (xj_ad G (21, 0, 0))), some (.int (nI r)), none, none, none] [] v
  have loop : ∀ (N i : Nat), i ≤ S.1.1 → S.1.1 - i < N → xn_X E G (xj_R E G (xp_tr r v S (pg_r6 r S)) 0 0) 0 0 8 [some (.ref (xj_ad G (21, 0, 0))), some (.int (nI r)), some (.int (nI (L i))), some (.int (nI (xp_c P i))), some (.int (nI i))] [] v := by
    intro N
    induction N with
    | zero => intro i _ h; omega
    | succ N ih =>
      intro i hi hN2
      have hci := xp_c_le P i
      have hLi := hL99 i
      refine xj_iload C a_T_joins_8 rfl ?_
      refine xj_aload_n C a_T_joins_10 rfl ?_
      refine xn_g_T_count C a_T_joins_11 fl_T_88 ?_
      refine xj_topi hB.z ?_
      refine xj_icmp_ge C a_T_joins_14 rfl (fun h14 => ?_) (fun h14 => ?_)
      · rw [nI_leI (by omega) (by omega)] at h14
        have : i = S.1.1 := by omega
        subst this
        have hlen : xp_c P S.1.1 = (pg_vcs S).length := by rw [hv0]; rfl
        have hfold : L S.1.1 = (pg_vcs S).foldl (fun l i => min l (pg_a S.1 i).toInt.toNat) 99 := by rw [hv0, hL]
        rw [hlen] at hci ⊢
        rw [hfold]
        refine xj_iload_n C a_T_joins_88 rfl ?_
        refine xj_iconst (v := nI 2) C a_T_joins_89 (by decide) ?_
        refine xj_icmp_ge C a_T_joins_90 rfl (fun h90 => ?_) (fun h90 => ?_)
        · rw [nI_leI (by omega) (by omega)] at h90
          have e6 : pg_r6 r S = some (pg_beg r S ((pg_vcs S).foldl (fun l i => min l (pg_a S.1 i).toInt.toNat) 99)) := by
            unfold pg_r6
            rw [if_neg (by omega)]
          rw [e6]
          refine xj_aload_n C a_T_joins_95 rfl ?_
          refine xj_iload_n C a_T_joins_96 rfl ?_
          refine xj_iload_n C a_T_joins_97 rfl ?_
          refine xj_callV2 C a_T_joins_98 (c_T_begins _ _ v r hr S ⟨hB, hR, hA⟩ hN hh hz _ (hl (by omega))) mv_T_begins lk_T_226 ⟨rfl, rfl, rfl⟩ xj_ok21 ⟨by decide, by decide⟩ rfl (Nat.le_of_ble_eq_true rfl) ⟨Nat.le_refl _, Nat.le_refl _⟩ (fun a' w' hres => ?_)
          obtain ⟨rfl, v2, rfl, hS2, hf2⟩ := hres
          refine xj_iconst (v := nI 1) C a_T_joins_101 (by decide) ?_
          exact xj_zret C a_T_joins_102 rfl ⟨rfl, v2, rfl, hS2, hf2⟩
        · rw [nI_leI (by omega) (by omega)] at h90
          have e6 : pg_r6 r S = none := by
            unfold pg_r6
            rw [if_pos (by omega)]
          rw [e6]
          refine xj_iconst (v := nI 0) C a_T_joins_93 (by decide) ?_
          exact xj_zret C a_T_joins_94 rfl ⟨rfl, v, rfl, ⟨hB, hR, hA⟩, xf_T.rf r v⟩
      · rw [nI_leI (by omega) (by omega)] at h14
        have hi2 : i < S.1.1 := by omega
        have hwi := hB.2.2.1 i hi2
        have h01 := (hR.2.2.2 i).1
        have go : ∀ a c, a = L (i + 1) → c = xp_c P (i + 1) → xn_X E G (xj_R E G (xp_tr r v S (pg_r6 r S)) 0 0) 0 0 82 [some (.ref (xj_ad G (21, 0, 0))), some (.int (nI r)), some (.int (nI a)), some (.int (nI c)), some (.int (nI i))] [] v := by
          intro a c ea ec
          rw [ea, ec]
          refine xj_iincN4 C a_T_joins_82 rfl ?_
          refine xj_goto C a_T_joins_85 rfl ?_
          exact ih (i + 1) (by omega) (by omega)
        have no : ¬ (pg_no S.2 i = 1 ∧ pg_k S.1 i = 5 ∧ nI (pg_vw S.2) < pg_a S.1 i) → xn_X E G (xj_R E G (xp_tr r v S (pg_r6 r S)) 0 0) 0 0 82 [some (.ref (xj_ad G (21, 0, 0))), some (.int (nI r)), some (.int (nI (L i))), some (.int (nI (xp_c P i))), some (.int (nI i))] [] v := by
          intro h
          have : P i = false := by
            rw [hP, Bool.eq_false_iff]
            intro g
            simp only [Bool.and_eq_true, beq_iff_eq, decide_eq_true_eq] at g
            exact h g
          exact go _ _ (by rw [hLs, this]; rfl) (by rw [hcs, this]; rfl)
        refine xj_aload_n C a_T_joins_17 rfl ?_
        refine xn_g_T_noted C a_T_joins_18 fl_T_30 ?_
        refine xj_sipush (v := nI 200) C a_T_joins_21 (by decide) ?_
        refine xj_iload_n C a_T_joins_24 rfl ?_
        refine xj_imulN C a_T_joins_25 ?_
        refine xj_iload C a_T_joins_26 rfl ?_
        refine xj_iaddN C a_T_joins_28 ?_
        refine xn_ld_28 C a_T_joins_29 (by first | assumption | omega) ?_
        refine xj_topi (hR.no (by omega)) ?_
        refine xj_if_eq C a_T_joins_30 rfl (fun h30 => ?_) (fun h30 => ?_)
        · rw [xp_nz (by omega)] at h30
          exact no (fun h => by omega)
        · rw [xp_nz (by omega)] at h30
          have h30 : pg_no S.2 i = 1 := by omega
          refine xj_aload_n C a_T_joins_33 rfl ?_
          refine xn_g_T_kind C a_T_joins_34 fl_T_7 ?_
          refine xj_iload C a_T_joins_37 rfl ?_
          refine xn_ld_22 C a_T_joins_39 (by first | assumption | omega) ?_
          refine xj_topi (hB.k hi2) ?_
          refine xj_iconst (v := nI 5) C a_T_joins_40 (by decide) ?_
          refine xj_icmp_ne C a_T_joins_41 rfl (fun h41 => ?_) (fun h41 => ?_)
          · rw [nI_eq (by omega) (by omega)] at h41
            exact no (fun h => h41 h.2.1)
          · rw [nI_eq (by omega) (by omega)] at h41
            have h41 : pg_k S.1 i = 5 := by simpa using h41
            obtain ⟨w, w1, w2, w3⟩ := hvb i hi2 h30 h41
            refine xj_aload_n C a_T_joins_44 rfl ?_
            refine xn_g_T_a C a_T_joins_45 fl_T_16 ?_
            refine xj_iload C a_T_joins_48 rfl ?_
            refine xn_ld_24 C a_T_joins_50 (by first | assumption | omega) ?_
            refine xj_topi ((hB.a hi2).trans w3) ?_
            refine xj_aload_n C a_T_joins_51 rfl ?_
            refine xn_g_T_view C a_T_joins_52 fl_T_36 ?_
            refine xj_iload_n C a_T_joins_55 rfl ?_
            refine xn_ld_30 C a_T_joins_56 (by first | assumption | omega) ?_
            refine xj_topi hR.vw ?_
            refine xj_icmp_le C a_T_joins_57 rfl (fun h57 => ?_) (fun h57 => ?_)
            · rw [w3] at no
              exact no (fun h => Int32.not_lt.mpr h57 h.2.2)
            · have hp : P i = true := by
                rw [hP]
                simp only [Bool.and_eq_true, beq_iff_eq, decide_eq_true_eq]
                exact ⟨h30, h41, by rw [w3]; exact Int32.not_le.mp h57⟩
              have hw : (pg_a S.1 i).toInt.toNat = w := by rw [w3, xp_nat (by omega)]
              refine xj_iincN3 C a_T_joins_60 rfl ?_
              refine xj_aload_n C a_T_joins_63 rfl ?_
              refine xn_g_T_a C a_T_joins_64 fl_T_16 ?_
              refine xj_iload C a_T_joins_67 rfl ?_
              refine xn_ld_24 C a_T_joins_69 (by first | assumption | omega) ?_
              refine xj_topi ((hB.a hi2).trans w3) ?_
              refine xj_iload_n C a_T_joins_70 rfl ?_
              refine xj_icmp_ge C a_T_joins_71 rfl (fun h71 => ?_) (fun h71 => ?_)
              · rw [nI_leI (by omega) (by omega)] at h71
                exact go _ _ (by rw [hLs, hp, hw]; simp only [if_true]; omega) (by rw [hcs, hp]; rfl)
              · rw [nI_leI (by omega) (by omega)] at h71
                refine xj_aload_n C a_T_joins_74 rfl ?_
                refine xn_g_T_a C a_T_joins_75 fl_T_16 ?_
                refine xj_iload C a_T_joins_78 rfl ?_
                refine xn_ld_24 C a_T_joins_80 (by first | assumption | omega) ?_
                refine xj_topi ((hB.a hi2).trans w3) ?_
                refine xj_istore2 C a_T_joins_81 rfl ?_
                exact go _ _ (by rw [hLs, hp, hw]; simp only [if_true]; omega) (by rw [hcs, hp]; rfl)
  refine xj_bipush (v := nI 99) C a_T_joins_0 (by decide) ?_
  refine xj_istore2 C a_T_joins_2 rfl ?_
  refine xj_iconst (v := nI 0) C a_T_joins_3 (by decide) ?_
  refine xj_istore3 C a_T_joins_4 rfl ?_
  refine xj_iconst (v := nI 0) C a_T_joins_5 (by decide) ?_
  refine xj_istore4 C a_T_joins_6 rfl ?_
  have h0 : L 0 = 99 := by rw [hL]; rfl
  have := loop (S.1.1 + 1) 0 (by omega) (by omega)
  rw [h0] at this
  exact this
