/-! the reference: orders, changes, settling -/
theorem xp_cq2 {c : Int32} (h : -1 ≤ c) (h2 : c < 1000) : nI (pg_cq c) = c + 2 := by
  have h3 := (xp_cq h h2).1
  have : nI (pg_cq c) - 2 + 2 = c + 2 := by rw [h3]
  rwa [Int32.sub_add_cancel] at this
theorem c_T_takesOrder (l : Launch) (G : xj_G) (v : xn_V) (r : Nat) (hr : r < 4) (S : pg_S) (hS : xt_S r S v) (hN : pg_num S.2) (m : Nat) (hm : m < S.1.1) (n : Nat) (hn : n < 200) (hb : pg_b S.1 m = lN n) : xj_Mx l G 0 0 0 0 m_T_takesOrder [.ref (xj_ad G (21, 0, 0)), .int (nI m), .int (nI r)] (xn_W v) (xp_tr r v S (pg_tOrd S m)) := by
  obtain ⟨hB, hR, hA⟩ := hS
  have hz := hB.2.1
  have hac := (hN.2.2.2.2.2.2.2 n).1
  have hnb : pg_nb S.1 m = n := pg_nb_n hb (by omega)
  refine xj_Mx_of (by decide) (Nat.le_of_ble_eq_true rfl) (fun E hE C _ => ?_)
  subst hE
  replace C : xj_C E G prog_9_method_22_code "ThreePhaseGroupModel" 5 0 0 0 0 (some .boolean) := C
  show xn_X E G _ 0 0 0 [some (.ref (xj_ad G (21, 0, 0))), some (.int (nI m)), some (.int (nI r)), none, none] [] v
  have no : pg_tOrd S m = none → ∀ z1 z2 : Option Value, xn_X E G (xj_R E G (xp_tr r v S (pg_tOrd S m)) 0 0) 0 0 55 [some (.ref (xj_ad G (21, 0, 0))), some (.int (nI m)), some (.int (nI r)), z1, z2] [] v := by
    intro h z1 z2
    rw [h]
    refine xj_iconst (v := nI 0) C a_T_takesOrder_55 (by decide) ?_
    exact xj_zret C a_T_takesOrder_56 rfl ⟨rfl, v, rfl, ⟨hB, hR, hA⟩, xf_T.rf r v⟩
  refine xj_aload_n C a_T_takesOrder_0 rfl ?_
  refine xn_g_T_c C a_T_takesOrder_1 fl_T_23 ?_
  refine xj_iload_n C a_T_takesOrder_4 rfl ?_
  refine xn_ld_26 C a_T_takesOrder_5 (by first | assumption | omega) ?_
  refine xj_topi (hB.c hm) ?_
  refine xj_istore3 C a_T_takesOrder_6 rfl ?_
  refine xj_sipush (v := nI 200) C a_T_takesOrder_7 (by decide) ?_
  refine xj_iload_n C a_T_takesOrder_10 rfl ?_
  refine xj_imulN C a_T_takesOrder_11 ?_
  refine xj_aload_n C a_T_takesOrder_12 rfl ?_
  refine xn_g_T_b C a_T_takesOrder_13 fl_T_19 ?_
  refine xj_iload_n C a_T_takesOrder_16 rfl ?_
  refine xn_ld_25 C a_T_takesOrder_17 (by first | assumption | omega) ?_
  refine xj_topl ((hB.b hm).trans hb) ?_
  refine xj_l2i C a_T_takesOrder_18 ?_
  refine xj_topi (lN_i n) ?_
  refine xj_iaddN C a_T_takesOrder_19 ?_
  refine xj_istore4 C a_T_takesOrder_20 rfl ?_
  refine xj_aload_n C a_T_takesOrder_22 rfl ?_
  refine xn_g_T_accepted C a_T_takesOrder_23 fl_T_57 ?_
  refine xj_iload C a_T_takesOrder_26 rfl ?_
  refine xn_ld_37 C a_T_takesOrder_28 (by first | assumption | omega) ?_
  refine xj_topi (hR.ac hn) ?_
  refine xj_if_ne C a_T_takesOrder_29 rfl (fun h29 => ?_) (fun h29 => ?_)
  · rw [xp_nz (by omega)] at h29
    exact no (by unfold pg_tOrd; rw [hnb, if_pos (Or.inl h29)]) _ _
  · rw [xp_nz (by omega)] at h29
    have h29 : pg_ac S.2 n = 0 := by simpa using h29
    refine xj_iload_n C a_T_takesOrder_32 rfl ?_
    refine xj_iconst (v := -1) C a_T_takesOrder_33 (by decide) ?_
    refine xj_icmp_lt C a_T_takesOrder_34 rfl (fun h34 => ?_) (fun h34 => ?_)
    · exact no (by unfold pg_tOrd; rw [if_pos (Or.inr (Or.inl h34))]) _ _
    · refine xj_iload_n C a_T_takesOrder_37 rfl ?_
      refine xj_iload_n C a_T_takesOrder_38 rfl ?_
      refine xj_icmp_ge C a_T_takesOrder_39 rfl (fun h39 => ?_) (fun h39 => ?_)
      · exact no (by unfold pg_tOrd; rw [if_pos (Or.inr (Or.inr (Or.inl h39)))]) _ _
      · have hc1 : -1 ≤ pg_c S.1 m := Int32.not_lt.mp h34
        have hc2 : pg_c S.1 m < nI m := Int32.not_le.mp h39
        have hc3 : pg_c S.1 m < 1000 := Int32.lt_trans hc2 (by show nI m < nI 1000; rw [nI_ltI (by omega) (by omega)]; omega)
        have hcq := xp_cq2 hc1 hc3
        refine xj_iload_n C a_T_takesOrder_42 rfl ?_
        refine xj_if_lt C a_T_takesOrder_43 rfl (fun h43 => ?_) (fun h43 => ?_)
        · have e : pg_tOrd S m = some (S.1, pg_u S.2 6 n (pg_cq (pg_c S.1 m))) := by
            unfold pg_tOrd
            rw [hnb, if_neg, if_neg (Int32.not_le.mpr h43)]
            rintro (h | h | h | h)
            · exact h h29
            · exact h34 h
            · exact h39 h
            · exact Int32.not_lt.mpr h.1 h43
          rw [e]
          refine xj_aload_n C a_T_takesOrder_57 rfl ?_
          refine xn_g_T_accepted C a_T_takesOrder_58 fl_T_57 ?_
          refine xj_iload C a_T_takesOrder_61 rfl ?_
          refine xj_iload_n C a_T_takesOrder_63 rfl ?_
          refine xj_iconst (v := nI 2) C a_T_takesOrder_64 (by decide) ?_
          refine xj_iadd C a_T_takesOrder_65 ?_
          refine xj_topi (y := nI (pg_cq (pg_c S.1 m))) hcq.symm ?_
          refine xn_st_37 C a_T_takesOrder_66 (by first | assumption | omega) ?_
          refine xj_iload_n C a_T_takesOrder_67 rfl ?_
          refine xj_if_lt C a_T_takesOrder_68 rfl (fun _ => ?_) (fun h => absurd h43 h)
          refine xj_iconst (v := nI 1) C a_T_takesOrder_84 (by decide) ?_
          refine xj_zret C a_T_takesOrder_85 rfl ⟨rfl, _, rfl, ⟨hB.uI (by omega), hR.uA (t := 6) (K := 37) (by decide) (by omega) rfl, ?_⟩, (xf_T.rf r v).uI (by omega)⟩
          show _ = nI (pg_af S.2)
          simpa [xn_uI] using hA
        · obtain ⟨j, hj, ej⟩ : ∃ j, j < m ∧ pg_c S.1 m = nI j := by
            rcases pk_ix (pg_c S.1 m) (show m < 2 ^ 31 by omega) with h | h | h
            · exact absurd h h43
            · exact absurd h h39
            · exact h
          have hjn : (pg_c S.1 m).toInt.toNat = j := by rw [ej, nI_toInt (by omega)]; rfl
          have hwj := hB.2.2.1 j (by omega)
          rw [ej] at hcq ⊢
          refine xj_aload_n C a_T_takesOrder_46 rfl ?_
          refine xn_g_T_kind C a_T_takesOrder_47 fl_T_7 ?_
          refine xj_iload_n C a_T_takesOrder_50 rfl ?_
          refine xn_ld_22 C a_T_takesOrder_51 (by first | assumption | omega) ?_
          refine xj_topi (hB.k (by omega)) ?_
          refine xj_if_eq C a_T_takesOrder_52 rfl (fun h52 => ?_) (fun h52 => ?_)
          · rw [xp_nz (by omega)] at h52
            have e : pg_tOrd S m = some (S.1, pg_u (pg_u S.2 6 n (pg_cq (pg_c S.1 m))) 10 j 1) := by
              unfold pg_tOrd
              rw [hnb, hjn, if_neg, if_pos (Int32.not_lt.mp h43)]
              rintro (h | h | h | h)
              · exact h h29
              · exact h34 h
              · exact h39 h
              · exact h.2 h52
            rw [e, ej]
            refine xj_aload_n C a_T_takesOrder_57 rfl ?_
            refine xn_g_T_accepted C a_T_takesOrder_58 fl_T_57 ?_
            refine xj_iload C a_T_takesOrder_61 rfl ?_
            refine xj_iload_n C a_T_takesOrder_63 rfl ?_
            refine xj_iconst (v := nI 2) C a_T_takesOrder_64 (by decide) ?_
            refine xj_iadd C a_T_takesOrder_65 ?_
            refine xj_topi (y := nI (pg_cq (nI j))) hcq.symm ?_
            refine xn_st_37 C a_T_takesOrder_66 (by first | assumption | omega) ?_
            refine xj_iload_n C a_T_takesOrder_67 rfl ?_
            refine xj_if_lt C a_T_takesOrder_68 rfl (fun h => absurd h (by rw [ej] at h43; exact h43)) (fun _ => ?_)
            refine xj_aload_n C a_T_takesOrder_71 rfl ?_
            refine xn_g_T_known C a_T_takesOrder_72 fl_T_33 ?_
            refine xj_sipush (v := nI 200) C a_T_takesOrder_75 (by decide) ?_
            refine xj_iload_n C a_T_takesOrder_78 rfl ?_
            refine xj_imulN C a_T_takesOrder_79 ?_
            refine xj_iload_n C a_T_takesOrder_80 rfl ?_
            refine xj_iaddN C a_T_takesOrder_81 ?_
            refine xj_iconst (v := nI 1) C a_T_takesOrder_82 (by decide) ?_
            refine xn_st_29 C a_T_takesOrder_83 (by first | assumption | omega) (by first | assumption | decide) ?_
            refine xj_iconst (v := nI 1) C a_T_takesOrder_84 (by decide) ?_
            have h1 := (hR.uA (t := 6) (q := n) (x := pg_cq (nI j)) (K := 37) (by decide) (by omega) rfl).uA (t := 10) (q := j) (x := 1) (K := 29) (by decide) (by omega) rfl
            refine xj_zret C a_T_takesOrder_85 rfl ⟨rfl, _, rfl, ⟨(hB.uI (by omega)).uI (by omega), h1, ?_⟩, ((xf_T.rf r v).uI (by omega)).uI (by omega)⟩
            show _ = nI (pg_af S.2)
            simpa [xn_uI] using hA
          · rw [xp_nz (by omega)] at h52
            refine no ?_ _ _
            unfold pg_tOrd
            rw [hjn, if_pos (Or.inr (Or.inr (Or.inr ⟨Int32.not_lt.mp h43, h52⟩)))]
theorem c_T_takesChange (l : Launch) (G : xj_G) (v : xn_V) (r : Nat) (hr : r < 4) (S : pg_S) (hS : xt_S r S v) (hU : pg_vcu r S) (m : Nat) (hm : m < S.1.1) (hf : ¬ pg_f S.1 m = r) : xj_Mx l G 0 0 0 0 m_T_takesChange [.ref (xj_ad G (21, 0, 0)), .int (nI m), .int (nI r)] (xn_W v) (xp_tr r v S (pg_tChg S m)) := by
  obtain ⟨hB, hR, hA⟩ := hS
  have hz := hB.2.1
  have hwm := hB.2.2.1 m hm
  refine xj_Mx_of (by decide) (Nat.le_of_ble_eq_true rfl) (fun E hE C _ => ?_)
  subst hE
  replace C : xj_C E G prog_9_method_23_code "ThreePhaseGroupModel" 4 0 0 0 0 (some .boolean) := C
  show xn_X E G _ 0 0 0 [some (.ref (xj_ad G (21, 0, 0))), some (.int (nI m)), some (.int (nI r)), none] [] v
  refine xj_iconst (v := nI 0) C a_T_takesChange_0 (by decide) ?_
  refine xj_istore3 C a_T_takesChange_1 rfl ?_
  have loop : ∀ N i : Nat, i ≤ S.1.1 → S.1.1 - i < N → (∀ j, j < i → ¬ (pg_no S.2 j = 1 ∧ pg_k S.1 j = 5 ∧ pg_f S.1 j = pg_f S.1 m ∧ pg_a S.1 m ≤ pg_a S.1 j)) → ∀ (R1 : pg_R) (v1 : xn_V), xt_B S.1 v1 → xt_R r R1 v1 → v1.1 21 0 0 21 = nI (pg_af S.2) → xf_T r v v1 → R1.2 = S.2.2 → (∀ t q, R1.1 t q = if t = 9 ∧ q < i ∧ pg_no S.2 q = 1 ∧ pg_k S.1 q = 5 ∧ pg_f S.1 q = pg_f S.1 m then 0 else S.2.1 t q) → xn_X E G (xj_R E G (xp_tr r v S (pg_tChg S m)) 0 0) 0 0 2 [some (.ref (xj_ad G (21, 0, 0))), some (.int (nI m)), some (.int (nI r)), some (.int (nI i))] [] v1 := by
    intro N
    induction N with
    | zero => intro i _ h; omega
    | succ N ih =>
      intro i hi hN hno R1 v1 hB1 hR1 hA1 hf1 hs1 he1
      refine xj_iload_n C a_T_takesChange_2 rfl ?_
      refine xj_aload_n C a_T_takesChange_3 rfl ?_
      refine xn_g_T_count C a_T_takesChange_4 fl_T_88 ?_
      refine xj_topi hB1.z ?_
      refine xj_icmp_ge C a_T_takesChange_7 rfl (fun h7 => ?_) (fun h7 => ?_)
      · rw [nI_leI (by omega) (by omega)] at h7
        have : i = S.1.1 := by omega
        subst this
        have e : pg_tChg S m = some (S.1, pg_u (pg_w S.2 9 (fun i => if i < S.1.1 ∧ pg_no S.2 i = 1 ∧ pg_k S.1 i = 5 ∧ pg_f S.1 i = pg_f S.1 m then 0 else pg_no S.2 i)) 9 m 1) := by
          unfold pg_tChg
          rw [if_neg]
          intro h
          rw [List.any_eq_true] at h
          obtain ⟨j, j1, j2⟩ := h
          simp only [Bool.and_eq_true, beq_iff_eq, decide_eq_true_eq] at j2
          exact hno j (List.mem_range.mp j1) ⟨j2.1, j2.2.1, j2.2.2.1, j2.2.2.2⟩
        rw [e]
        refine xj_aload_n C a_T_takesChange_86 rfl ?_
        refine xn_g_T_noted C a_T_takesChange_87 fl_T_30 ?_
        refine xj_sipush (v := nI 200) C a_T_takesChange_90 (by decide) ?_
        refine xj_iload_n C a_T_takesChange_93 rfl ?_
        refine xj_imulN C a_T_takesChange_94 ?_
        refine xj_iload_n C a_T_takesChange_95 rfl ?_
        refine xj_iaddN C a_T_takesChange_96 ?_
        refine xj_iconst (v := nI 1) C a_T_takesChange_97 (by decide) ?_
        refine xn_st_28 C a_T_takesChange_98 (by first | assumption | omega) (by first | assumption | decide) ?_
        refine xj_iconst (v := nI 1) C a_T_takesChange_99 (by decide) ?_
        have h2 := hR1.uA (t := 9) (q := m) (x := 1) (K := 28) (by decide) (by omega) rfl
        refine xj_zret C a_T_takesChange_100 rfl ⟨rfl, _, rfl, ⟨hB1.uI (by omega), h2.congr (fun t q ht => ?_) hs1.symm, by show _ = nI (pg_af S.2); simpa [xn_uI] using hA1⟩, hf1.uI (by omega)⟩
        show (if t = 9 ∧ q = m then 1 else if t = 9 then (if q < S.1.1 ∧ pg_no S.2 q = 1 ∧ pg_k S.1 q = 5 ∧ pg_f S.1 q = pg_f S.1 m then 0 else pg_no S.2 q) else S.2.1 t q) = if t = 9 ∧ q = m then 1 else R1.1 t q
        rw [he1]
        by_cases e1 : t = 9
        · subst e1
          simp only [true_and, if_true]
        · simp only [e1, false_and, if_false]
      · rw [nI_leI (by omega) (by omega)] at h7
        have hwi := hB.2.2.1 i (by omega)
        have h01 := (hR.2.2.2 i).1
        have eno : pg_no R1 i = pg_no S.2 i := by
          show R1.1 9 i = _
          rw [he1, if_neg (by omega)]
        have skip : ¬ (pg_no S.2 i = 1 ∧ pg_k S.1 i = 5 ∧ pg_f S.1 i = pg_f S.1 m) → xn_X E G (xj_R E G (xp_tr r v S (pg_tChg S m)) 0 0) 0 0 80 [some (.ref (xj_ad G (21, 0, 0))), some (.int (nI m)), some (.int (nI r)), some (.int (nI i))] [] v1 := by
          intro h
          refine xj_iincN3 C a_T_takesChange_80 rfl ?_
          refine xj_goto C a_T_takesChange_83 rfl ?_
          refine ih (i + 1) (by omega) (by omega) (fun j hj => ?_) R1 v1 hB1 hR1 hA1 hf1 hs1 (fun t q => ?_)
          · by_cases e : j = i
            · subst e; exact fun h2 => h ⟨h2.1, h2.2.1, h2.2.2.1⟩
            · exact hno j (by omega)
          · rw [he1]
            by_cases e : q = i
            · subst e
              rw [if_neg (by omega), if_neg (fun h2 => h h2.2.2)]
            · have : (q < i) = (q < i + 1) := propext (by omega)
              simp only [this]
        refine xj_aload_n C a_T_takesChange_10 rfl ?_
        refine xn_g_T_noted C a_T_takesChange_11 fl_T_30 ?_
        refine xj_sipush (v := nI 200) C a_T_takesChange_14 (by decide) ?_
        refine xj_iload_n C a_T_takesChange_17 rfl ?_
        refine xj_imulN C a_T_takesChange_18 ?_
        refine xj_iload_n C a_T_takesChange_19 rfl ?_
        refine xj_iaddN C a_T_takesChange_20 ?_
        refine xn_ld_28 C a_T_takesChange_21 (by first | assumption | omega) ?_
        refine xj_topi ((hR1.no (by omega)).trans (by rw [eno])) ?_
        refine xj_if_eq C a_T_takesChange_22 rfl (fun h22 => ?_) (fun h22 => ?_)
        · rw [xp_nz (by omega)] at h22
          exact skip (by omega)
        · rw [xp_nz (by omega)] at h22
          have h22 : pg_no S.2 i = 1 := by omega
          refine xj_aload_n C a_T_takesChange_25 rfl ?_
          refine xn_g_T_kind C a_T_takesChange_26 fl_T_7 ?_
          refine xj_iload_n C a_T_takesChange_29 rfl ?_
          refine xn_ld_22 C a_T_takesChange_30 (by first | assumption | omega) ?_
          refine xj_topi (hB1.k (by omega)) ?_
          refine xj_iconst (v := nI 5) C a_T_takesChange_31 (by decide) ?_
          refine xj_icmp_ne C a_T_takesChange_32 rfl (fun h32 => ?_) (fun h32 => ?_)
          · rw [nI_eq (by omega) (by omega)] at h32
            exact skip (fun h => h32 h.2.1)
          · rw [nI_eq (by omega) (by omega)] at h32
            have h32 : pg_k S.1 i = 5 := by simpa using h32
            refine xj_aload_n C a_T_takesChange_35 rfl ?_
            refine xn_g_T_from C a_T_takesChange_36 fl_T_13 ?_
            refine xj_iload_n C a_T_takesChange_39 rfl ?_
            refine xn_ld_23 C a_T_takesChange_40 (by first | assumption | omega) ?_
            refine xj_topi (hB1.f (by omega)) ?_
            refine xj_aload_n C a_T_takesChange_41 rfl ?_
            refine xn_g_T_from C a_T_takesChange_42 fl_T_13 ?_
            refine xj_iload_n C a_T_takesChange_45 rfl ?_
            refine xn_ld_23 C a_T_takesChange_46 (by first | assumption | omega) ?_
            refine xj_topi (hB1.f (by omega)) ?_
            refine xj_icmp_ne C a_T_takesChange_47 rfl (fun h47 => ?_) (fun h47 => ?_)
            · rw [nI_eq (by omega) (by omega)] at h47
              exact skip (fun h => h47 h.2.2)
            · rw [nI_eq (by omega) (by omega)] at h47
              have h47 : pg_f S.1 i = pg_f S.1 m := by simpa using h47
              have huniq : ∀ j, pg_no S.2 j = 1 → pg_k S.1 j = 5 → pg_f S.1 j = pg_f S.1 m → j = i := fun j j1 j2 j3 => hU j i j1 h22 j2 h32 (by omega) (by omega)
              refine xj_aload_n C a_T_takesChange_50 rfl ?_
              refine xn_g_T_a C a_T_takesChange_51 fl_T_16 ?_
              refine xj_iload_n C a_T_takesChange_54 rfl ?_
              refine xn_ld_24 C a_T_takesChange_55 (by first | assumption | omega) ?_
              refine xj_topi (hB1.a (by omega)) ?_
              refine xj_aload_n C a_T_takesChange_56 rfl ?_
              refine xn_g_T_a C a_T_takesChange_57 fl_T_16 ?_
              refine xj_iload_n C a_T_takesChange_60 rfl ?_
              refine xn_ld_24 C a_T_takesChange_61 (by first | assumption | omega) ?_
              refine xj_topi (hB1.a (by omega)) ?_
              refine xj_icmp_gt C a_T_takesChange_62 rfl (fun h62 => ?_) (fun h62 => ?_)
              · refine xj_aload_n C a_T_takesChange_67 rfl ?_
                refine xn_g_T_noted C a_T_takesChange_68 fl_T_30 ?_
                refine xj_sipush (v := nI 200) C a_T_takesChange_71 (by decide) ?_
                refine xj_iload_n C a_T_takesChange_74 rfl ?_
                refine xj_imulN C a_T_takesChange_75 ?_
                refine xj_iload_n C a_T_takesChange_76 rfl ?_
                refine xj_iaddN C a_T_takesChange_77 ?_
                refine xj_iconst (v := nI 0) C a_T_takesChange_78 (by decide) ?_
                refine xn_st_28 C a_T_takesChange_79 (by first | assumption | omega) (by first | assumption | decide) ?_
                have h2 := hR1.uA (t := 9) (q := i) (x := 0) (K := 28) (by decide) (by omega) rfl
                refine xj_iincN3 C a_T_takesChange_80 rfl ?_
                refine xj_goto C a_T_takesChange_83 rfl ?_
                refine ih (i + 1) (by omega) (by omega) (fun j hj => ?_) _ _ (hB1.uI (by omega)) h2 (by simpa [xn_uI] using hA1) (hf1.uI (by omega)) hs1 (fun t q => ?_)
                · by_cases e : j = i
                  · subst e
                    exact fun h => Int32.not_lt.mpr h.2.2.2 h62
                  · exact hno j (by omega)
                · show (if t = 9 ∧ q = i then 0 else R1.1 t q) = _
                  rw [he1]
                  by_cases e : t = 9 ∧ q = i
                  · rw [if_pos e, if_pos ⟨e.1, by omega, by rw [e.2]; exact h22, by rw [e.2]; exact h32, by rw [e.2]; exact h47⟩]
                  · rw [if_neg e]
                    by_cases e2 : t = 9 ∧ q < i ∧ pg_no S.2 q = 1 ∧ pg_k S.1 q = 5 ∧ pg_f S.1 q = pg_f S.1 m
                    · rw [if_pos e2, if_pos ⟨e2.1, by omega, e2.2.2⟩]
                    · rw [if_neg e2, if_neg]
                      rintro ⟨g1, g2, g3⟩
                      exact e ⟨g1, huniq q g3.1 g3.2.1 g3.2.2⟩
              · have e : pg_tChg S m = none := by
                  unfold pg_tChg
                  rw [if_pos]
                  rw [List.any_eq_true]
                  refine ⟨i, List.mem_range.mpr (by omega), ?_⟩
                  simp only [Bool.and_eq_true, beq_iff_eq, decide_eq_true_eq]
                  exact ⟨h22, h32, h47, Int32.not_lt.mp h62⟩
                rw [e]
                refine xj_iconst (v := nI 0) C a_T_takesChange_65 (by decide) ?_
                refine xj_zret C a_T_takesChange_66 rfl ⟨rfl, v1, rfl, ⟨hB1, hR1.congr (fun t q _ => ?_) hs1.symm, hA1⟩, hf1⟩
                rw [he1, if_neg]
                · rfl
                · rintro ⟨g1, g2, g3⟩
                  have := huniq q g3.1 g3.2.1 g3.2.2
                  omega
  exact loop (S.1.1 + 1) 0 (by omega) (by omega) (fun j hj => absurd hj (Nat.not_lt_zero j)) S.2 v hB hR hA (xf_T.rf r v) rfl (fun t q => by rw [if_neg (by omega)])
/-- what a part of the reference does that answers nothing -/
def xp_tv (r : Nat) (v : xn_V) (S' : pg_S) (a : Option Value) (w' : xj_W) : Prop := a = none ∧ ∃ v', w' = xn_W v' ∧ xt_S r S' v' ∧ xf_T r v v'
theorem c_T_dropAccepted (l : Launch) (G : xj_G) (v : xn_V) (r : Nat) (hr : r < 4) (S : pg_S) (hS : xt_S r S v) : xj_Mx l G 0 0 0 0 m_T_dropAccepted [.ref (xj_ad G (21, 0, 0)), .int (nI r)] (xn_W v) (xp_tv r v (S.1, pg_drop S.2)) := by
  obtain ⟨hB, hR, hA⟩ := hS
  refine xj_Mx_of (by decide) (Nat.le_of_ble_eq_true rfl) (fun E hE C _ => ?_)
  subst hE
  replace C : xj_C E G prog_9_method_24_code "ThreePhaseGroupModel" 3 0 0 0 0 none := C
  show xn_X E G _ 0 0 0 [some (.ref (xj_ad G (21, 0, 0))), some (.int (nI r)), none] [] v
  refine xj_iconst (v := nI 0) C a_T_dropAccepted_0 (by decide) ?_
  refine xj_istore2 C a_T_dropAccepted_1 rfl ?_
  have loop : ∀ N i : Nat, i ≤ 200 → 200 - i < N → ∀ (R1 : pg_R) (v1 : xn_V), xt_B S.1 v1 → xt_R r R1 v1 → v1.1 21 0 0 21 = nI (pg_af S.2) → xf_T r v v1 → R1.2 = S.2.2 → (∀ t q, R1.1 t q = if t = 6 ∧ q < i then 0 else S.2.1 t q) → xn_X E G (xj_R E G (xp_tv r v (S.1, pg_drop S.2)) 0 0) 0 0 2 [some (.ref (xj_ad G (21, 0, 0))), some (.int (nI r)), some (.int (nI i))] [] v1 := by
    intro N
    induction N with
    | zero => intro i _ h; omega
    | succ N ih =>
      intro i hi hN R1 v1 hB1 hR1 hA1 hf1 hs1 he1
      refine xj_iload_n C a_T_dropAccepted_2 rfl ?_
      refine xj_sipush (v := nI 200) C a_T_dropAccepted_3 (by decide) ?_
      refine xj_icmp_ge C a_T_dropAccepted_6 rfl (fun h6 => ?_) (fun h6 => ?_)
      · rw [nI_leI (by omega) (by omega)] at h6
        have : i = 200 := by omega
        subst this
        refine xj_vret C a_T_dropAccepted_28 ?_
        refine ⟨rfl, v1, rfl, ⟨hB1, ?_, hA1⟩, hf1⟩
        obtain ⟨a1, a2, a3, a4⟩ := hR1
        refine ⟨fun t ht => ?_, ?_, fun t t1 t2 q hq => ?_, fun q => ?_⟩
        · rw [a1 t ht, he1, if_neg (by omega)]
          show nI (S.2.1 t 0) = nI (if t = 6 then 0 else S.2.1 t 0)
          rw [if_neg (by omega)]
        · exact a2.trans hs1
        · rw [a3 t t1 t2 q hq, he1]
          show nI (if t = 6 ∧ q < 200 then 0 else S.2.1 t q) = nI (if t = 6 then 0 else S.2.1 t q)
          by_cases e : t = 6
          · rw [if_pos ⟨e, hq⟩, if_pos e]
          · rw [if_neg (fun h => e h.1), if_neg e]
        · exact hR.2.2.2 q
      · rw [nI_leI (by omega) (by omega)] at h6
        refine xj_aload_n C a_T_dropAccepted_9 rfl ?_
        refine xn_g_T_accepted C a_T_dropAccepted_10 fl_T_57 ?_
        refine xj_sipush (v := nI 200) C a_T_dropAccepted_13 (by decide) ?_
        refine xj_iload_n C a_T_dropAccepted_16 rfl ?_
        refine xj_imulN C a_T_dropAccepted_17 ?_
        refine xj_iload_n C a_T_dropAccepted_18 rfl ?_
        refine xj_iaddN C a_T_dropAccepted_19 ?_
        refine xj_iconst (v := nI 0) C a_T_dropAccepted_20 (by decide) ?_
        refine xn_st_37 C a_T_dropAccepted_21 (by first | assumption | omega) ?_
        refine xj_iincN2 C a_T_dropAccepted_22 rfl ?_
        refine xj_goto C a_T_dropAccepted_25 rfl ?_
        have h2 := hR1.uA (t := 6) (q := i) (x := 0) (K := 37) (by decide) (by omega) rfl
        refine ih (i + 1) (by omega) (by omega) _ _ (hB1.uI (by omega)) h2 (by simpa [xn_uI] using hA1) (hf1.uI (by omega)) hs1 (fun t q => ?_)
        show (if t = 6 ∧ q = i then 0 else R1.1 t q) = _
        rw [he1]
        by_cases e : t = 6 ∧ q = i
        · rw [if_pos e, if_pos ⟨e.1, by omega⟩]
        · rw [if_neg e]
          have : (t = 6 ∧ q < i) = (t = 6 ∧ q < i + 1) := propext (by constructor <;> (intro h; omega))
          simp only [this]
  exact loop 201 0 (by omega) (by omega) S.2 v hB hR hA (xf_T.rf r v) rfl (fun t q => by rw [if_neg (by omega)])
theorem c_T_settles (l : Launch) (G : xj_G) (v : xn_V) (r : Nat) (hr : r < 4) (S : pg_S) (hS : xt_S r S v) (he : pg_e S.2 < 1000) (n : Nat) (hn : n < 200) (x : Int64) : xj_Mx l G 0 0 0 0 m_T_settles [.ref (xj_ad G (21, 0, 0)), .int (nI r), .int (nI n), .long x] (xn_W v) (xp_tv r v (S.1, pg_set S.2 n x)) := by
  obtain ⟨hB, hR, hA⟩ := hS
  refine xj_Mx_of (by decide) (Nat.le_of_ble_eq_true rfl) (fun E hE C _ => ?_)
  subst hE
  replace C : xj_C E G prog_9_method_25_code "ThreePhaseGroupModel" 6 0 0 0 0 none := C
  show xn_X E G _ 0 0 0 [some (.ref (xj_ad G (21, 0, 0))), some (.int (nI r)), some (.int (nI n)), some (.long x), none, none] [] v
  refine xj_iconst (v := nI 0) C a_T_settles_0 (by decide) ?_
  refine xj_istore5 C a_T_settles_1 rfl ?_
  have loop : ∀ N i : Nat, i ≤ n + 1 → n + 1 - i < N → ∀ (R1 : pg_R) (v1 : xn_V), xt_B S.1 v1 → xt_R r R1 v1 → v1.1 21 0 0 21 = nI (pg_af S.2) → xf_T r v v1 → R1.2 = S.2.2 → (∀ t q, R1.1 t q = if (t = 6 ∨ t = 7 ∨ t = 8) ∧ q < i then 0 else S.2.1 t q) → xn_X E G (xj_R E G (xp_tv r v (S.1, pg_set S.2 n x)) 0 0) 0 0 3 [some (.ref (xj_ad G (21, 0, 0))), some (.int (nI r)), some (.int (nI n)), some (.long x), none, some (.int (nI i))] [] v1 := by
    intro N
    induction N with
    | zero => intro i _ h; omega
    | succ N ih =>
      intro i hi hN R1 v1 hB1 hR1 hA1 hf1 hs1 he1
      refine xj_iload C a_T_settles_3 rfl ?_
      refine xj_iload_n C a_T_settles_5 rfl ?_
      refine xj_icmp_gt C a_T_settles_6 rfl (fun h6 => ?_) (fun h6 => ?_)
      · rw [nI_ltI (by omega) (by omega)] at h6
        have : i = n + 1 := by omega
        subst this
        have h2 := hR1.uS (t := 2) (x := n) (K := 32) (by decide) rfl
        have ee : R1.1 3 0 = pg_e S.2 := by rw [he1, if_neg (by omega)]
        refine xj_aload_n C a_T_settles_71 rfl ?_
        refine xn_g_T_h C a_T_settles_72 fl_T_42 ?_
        refine xj_iload_n C a_T_settles_75 rfl ?_
        refine xj_iload_n C a_T_settles_76 rfl ?_
        refine xn_st_32 C a_T_settles_77 (by first | assumption | omega) ?_
        refine xj_aload_n C a_T_settles_78 rfl ?_
        refine xn_g_T_e C a_T_settles_79 fl_T_45 ?_
        refine xj_iload_n C a_T_settles_82 rfl ?_
        refine xn_ld_33 C a_T_settles_83 (by first | assumption | omega) ?_
        refine xj_topi (y := nI (pg_e S.2)) (h2.e.trans (by show nI (if 3 = 2 ∧ 0 = 0 then n else R1.1 3 0) = _; rw [if_neg (by omega), ee])) ?_
        have hset : ∀ t q, (pg_u R1 2 0 n).1 t q = if t = 2 ∧ q = 0 then n else if (t = 6 ∨ t = 7 ∨ t = 8) ∧ q ≤ n then 0 else S.2.1 t q := by
          intro t q
          show (if t = 2 ∧ q = 0 then n else R1.1 t q) = _
          rw [he1]
          have : ((t = 6 ∨ t = 7 ∨ t = 8) ∧ q < n + 1) = ((t = 6 ∨ t = 7 ∨ t = 8) ∧ q ≤ n) := propext (by constructor <;> (intro h; omega))
          simp only [this]
        refine xj_iload_n C a_T_settles_84 rfl ?_
        refine xj_icmp_lt C a_T_settles_85 rfl (fun h85 => ?_) (fun h85 => ?_)
        · rw [nI_ltI (by omega) (by omega)] at h85
          refine xj_aload_n C a_T_settles_89 rfl ?_
          refine xn_g_T_e C a_T_settles_90 fl_T_45 ?_
          refine xj_iload_n C a_T_settles_93 rfl ?_
          refine xj_iload_n C a_T_settles_94 rfl ?_
          refine xn_st_33 C a_T_settles_95 (by first | assumption | omega) ?_
          refine xj_aload_n C a_T_settles_96 rfl ?_
          refine xn_g_T_state C a_T_settles_97 fl_T_48 ?_
          refine xj_iload_n C a_T_settles_100 rfl ?_
          refine xj_lload_n C a_T_settles_101 rfl ?_
          refine xn_st_34 C a_T_settles_102 (by first | assumption | omega) ?_
          refine xj_vret C a_T_settles_103 ?_
          have h3 := (h2.uS (t := 3) (x := n) (K := 33) (by decide) rfl).sst x
          refine ⟨rfl, _, rfl, ⟨((hB1.uI (by omega)).uI (by omega)).uJ (by omega), h3.congr (fun t q ht => ?_) ?_, ?_⟩, ((hf1.uI (by omega)).uI (by omega)).uJ (by omega)⟩
          · rw [pg_set_at]
            show _ = if t = 3 ∧ q = 0 then n else (pg_u R1 2 0 n).1 t q
            rw [hset]
            by_cases e1 : t = 3 ∧ q = 0
            · rw [if_pos e1, if_neg (by omega), if_pos ⟨e1.1, e1.2, by omega⟩]
            · rw [if_neg e1]
              by_cases e2 : t = 2 ∧ q = 0
              · rw [if_pos e2, if_pos e2]
              · rw [if_neg e2, if_neg e2, if_neg (by omega)]
          · show (pg_set S.2 n x).2 = x
            rw [pg_set_st, if_neg (by omega)]
          · show _ = nI ((pg_set S.2 n x).1 11 0)
            rw [pg_set_at, if_neg (by omega), if_neg (by omega), if_neg (by omega)]
            simpa [xn_uI, xn_uJ] using hA1
        · rw [nI_ltI (by omega) (by omega)] at h85
          refine xj_vret C a_T_settles_88 ?_
          refine ⟨rfl, _, rfl, ⟨hB1.uI (by omega), h2.congr (fun t q ht => ?_) ?_, ?_⟩, hf1.uI (by omega)⟩
          · rw [pg_set_at, hset]
            by_cases e2 : t = 2 ∧ q = 0
            · rw [if_pos e2, if_pos e2]
            · rw [if_neg e2, if_neg e2, if_neg (by omega)]
          · show (pg_set S.2 n x).2 = R1.2
            rw [pg_set_st, if_pos (by omega), hs1]
          · show _ = nI ((pg_set S.2 n x).1 11 0)
            rw [pg_set_at, if_neg (by omega), if_neg (by omega), if_neg (by omega)]
            simpa [xn_uI] using hA1
      · rw [nI_ltI (by omega) (by omega)] at h6
        refine xj_aload_n C a_T_settles_9 rfl ?_
        refine xn_g_T_accepted C a_T_settles_10 fl_T_57 ?_
        refine xj_sipush (v := nI 200) C a_T_settles_13 (by decide) ?_
        refine xj_iload_n C a_T_settles_16 rfl ?_
        refine xj_imulN C a_T_settles_17 ?_
        refine xj_iload C a_T_settles_18 rfl ?_
        refine xj_iaddN C a_T_settles_20 ?_
        refine xj_iconst (v := nI 0) C a_T_settles_21 (by decide) ?_
        refine xn_st_37 C a_T_settles_22 (by first | assumption | omega) ?_
        refine xj_aload_n C a_T_settles_23 rfl ?_
        refine xn_g_T_decided C a_T_settles_24 fl_T_60 ?_
        refine xj_sipush (v := nI 200) C a_T_settles_27 (by decide) ?_
        refine xj_iload_n C a_T_settles_30 rfl ?_
        refine xj_imulN C a_T_settles_31 ?_
        refine xj_iload C a_T_settles_32 rfl ?_
        refine xj_iaddN C a_T_settles_34 ?_
        refine xj_iconst (v := nI 0) C a_T_settles_35 (by decide) ?_
        refine xn_st_38 C a_T_settles_36 (by first | assumption | omega) ?_
        refine xj_aload_n C a_T_settles_37 rfl ?_
        refine xn_g_T_certified C a_T_settles_38 fl_T_63 ?_
        refine xj_sipush (v := nI 200) C a_T_settles_41 (by decide) ?_
        refine xj_iload_n C a_T_settles_44 rfl ?_
        refine xj_imulN C a_T_settles_45 ?_
        refine xj_iload C a_T_settles_46 rfl ?_
        refine xj_iaddN C a_T_settles_48 ?_
        refine xj_iconst (v := nI 0) C a_T_settles_49 (by decide) ?_
        refine xn_st_39 C a_T_settles_50 (by first | assumption | omega) ?_
        refine xj_aload_n C a_T_settles_51 rfl ?_
        refine xn_g_T_certView C a_T_settles_52 fl_T_66 ?_
        refine xj_sipush (v := nI 200) C a_T_settles_55 (by decide) ?_
        refine xj_iload_n C a_T_settles_58 rfl ?_
        refine xj_imulN C a_T_settles_59 ?_
        refine xj_iload C a_T_settles_60 rfl ?_
        refine xj_iaddN C a_T_settles_62 ?_
        refine xj_iconst (v := nI 0) C a_T_settles_63 (by decide) ?_
        refine xn_st_40 C a_T_settles_64 (by first | assumption | omega) ?_
        refine xj_iincN5 C a_T_settles_65 rfl ?_
        refine xj_goto C a_T_settles_68 rfl ?_
        have h2 := (((hR1.uA (t := 6) (q := i) (x := 0) (K := 37) (by decide) (by omega) rfl).uA (t := 7) (q := i) (x := 0) (K := 38) (by decide) (by omega) rfl).oth (k := 39) (i := 0) (x := 200 * r + i) (y := nI 0) (by omega)).uA (t := 8) (q := i) (x := 0) (K := 40) (by decide) (by omega) rfl
        refine ih (i + 1) (by omega) (by omega) _ _ ((((hB1.uI (by omega)).uI (by omega)).uI (by omega)).uI (by omega)) h2 (by simpa [xn_uI] using hA1) ((((hf1.uI (by omega)).uI (by omega)).uI (by omega)).uI (by omega)) hs1 (fun t q => ?_)
        show (if t = 8 ∧ q = i then 0 else if t = 7 ∧ q = i then 0 else if t = 6 ∧ q = i then 0 else R1.1 t q) = _
        rw [he1]
        by_cases e : (t = 6 ∨ t = 7 ∨ t = 8) ∧ q = i
        · rw [if_pos (show (t = 6 ∨ t = 7 ∨ t = 8) ∧ q < i + 1 by omega)]
          split
          · rfl
          · split
            · rfl
            · rw [if_pos (by omega)]
        · rw [if_neg (by omega), if_neg (by omega), if_neg (by omega)]
          have : ((t = 6 ∨ t = 7 ∨ t = 8) ∧ q < i) = ((t = 6 ∨ t = 7 ∨ t = 8) ∧ q < i + 1) := propext (by constructor <;> (intro h; omega))
          simp only [this]
  exact loop (n + 2) 0 (by omega) (by omega) S.2 v hB hR hA (xf_T.rf r v) rfl (fun t q => by rw [if_neg (by omega)])
