/-! the reference at rest -/
def xp_fm (f : Nat) : Int32 := if f = 0 then -1 else nI (f - 1)
def xt_C (k : Nat) (C : pg_C) (v : xn_V) : Prop := v.1 41 0 0 k = nI (pg_sm C) ∧ v.1 42 0 0 k = nI (pg_op C) ∧ v.1 43 0 0 k = C.2 ∧ (∀ q, q < 200 → v.1 44 0 0 (200 * k + q) = nI (pg_tk C q)) ∧ ∀ q, pg_tk C q ≤ 1
def xt_T (T : pg_T) (v : xn_V) : Prop := xt_B T.1 v ∧ (∀ r, r < 4 → xt_R r (T.2.1 r) v) ∧ (∀ k, k < 2 → xt_C k (T.2.2.1 k) v) ∧ (∀ p, p < 6 → v.1 45 0 0 p = nI (T.2.2.2.1 p)) ∧ v.1 21 0 0 20 = xp_fm T.2.2.2.2
/-- the class's places are as they were -/
def xf_U (v v' : xn_V) : Prop := ∀ k r i x, k ≤ 20 → v'.1 k r i x = v.1 k r i x ∧ v'.2 k r i x = v.2 k r i x
theorem xf_U.rf (v : xn_V) : xf_U v v := fun _ _ _ _ _ => ⟨rfl, rfl⟩
theorem xf_U.tr {v v1 v2 : xn_V} (h : xf_U v v1) (g : xf_U v1 v2) : xf_U v v2 := fun k r i x hk => ⟨(g k r i x hk).1.trans (h k r i x hk).1, (g k r i x hk).2.trans (h k r i x hk).2⟩
theorem xf_U.uI {v v1 : xn_V} (h : xf_U v v1) {k r i x : Nat} {y : Int32} (hk : 21 ≤ k) : xf_U v (xn_uI v1 k r i x y) := by
  intro k' r' i' x' hk'
  have h2 := h k' r' i' x' hk'
  refine ⟨?_, h2.2⟩
  show (if k' = k ∧ r' = r ∧ i' = i ∧ x' = x then y else v1.1 k' r' i' x') = _
  rw [if_neg (by omega)]
  exact h2.1
theorem xf_T.U {r : Nat} {v v' : xn_V} (h : xf_T r v v') : xf_U v v' := fun k r' i x hk => h k r' i x (by omega) (by omega) (by omega) (by omega)
theorem xf_U.ts {v v1 : xn_V} (h : xf_U v v1) {z p : Nat} {k x : Int32} {y : Int64} {c : Int32} : xf_U v (xn_ts v1 z p k x y c) := by
  refine h.tr (fun k' r' i' x' hk => ?_)
  obtain ⟨o1, o2⟩ := xn_ts_oth v1 z p k x y c
  exact ⟨o1 k' r' i' x' (by omega) (by omega) (by omega), o2 k' r' i' x' (by omega)⟩
theorem xt_C.cells {k : Nat} {C : pg_C} {v v' : xn_V} (h : xt_C k C v) (h1 : ∀ K, 41 ≤ K → K ≤ 43 → v'.1 K 0 0 k = v.1 K 0 0 k) (h2 : ∀ q, q < 200 → v'.1 44 0 0 (200 * k + q) = v.1 44 0 0 (200 * k + q)) : xt_C k C v' := by
  obtain ⟨a1, a2, a3, a4, a5⟩ := h
  exact ⟨by rw [h1 41 (by omega) (by omega)]; exact a1, by rw [h1 42 (by omega) (by omega)]; exact a2, by rw [h1 43 (by omega) (by omega)]; exact a3, fun q hq => by rw [h2 q hq]; exact a4 q hq, a5⟩
/-- only replica r and the board have moved -/
theorem xt_T.mv {T T' : pg_T} {v v' : xn_V} (h : xt_T T v) {r : Nat} (hr : r < 4) (hF : xf_T r v v') (hB : xt_B T'.1 v') (hR : xt_R r (T'.2.1 r) v') (ho : ∀ r', r' ≠ r → T'.2.1 r' = T.2.1 r') (hC : T'.2.2 = T.2.2) : xt_T T' v' := by
  obtain ⟨t1, t2, t3, t4, t5⟩ := h
  refine ⟨hB, fun r' hr' => ?_, fun k hk => ?_, fun p hp => ?_, ?_⟩
  · by_cases e : r' = r
    · rw [e]; exact hR
    · rw [ho r' e]
      refine (t2 r' hr').cells (fun k h1 h2 => (hF k 0 0 r' (by omega) (by omega) (by omega) (by omega)).1) (hF 34 0 0 r' (by omega) (by omega) (by omega) (by omega)).2 (fun k q hk hq => (hF k 0 0 _ (by omega) (by omega) (by omega) (by omega)).1)
  · rw [hC]
    exact (t3 k hk).cells (fun K h1 h2 => (hF K 0 0 k (by omega) (by omega) (by omega) (by omega)).1) (fun q hq => (hF 44 0 0 _ (by omega) (by omega) (by omega) (by omega)).1)
  · rw [hC, (hF 45 0 0 p (by omega) (by omega) (by omega) (by omega)).1]
    exact t4 p hp
  · rw [hC, (hF 21 0 0 20 (by omega) (by omega) (by omega) (by omega)).1]
    exact t5
/-- what a call of the reference does -/
def xp_ti (v : xn_V) (x : Value) (T' : pg_T) (a : Option Value) (w' : xj_W) : Prop := a = some x ∧ ∃ v', w' = xn_W v' ∧ xt_T T' v' ∧ xf_U v v'
theorem c_T_answered (l : Launch) (G : xj_G) (v : xn_V) (T : pg_T) (hT : xt_T T v) (k : Nat) (hk : k < 2) (hc : pg_cok T.1 (T.2.2.1 k)) (m : Nat) (hm : m < T.1.1) : xj_Mx l G 0 0 0 0 m_T_answered [.ref (xj_ad G (21, 0, 0)), .int (nI m), .int (nI k)] (xn_W v) (xp_ti v (.int (xp_b (pg_ans T.1 (T.2.2.1 k) m k).isSome)) (((pg_ans T.1 (T.2.2.1 k) m k).map (pg_putC T k)).getD T)) := by
  have hB := hT.1
  have hz := hB.2.1
  have hCk := hT.2.2.1 k hk
  have hsm := hc.1
  have hop : pg_op (T.2.2.1 k) < 256 := by have := hc.2.1; omega
  have hwm := hB.2.2.1 m hm
  generalize hCC : T.2.2.1 k = CC at *
  refine xj_Mx_of (by decide) (Nat.le_of_ble_eq_true rfl) (fun E hE C _ => ?_)
  subst hE
  replace C : xj_C E G prog_9_method_37_code "ThreePhaseGroupModel" 5 0 0 0 0 (some .boolean) := C
  show xn_X E G _ 0 0 0 [some (.ref (xj_ad G (21, 0, 0))), some (.int (nI m)), some (.int (nI k)), none, none] [] v
  have no : ∀ pc, pc = 46 ∨ pc = 114 → pg_ans T.1 CC m k = none → ∀ z3 z4 : Option Value, xn_X E G (xj_R E G (xp_ti v (.int (xp_b (pg_ans T.1 CC m k).isSome)) (((pg_ans T.1 CC m k).map (pg_putC T k)).getD T)) 0 0) 0 0 pc [some (.ref (xj_ad G (21, 0, 0))), some (.int (nI m)), some (.int (nI k)), z3, z4] [] v := by
    intro pc hpc h z3 z4
    rw [h]
    rcases hpc with rfl | rfl
    · refine xj_iconst (v := nI 0) C a_T_answered_46 (by decide) ?_
      exact xj_zret C a_T_answered_47 rfl ⟨rfl, v, rfl, hT, xf_U.rf v⟩
    · refine xj_iconst (v := nI 0) C a_T_answered_114 (by decide) ?_
      exact xj_zret C a_T_answered_115 rfl ⟨rfl, v, rfl, hT, xf_U.rf v⟩
  refine xj_aload_n C a_T_answered_0 rfl ?_
  refine xn_g_T_kind C a_T_answered_1 fl_T_7 ?_
  refine xj_iload_n C a_T_answered_4 rfl ?_
  refine xn_ld_22 C a_T_answered_5 (by first | assumption | omega) ?_
  refine xj_topi (hB.k (by omega)) ?_
  refine xj_iconst (v := nI 4) C a_T_answered_6 (by decide) ?_
  refine xj_icmp_ne C a_T_answered_7 rfl (fun h7 => ?_) (fun h7 => ?_)
  · rw [nI_eq (by omega) (by omega)] at h7
    exact no 46 (by omega) (by unfold pg_ans; rw [if_pos (Or.inl h7)]) _ _
  · rw [nI_eq (by omega) (by omega)] at h7
    have h7 : pg_k T.1 m = 4 := by simpa using h7
    refine xj_aload_n C a_T_answered_10 rfl ?_
    refine xn_g_T_a C a_T_answered_11 fl_T_16 ?_
    refine xj_iload_n C a_T_answered_14 rfl ?_
    refine xn_ld_24 C a_T_answered_15 (by first | assumption | omega) ?_
    refine xj_topi (hB.a (by omega)) ?_
    refine xj_iload_n C a_T_answered_16 rfl ?_
    refine xj_icmp_ne C a_T_answered_17 rfl (fun h17 => ?_) (fun h17 => ?_)
    · exact no 46 (by omega) (by unfold pg_ans; rw [if_pos (Or.inr (Or.inl h17))]) _ _
    · have h17 : pg_a T.1 m = nI k := by simpa using h17
      refine xj_aload_n C a_T_answered_20 rfl ?_
      refine xn_g_T_open C a_T_answered_21 fl_T_76 ?_
      refine xj_iload_n C a_T_answered_24 rfl ?_
      refine xn_ld_42 C a_T_answered_25 (by first | assumption | omega) ?_
      refine xj_topi (hCk.2.1) ?_
      refine xj_if_eq C a_T_answered_26 rfl (fun h26 => ?_) (fun h26 => ?_)
      · rw [xp_nz (by omega)] at h26
        exact no 46 (by omega) (by unfold pg_ans; rw [if_pos (Or.inr (Or.inr (Or.inl h26)))]) _ _
      · rw [xp_nz (by omega)] at h26
        refine xj_aload_n C a_T_answered_29 rfl ?_
        refine xn_g_T_b C a_T_answered_30 fl_T_19 ?_
        refine xj_iload_n C a_T_answered_33 rfl ?_
        refine xn_ld_25 C a_T_answered_34 (by first | assumption | omega) ?_
        refine xj_topl (hB.b (by omega)) ?_
        refine xj_aload_n C a_T_answered_35 rfl ?_
        refine xn_g_T_open C a_T_answered_36 fl_T_76 ?_
        refine xj_iload_n C a_T_answered_39 rfl ?_
        refine xn_ld_42 C a_T_answered_40 (by first | assumption | omega) ?_
        refine xj_topi (hCk.2.1) ?_
        refine xj_i2l C a_T_answered_41 ?_
        refine xj_topl (nI_l (show pg_op CC < 2 ^ 31 by omega)) ?_
        refine xj_lcmp C a_T_answered_42 ?_
        refine xj_if_eq C a_T_answered_43 rfl (fun h43 => ?_) (fun h43 => ?_)
        · rw [xp_cmp_eq] at h43
          have hcond : ¬ (pg_k T.1 m ≠ 4 ∨ pg_a T.1 m ≠ nI k ∨ pg_op CC = 0 ∨ pg_b T.1 m ≠ lN (pg_op CC)) := by
            rintro (g | g | g | g)
            · exact g h7
            · exact g h17
            · exact h26 g
            · exact g h43
          have loop : ∀ (N i : Nat), i ≤ T.1.1 → T.1.1 - i < N → (∀ j, j < i → ¬ (pg_tk CC j = 1 ∧ pg_b T.1 j = pg_b T.1 m ∧ pg_f T.1 j = pg_f T.1 m)) → xn_X E G (xj_R E G (xp_ti v (.int (xp_b (pg_ans T.1 CC m k).isSome)) (((pg_ans T.1 CC m k).map (pg_putC T k)).getD T)) 0 0) 0 0 53 [some (.ref (xj_ad G (21, 0, 0))), some (.int (nI m)), some (.int (nI k)), some (.int (xp_b ((List.range i).any (fun i => pg_tk CC i == 1 && (pg_b T.1 i == pg_b T.1 m && pg_c T.1 i == pg_c T.1 m))))), some (.int (nI i))] [] v := by
            intro N
            induction N with
            | zero => intro i _ h; omega
            | succ N ih =>
              intro i hi hN hprev
              refine xj_iload C a_T_answered_53 rfl ?_
              refine xj_aload_n C a_T_answered_55 rfl ?_
              refine xn_g_T_count C a_T_answered_56 fl_T_88 ?_
              refine xj_topi hB.z ?_
              refine xj_icmp_ge C a_T_answered_59 rfl (fun h59 => ?_) (fun h59 => ?_)
              · rw [nI_leI (by omega) (by omega)] at h59
                have : i = T.1.1 := by omega
                subst this
                have hn2 : ¬ (List.range T.1.1).any (fun i => pg_tk CC i == 1 && (pg_b T.1 i == pg_b T.1 m && pg_f T.1 i == pg_f T.1 m)) = true := by
                  intro g
                  rw [List.any_eq_true] at g
                  obtain ⟨j, j1, j2⟩ := g
                  simp only [Bool.and_eq_true, beq_iff_eq] at j2
                  exact hprev j (List.mem_range.mp j1) ⟨j2.1, j2.2.1, j2.2.2⟩
                obtain ⟨tw, htw⟩ : ∃ tw, tw = (List.range T.1.1).any (fun i => pg_tk CC i == 1 && (pg_b T.1 i == pg_b T.1 m && pg_c T.1 i == pg_c T.1 m)) := ⟨_, rfl⟩
                rw [← htw]
                have put : ∀ (C' : pg_C) (v' : xn_V), (∀ K r' i' x', ¬ ((K = 42 ∨ K = 43) ∧ x' = k) → ¬ (K = 44 ∧ x' = 200 * k + m) → v'.1 K r' i' x' = v.1 K r' i' x') → v'.2 = v.2 → xt_C k C' v' → xt_T (pg_putC T k C') v' ∧ xf_U v v' := by
                  intro C' v' h1 h2 h3
                  refine ⟨⟨?_, fun r hr => ?_, fun k' hk' => ?_, fun p hp => ?_, ?_⟩, fun K r' i' x' hK => ⟨h1 K r' i' x' (by omega) (by omega), by rw [h2]⟩⟩
                  · obtain ⟨b1, b2, b3, b4, b5⟩ := hB
                    refine ⟨by rw [h1 _ _ _ _ (by omega) (by omega)]; exact b1, b2, b3, fun q hq => ?_, fun q q1 q2 => by rw [h1 _ _ _ _ (by omega) (by omega)]; exact b5 q q1 q2⟩
                    rw [h1 _ _ _ _ (by omega) (by omega), h1 _ _ _ _ (by omega) (by omega), h1 _ _ _ _ (by omega) (by omega), h1 _ _ _ _ (by omega) (by omega), h1 _ _ _ _ (by omega) (by omega), h2]
                    exact b4 q hq
                  · exact (hT.2.1 r hr).cells (fun K g1 g2 => h1 _ _ _ _ (by omega) (by omega)) (by rw [h2]) (fun K q g1 g2 => h1 _ _ _ _ (by omega) (by omega))
                  · show xt_C k' (va_up T.2.2.1 k C' k') v'
                    by_cases e : k' = k
                    · rw [e, va_up_self]; exact h3
                    · rw [va_up_ne _ _ e]
                      exact (hT.2.2.1 k' hk').cells (fun K g1 g2 => h1 _ _ _ _ (by omega) (by omega)) (fun q hq => h1 _ _ _ _ (by omega) (by omega))
                  · rw [h1 _ _ _ _ (by omega) (by omega)]; exact hT.2.2.2.1 p hp
                  · rw [h1 _ _ _ _ (by omega) (by omega)]; exact hT.2.2.2.2
                obtain ⟨k1, k2, k3, k4, k5⟩ := hCk
                have tk1 : ∀ (C' : pg_C), (∀ q, pg_tk C' q = if q = m then 1 else pg_tk CC q) → ∀ v' : xn_V, (∀ q, q < 200 → v'.1 44 0 0 (200 * k + q) = if q = m then nI 1 else v.1 44 0 0 (200 * k + q)) → (∀ q, q < 200 → v'.1 44 0 0 (200 * k + q) = nI (pg_tk C' q)) ∧ ∀ q, pg_tk C' q ≤ 1 := by
                  intro C' h1 v' h2
                  refine ⟨fun q hq => ?_, fun q => ?_⟩
                  · rw [h2 q hq, h1]
                    by_cases e : q = m
                    · rw [if_pos e, if_pos e]
                    · rw [if_neg e, if_neg e]; exact k4 q hq
                  · rw [h1]
                    split
                    · exact Nat.le_refl 1
                    · exact k5 q
                cases tw with
                | false =>
                  have e : pg_ans T.1 CC m k = some (pg_cw CC 2 m 1 CC.2) := by
                    unfold pg_ans
                    rw [if_neg hcond, if_neg hn2, if_neg (by rw [← htw]; decide)]
                  rw [e]
                  refine xj_aload_n C a_T_answered_148 rfl ?_
                  refine xn_g_T_taken C a_T_answered_149 fl_T_82 ?_
                  refine xj_sipush (v := nI 200) C a_T_answered_152 (by decide) ?_
                  refine xj_iload_n C a_T_answered_155 rfl ?_
                  refine xj_imulN C a_T_answered_156 ?_
                  refine xj_iload_n C a_T_answered_157 rfl ?_
                  refine xj_iaddN C a_T_answered_158 ?_
                  refine xj_iconst (v := nI 1) C a_T_answered_159 (by decide) ?_
                  refine xn_st_44 C a_T_answered_160 (by first | assumption | omega) (by first | assumption | decide) ?_
                  refine xj_iload_n C a_T_answered_161 rfl ?_
                  refine xj_if_eq C a_T_answered_162 rfl (fun _ => ?_) (fun h => absurd rfl h)
                  refine xj_iload_n C a_T_answered_177 rfl ?_
                  refine xj_if_eq C a_T_answered_178 rfl (fun _ => ?_) (fun h => absurd rfl h)
                  refine xj_iconst (v := nI 1) C a_T_answered_188 (by decide) ?_
                  have q1 : ∀ K r' i' x', ¬ ((K = 42 ∨ K = 43) ∧ x' = k) → ¬ (K = 44 ∧ x' = 200 * k + m) → (xn_uI v 44 0 0 (200 * k + m) (nI 1)).1 K r' i' x' = v.1 K r' i' x' := by
                    intro K r' i' x' g1 g2
                    show (if K = 44 ∧ r' = 0 ∧ i' = 0 ∧ x' = 200 * k + m then _ else _) = _
                    rw [if_neg (by omega)]
                  have q2 : ∀ q, pg_tk (pg_cw CC 2 m 1 CC.2) q = if q = m then 1 else pg_tk CC q := by
                    intro q
                    show (if 2 = 2 ∧ q = m then 1 else pg_tk CC q) = _
                    simp
                  have q3 : ∀ q, q < 200 → (xn_uI v 44 0 0 (200 * k + m) (nI 1)).1 44 0 0 (200 * k + q) = if q = m then nI 1 else v.1 44 0 0 (200 * k + q) := by
                    intro q hq
                    show (if 44 = 44 ∧ 0 = 0 ∧ 0 = 0 ∧ 200 * k + q = 200 * k + m then nI 1 else v.1 44 0 0 (200 * k + q)) = _
                    by_cases e : q = m
                    · rw [if_pos ⟨rfl, rfl, rfl, by rw [e]⟩, if_pos e]
                    · rw [if_neg (by omega), if_neg e]
                  have hp := put (pg_cw CC 2 m 1 CC.2) (xn_uI v 44 0 0 (200 * k + m) (nI 1)) q1 rfl ⟨k1, k2, k3, tk1 _ q2 _ q3⟩
                  exact xj_zret C a_T_answered_189 rfl ⟨rfl, _, rfl, hp.1, hp.2⟩
                | true =>
                  have e : pg_ans T.1 CC m k = some (pg_cw (pg_cw CC 2 m 1 CC.2) 1 0 0 (pg_c T.1 m)) := by
                    unfold pg_ans
                    rw [if_neg hcond, if_neg hn2, if_pos htw.symm]
                  rw [e]
                  have hB1 : xt_B T.1 (xn_uI v 44 0 0 (200 * k + m) (nI 1)) := hB.uI (by omega)
                  refine xj_aload_n C a_T_answered_148 rfl ?_
                  refine xn_g_T_taken C a_T_answered_149 fl_T_82 ?_
                  refine xj_sipush (v := nI 200) C a_T_answered_152 (by decide) ?_
                  refine xj_iload_n C a_T_answered_155 rfl ?_
                  refine xj_imulN C a_T_answered_156 ?_
                  refine xj_iload_n C a_T_answered_157 rfl ?_
                  refine xj_iaddN C a_T_answered_158 ?_
                  refine xj_iconst (v := nI 1) C a_T_answered_159 (by decide) ?_
                  refine xn_st_44 C a_T_answered_160 (by first | assumption | omega) (by first | assumption | decide) ?_
                  refine xj_iload_n C a_T_answered_161 rfl ?_
                  refine xj_if_eq C a_T_answered_162 rfl (fun h => absurd h (show ¬ xp_b true = 0 by decide)) (fun _ => ?_)
                  refine xj_aload_n C a_T_answered_165 rfl ?_
                  refine xn_g_T_reply C a_T_answered_166 fl_T_79 ?_
                  refine xj_iload_n C a_T_answered_169 rfl ?_
                  refine xj_aload_n C a_T_answered_170 rfl ?_
                  refine xn_g_T_c C a_T_answered_171 fl_T_23 ?_
                  refine xj_iload_n C a_T_answered_174 rfl ?_
                  refine xn_ld_26 C a_T_answered_175 (by first | assumption | omega) ?_
                  refine xj_topi (hB1.c hm) ?_
                  refine xn_st_43 C a_T_answered_176 (by first | assumption | omega) ?_
                  refine xj_iload_n C a_T_answered_177 rfl ?_
                  refine xj_if_eq C a_T_answered_178 rfl (fun h => absurd h (show ¬ xp_b true = 0 by decide)) (fun _ => ?_)
                  refine xj_aload_n C a_T_answered_181 rfl ?_
                  refine xn_g_T_open C a_T_answered_182 fl_T_76 ?_
                  refine xj_iload_n C a_T_answered_185 rfl ?_
                  refine xj_iconst (v := nI 0) C a_T_answered_186 (by decide) ?_
                  refine xn_st_42 C a_T_answered_187 (by first | assumption | omega) ?_
                  refine xj_iconst (v := nI 1) C a_T_answered_188 (by decide) ?_
                  obtain ⟨v5, hv5⟩ : ∃ v5, v5 = xn_uI (xn_uI (xn_uI v 44 0 0 (200 * k + m) (nI 1)) 43 0 0 k (pg_c T.1 m)) 42 0 0 k (nI 0) := ⟨_, rfl⟩
                  have c5 : ∀ K r' i' x', v5.1 K r' i' x' = if K = 42 ∧ r' = 0 ∧ i' = 0 ∧ x' = k then nI 0 else if K = 43 ∧ r' = 0 ∧ i' = 0 ∧ x' = k then pg_c T.1 m else if K = 44 ∧ r' = 0 ∧ i' = 0 ∧ x' = 200 * k + m then nI 1 else v.1 K r' i' x' := by
                    rw [hv5]; exact fun _ _ _ _ => rfl
                  have d5 : v5.2 = v.2 := by rw [hv5]; rfl
                  have q1 : ∀ K r' i' x', ¬ ((K = 42 ∨ K = 43) ∧ x' = k) → ¬ (K = 44 ∧ x' = 200 * k + m) → v5.1 K r' i' x' = v.1 K r' i' x' := by
                    intro K r' i' x' g1 g2
                    rw [c5, if_neg (by omega), if_neg (by omega), if_neg (by omega)]
                  have q2 : ∀ q, pg_tk (pg_cw (pg_cw CC 2 m 1 CC.2) 1 0 0 (pg_c T.1 m)) q = if q = m then 1 else pg_tk CC q := by
                    intro q
                    show (if 2 = 1 ∧ q = 0 then 0 else if 2 = 2 ∧ q = m then 1 else pg_tk CC q) = _
                    simp
                  have q3 : ∀ q, q < 200 → v5.1 44 0 0 (200 * k + q) = if q = m then nI 1 else v.1 44 0 0 (200 * k + q) := by
                    intro q hq
                    rw [c5, if_neg (by omega), if_neg (by omega)]
                    by_cases e : q = m
                    · rw [if_pos ⟨rfl, rfl, rfl, by rw [e]⟩, if_pos e]
                    · rw [if_neg (by omega), if_neg e]
                  have q4 : v5.1 42 0 0 k = nI 0 := by rw [c5, if_pos ⟨rfl, rfl, rfl, rfl⟩]
                  have q5 : v5.1 43 0 0 k = pg_c T.1 m := by rw [c5, if_neg (by omega), if_pos ⟨rfl, rfl, rfl, rfl⟩]
                  have q6 : v5.1 41 0 0 k = nI (pg_sm CC) := by rw [c5, if_neg (by omega), if_neg (by omega), if_neg (by omega)]; exact k1
                  have hp := put (pg_cw (pg_cw CC 2 m 1 CC.2) 1 0 0 (pg_c T.1 m)) v5 q1 d5 ⟨q6, q4, q5, tk1 _ q2 _ q3⟩
                  rw [hv5] at hp
                  exact xj_zret C a_T_answered_189 rfl ⟨rfl, _, rfl, hp.1, hp.2⟩
              · rw [nI_leI (by omega) (by omega)] at h59
                have hi2 : i < T.1.1 := by omega
                have hwi := hB.2.2.1 i hi2
                have h01 := hCk.2.2.2.2 i
                have next : ∀ bb, bb = (List.range (i + 1)).any (fun i => pg_tk CC i == 1 && (pg_b T.1 i == pg_b T.1 m && pg_c T.1 i == pg_c T.1 m)) → ¬ (pg_tk CC i = 1 ∧ pg_b T.1 i = pg_b T.1 m ∧ pg_f T.1 i = pg_f T.1 m) → xn_X E G (xj_R E G (xp_ti v (.int (xp_b (pg_ans T.1 CC m k).isSome)) (((pg_ans T.1 CC m k).map (pg_putC T k)).getD T)) 0 0) 0 0 142 [some (.ref (xj_ad G (21, 0, 0))), some (.int (nI m)), some (.int (nI k)), some (.int (xp_b bb)), some (.int (nI i))] [] v := by
                  intro bb hbb h
                  rw [hbb]
                  refine xj_iincN4 C a_T_answered_142 rfl ?_
                  refine xj_goto C a_T_answered_145 rfl ?_
                  refine ih (i + 1) (by omega) (by omega) (fun j hj => ?_)
                  by_cases e : j = i
                  · rw [e]; exact h
                  · exact hprev j (by omega)
                refine xj_aload_n C a_T_answered_62 rfl ?_
                refine xn_g_T_taken C a_T_answered_63 fl_T_82 ?_
                refine xj_sipush (v := nI 200) C a_T_answered_66 (by decide) ?_
                refine xj_iload_n C a_T_answered_69 rfl ?_
                refine xj_imulN C a_T_answered_70 ?_
                refine xj_iload C a_T_answered_71 rfl ?_
                refine xj_iaddN C a_T_answered_73 ?_
                refine xn_ld_44 C a_T_answered_74 (by first | assumption | omega) ?_
                refine xj_topi (hCk.2.2.2.1 i (by omega)) ?_
                refine xj_if_eq C a_T_answered_75 rfl (fun h75 => ?_) (fun h75 => ?_)
                · rw [xp_nz (by omega)] at h75
                  exact next _ (by rw [xp_any_s]; simp [h75]) (fun g => by omega)
                · rw [xp_nz (by omega)] at h75
                  have h75 : pg_tk CC i = 1 := by omega
                  refine xj_aload_n C a_T_answered_78 rfl ?_
                  refine xn_g_T_b C a_T_answered_79 fl_T_19 ?_
                  refine xj_iload C a_T_answered_82 rfl ?_
                  refine xn_ld_25 C a_T_answered_84 (by first | assumption | omega) ?_
                  refine xj_topl (hB.b (by omega)) ?_
                  refine xj_aload_n C a_T_answered_85 rfl ?_
                  refine xn_g_T_b C a_T_answered_86 fl_T_19 ?_
                  refine xj_iload_n C a_T_answered_89 rfl ?_
                  refine xn_ld_25 C a_T_answered_90 (by first | assumption | omega) ?_
                  refine xj_topl (hB.b (by omega)) ?_
                  refine xj_lcmp C a_T_answered_91 ?_
                  refine xj_if_eq C a_T_answered_92 rfl (fun h92 => ?_) (fun h92 => ?_)
                  · rw [xp_cmp_eq] at h92
                    refine xj_aload_n C a_T_answered_98 rfl ?_
                    refine xn_g_T_from C a_T_answered_99 fl_T_13 ?_
                    refine xj_iload C a_T_answered_102 rfl ?_
                    refine xn_ld_23 C a_T_answered_104 (by first | assumption | omega) ?_
                    refine xj_topi (hB.f (by omega)) ?_
                    refine xj_aload_n C a_T_answered_105 rfl ?_
                    refine xn_g_T_from C a_T_answered_106 fl_T_13 ?_
                    refine xj_iload_n C a_T_answered_109 rfl ?_
                    refine xn_ld_23 C a_T_answered_110 (by first | assumption | omega) ?_
                    refine xj_topi (hB.f (by omega)) ?_
                    refine xj_icmp_ne C a_T_answered_111 rfl (fun h111 => ?_) (fun h111 => ?_)
                    · rw [nI_eq (by omega) (by omega)] at h111
                      have nf : ¬ (pg_tk CC i = 1 ∧ pg_b T.1 i = pg_b T.1 m ∧ pg_f T.1 i = pg_f T.1 m) := fun g => h111 g.2.2
                      refine xj_iload_n C a_T_answered_116 rfl ?_
                      refine xj_if_ne C a_T_answered_117 rfl (fun h117 => ?_) (fun h117 => ?_)
                      · rw [xp_b0] at h117
                        have h117 : (List.range i).any (fun i => pg_tk CC i == 1 && (pg_b T.1 i == pg_b T.1 m && pg_c T.1 i == pg_c T.1 m)) = true := by simpa using h117
                        refine xj_iconst (v := nI 1) C a_T_answered_136 (by decide) ?_
                        refine xj_goto C a_T_answered_137 rfl ?_
                        refine xj_istore3 C a_T_answered_141 rfl ?_
                        exact next true (by rw [xp_any_s, h117]; rfl) nf
                      · rw [xp_b0] at h117
                        have h117 : (List.range i).any (fun i => pg_tk CC i == 1 && (pg_b T.1 i == pg_b T.1 m && pg_c T.1 i == pg_c T.1 m)) = false := by simpa using h117
                        refine xj_aload_n C a_T_answered_120 rfl ?_
                        refine xn_g_T_c C a_T_answered_121 fl_T_23 ?_
                        refine xj_iload C a_T_answered_124 rfl ?_
                        refine xn_ld_26 C a_T_answered_126 (by first | assumption | omega) ?_
                        refine xj_topi (hB.c (by omega)) ?_
                        refine xj_aload_n C a_T_answered_127 rfl ?_
                        refine xn_g_T_c C a_T_answered_128 fl_T_23 ?_
                        refine xj_iload_n C a_T_answered_131 rfl ?_
                        refine xn_ld_26 C a_T_answered_132 (by first | assumption | omega) ?_
                        refine xj_topi (hB.c (by omega)) ?_
                        refine xj_icmp_ne C a_T_answered_133 rfl (fun h133 => ?_) (fun h133 => ?_)
                        · refine xj_iconst (v := nI 0) C a_T_answered_140 (by decide) ?_
                          refine xj_istore3 C a_T_answered_141 rfl ?_
                          exact next false (by rw [xp_any_s, h117]; simp [h133]) nf
                        · have h133 : pg_c T.1 i = pg_c T.1 m := by simpa using h133
                          refine xj_iconst (v := nI 1) C a_T_answered_136 (by decide) ?_
                          refine xj_goto C a_T_answered_137 rfl ?_
                          refine xj_istore3 C a_T_answered_141 rfl ?_
                          exact next true (by rw [xp_any_s, h117]; simp [h133, h75, h92]) nf
                    · rw [nI_eq (by omega) (by omega)] at h111
                      have h111 : pg_f T.1 i = pg_f T.1 m := by simpa using h111
                      refine no 114 (by omega) ?_ _ _
                      unfold pg_ans
                      rw [if_neg hcond, if_pos]
                      rw [List.any_eq_true]
                      exact ⟨i, List.mem_range.mpr hi2, by simp [h75, h92, h111]⟩
                  · rw [xp_cmp_eq] at h92
                    refine xj_goto C a_T_answered_95 rfl ?_
                    exact next _ (by rw [xp_any_s]; simp [h92]) (fun g => h92 g.2.1)
          refine xj_iconst (v := nI 0) C a_T_answered_48 (by decide) ?_
          refine xj_istore3 C a_T_answered_49 rfl ?_
          refine xj_iconst (v := nI 0) C a_T_answered_50 (by decide) ?_
          refine xj_istore4 C a_T_answered_51 rfl ?_
          exact loop (T.1.1 + 1) 0 (by omega) (by omega) (fun j hj => absurd hj (Nat.not_lt_zero j))
        · rw [xp_cmp_eq] at h43
          exact no 46 (by omega) (by unfold pg_ans; rw [if_pos (Or.inr (Or.inr (Or.inr h43)))]) _ _
