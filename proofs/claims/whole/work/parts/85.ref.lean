/-! the reference: rules 7 and 8 -/
theorem xt_B.setc {B : pg_B} {k p : Nat} {x : Int32} {y : Int64} {c0 : Int32} {g : Bool} {v : xn_V} (h : xt_B (pg_send B k p x y c0 g) v) (c : Int32) : xt_B (pg_send B k p x y c g) (xn_uI v 26 0 0 B.1 c) := by
  obtain ⟨h1, h2, h3, h4, h5⟩ := h
  refine ⟨by simpa [xn_uI] using h1, h2, h3, fun m hm => ?_, fun m h6 h7 => by simpa [xn_uI] using h5 m h6 h7⟩
  obtain ⟨g1, g2, g3, g4, g5, g6⟩ := h4 m hm
  refine ⟨by simpa [xn_uI] using g1, by simpa [xn_uI] using g2, by simpa [xn_uI] using g3, by simpa [xn_uI] using g4, ?_, by simpa [xn_uI] using g6⟩
  show (if 26 = 26 ∧ 0 = 0 ∧ 0 = 0 ∧ m = B.1 then c else v.1 26 0 0 m) = pg_c (pg_send B k p x y c g) m
  rw [pg_send_c] at g5 ⊢
  by_cases e : m = B.1
  · rw [if_pos ⟨rfl, rfl, rfl, e⟩, if_pos e]
  · rw [if_neg (fun h => e h.2.2.2), if_neg e]
    rw [if_neg e] at g5
    exact g5
theorem xp_sh8n : ∀ t, t < 4 → nI (8 * t) &&& 31 = nI (8 * t) := by decide +kernel
def xp_vP (S : pg_S) (s i : Nat) : Bool := pg_no S.2 i == 1 && (pg_k S.1 i == 5 && (pg_a S.1 i == nI (pg_vw S.2) && pg_f S.1 i == s))
theorem xp_vP_s (S : pg_S) (s i : Nat) : ((List.range (i + 1)).filter (xp_vP S s)).getLast? = if xp_vP S s i = true then some i else ((List.range i).filter (xp_vP S s)).getLast? := by
  rw [List.range_succ, List.filter_append]
  by_cases e : xp_vP S s i = true
  · rw [List.filter_cons_of_pos e, if_pos e]
    simp
  · rw [List.filter_cons_of_neg e, if_neg e]
    simp
theorem c_T_opens (l : Launch) (G : xj_G) (v : xn_V) (r : Nat) (hr : r < 4) (S : pg_S) (hS : xt_S r S v) (hN : pg_num S.2) (he : pg_e S.2 < 1000) (hh : pg_h S.2 < 1000) (hz : S.1.1 < 199) (h7 : pg_o7 r S) (hst : ∀ y, y = (pg_vts r S 4).1.toInt64 → pg_ch S.2 = 1 → pg_vw S.2 % 4 = r → (pg_vts r S 4).2.2 = true → (pg_vts r S 4).2.1 = 2 → pg_st S.1 y < 190) : xj_Mx l G 3 86 0 0 m_T_opens [.ref (xj_ad G (21, 0, 0)), .int (nI r)] (xn_W v) (xp_tr r v S (pg_r7 r S)) := by
  obtain ⟨hB, hR, hA⟩ := hS
  have hvw := hN.1
  have hch := hN.2.1
  refine xj_Mx_of (by decide) (Nat.le_of_ble_eq_true rfl) (fun E hE C _ => ?_)
  subst hE
  replace C : xj_C E G prog_9_method_35_code "ThreePhaseGroupModel" 8 3 86 0 0 (some .boolean) := C
  show xn_X E G _ 0 0 0 [some (.ref (xj_ad G (21, 0, 0))), some (.int (nI r)), none, none, none, none, none, none] [] v
  have no0 : pg_r7 r S = none → xn_X E G (xj_R E G (xp_tr r v S (pg_r7 r S)) 0 0) 0 0 21 [some (.ref (xj_ad G (21, 0, 0))), some (.int (nI r)), none, none, none, none, none, none] [] v := by
    intro h
    rw [h]
    refine xj_iconst (v := nI 0) C a_T_opens_21 (by decide) ?_
    exact xj_zret C a_T_opens_22 rfl ⟨rfl, v, rfl, ⟨hB, hR, hA⟩, xf_T.rf r v⟩
  refine xj_aload_n C a_T_opens_0 rfl ?_
  refine xn_g_T_changing C a_T_opens_1 fl_T_39 ?_
  refine xj_iload_n C a_T_opens_4 rfl ?_
  refine xn_ld_31 C a_T_opens_5 (by first | assumption | omega) ?_
  refine xj_topi hR.ch ?_
  refine xj_if_eq C a_T_opens_6 rfl (fun h6 => ?_) (fun h6 => ?_)
  · rw [xp_nz (by omega)] at h6
    exact no0 (by unfold pg_r7; simp only; rw [if_pos (Or.inl h6)])
  · rw [xp_nz (by omega)] at h6
    have h6 : pg_ch S.2 = 1 := by omega
    refine xj_aload_n C a_T_opens_9 rfl ?_
    refine xn_g_T_view C a_T_opens_10 fl_T_36 ?_
    refine xj_iload_n C a_T_opens_13 rfl ?_
    refine xn_ld_30 C a_T_opens_14 (by first | assumption | omega) ?_
    refine xj_topi hR.vw ?_
    refine xj_iconst (v := nI 4) C a_T_opens_15 (by decide) ?_
    refine xj_irem C a_T_opens_16 (by decide) ?_
    refine xj_topi (y := nI (pg_vw S.2 % 4)) (pk_rem (d := 4) (by omega) (by omega) (by omega)) ?_
    refine xj_iload_n C a_T_opens_17 rfl ?_
    refine xj_icmp_eq C a_T_opens_18 rfl (fun h18 => ?_) (fun h18 => ?_)
    · rw [nI_eq (by omega) (by omega)] at h18
      have outer : ∀ (N s : Nat) (z6 z7 : Option Value), s ≤ 4 → 4 - s < N → xn_X E G (xj_R E G (xp_tr r v S (pg_r7 r S)) 0 0) 0 0 33 [some (.ref (xj_ad G (21, 0, 0))), some (.int (nI r)), some (.int (pg_vts r S s).1), some (.int (nI (pg_vts r S s).2.1)), some (.int (xp_b (pg_vts r S s).2.2)), some (.int (nI s)), z6, z7] [] v := by
        intro N
        induction N with
        | zero => intro s z6 z7 _ h; omega
        | succ N ih =>
          intro s z6 z7 hs hN2
          obtain ⟨l1, l2⟩ := pg_vts_le r S s
          refine xj_iload C a_T_opens_33 rfl ?_
          refine xj_iconst (v := nI 4) C a_T_opens_35 (by decide) ?_
          refine xj_icmp_ge C a_T_opens_36 rfl (fun h36 => ?_) (fun h36 => ?_)
          · rw [nI_leI (by omega) (by omega)] at h36
            have : s = 4 := by omega
            subst this
            have no1 : pg_r7 r S = none → xn_X E G (xj_R E G (xp_tr r v S (pg_r7 r S)) 0 0) 0 0 209 [some (.ref (xj_ad G (21, 0, 0))), some (.int (nI r)), some (.int (pg_vts r S 4).1), some (.int (nI (pg_vts r S 4).2.1)), some (.int (xp_b (pg_vts r S 4).2.2)), some (.int (nI 4)), z6, z7] [] v := by
              intro h
              rw [h]
              refine xj_iconst (v := nI 0) C a_T_opens_209 (by decide) ?_
              exact xj_zret C a_T_opens_210 rfl ⟨rfl, v, rfl, ⟨hB, hR, hA⟩, xf_T.rf r v⟩
            refine xj_iload C a_T_opens_199 rfl ?_
            refine xj_if_eq C a_T_opens_201 rfl (fun h201 => ?_) (fun h201 => ?_)
            · rw [xp_b0] at h201
              exact no1 (by unfold pg_r7; simp only; rw [if_neg (by omega), if_pos (Or.inl h201)])
            · rw [xp_b0] at h201
              have ho : (pg_vts r S 4).2.2 = true := by simpa using h201
              refine xj_iload_n C a_T_opens_204 rfl ?_
              refine xj_iconst (v := nI 2) C a_T_opens_205 (by decide) ?_
              refine xj_icmp_ge C a_T_opens_206 rfl (fun h206 => ?_) (fun h206 => ?_)
              · rw [nI_leI (by omega) (by omega)] at h206
                have ht : (pg_vts r S 4).2.1 = 2 := by omega
                have hs7 := hst _ rfl h6 h18 ho ht
                obtain ⟨hv, heok⟩ := h7 h6 h18 ho ht
                have e7 : pg_r7 r S = some ((pg_own r S 6 (nI (pg_vw S.2)) (pg_vts r S 4).1.toInt64 (pg_od S.1 (pg_vts r S 4).1.toInt64)).1, pg_ent (pg_own r S 6 (nI (pg_vw S.2)) (pg_vts r S 4).1.toInt64 (pg_od S.1 (pg_vts r S 4).1.toInt64)) S.1.1) := by
                  unfold pg_r7
                  simp only
                  rw [if_neg (by omega), if_neg (by rw [ho]; rintro (g | g); cases g; omega)]
                rw [e7]
                generalize hy : (pg_vts r S 4).1.toInt64 = y at *
                refine xj_aload_n C a_T_opens_211 rfl ?_
                refine xj_bipush (v := nI 6) C a_T_opens_212 (by decide) ?_
                refine xj_iload_n C a_T_opens_214 rfl ?_
                refine xj_aload_n C a_T_opens_215 rfl ?_
                refine xn_g_T_view C a_T_opens_216 fl_T_36 ?_
                refine xj_iload_n C a_T_opens_219 rfl ?_
                refine xn_ld_30 C a_T_opens_220 (by first | assumption | omega) ?_
                refine xj_topi hR.vw ?_
                refine xj_iload_n C a_T_opens_221 rfl ?_
                refine xj_i2l C a_T_opens_222 ?_
                refine xj_topl hy ?_
                refine xj_iconst (v := nI 0) C a_T_opens_223 (by decide) ?_
                refine xn_callV5i C a_T_opens_224 (c_T_send _ _ v S.1.1 r hB.z (by omega) (by omega) (nI 6) (nI (pg_vw S.2)) y (nI 0)) mv_T_send lk_T_179 ⟨rfl, rfl, rfl⟩ xj_ok21 ⟨by decide, by decide⟩ rfl (Nat.le_of_ble_eq_true rfl) ⟨Nat.le_refl _, Nat.le_refl _⟩ ?_
                refine xj_istore5 C a_T_opens_227 rfl ?_
                have hX1 := xt_S.own (r := r) (S := S) (v := v) ⟨hB, hR, hA⟩ hr (by omega) 6 (by decide) (nI (pg_vw S.2)) y (nI 0)
                have hB1 : xt_B (pg_send S.1 6 r (nI (pg_vw S.2)) y (nI 0) false) (xn_ts v S.1.1 r (nI 6) (nI (pg_vw S.2)) y (nI 0)) := hX1.1
                have hx1 := pg_ext.send S.1 6 r (nI (pg_vw S.2)) y (nI 0) false
                have hbz : pg_b (pg_send S.1 6 r (nI (pg_vw S.2)) y (nI 0) false) S.1.1 = y := by rw [pg_send_b, if_pos rfl]
                have hvk : xt_vk (pg_send S.1 6 r (nI (pg_vw S.2)) y (nI 0) false) S.1.1 := by
                  intro k hk
                  obtain ⟨v1, p, p1, p2⟩ := hv k hk
                  rw [hbz]
                  exact ⟨by rw [pg_send_z]; omega, p, p1, by rw [(hx1.2 _ v1).2.2.2.1]; exact p2⟩
                refine xj_aload_n C a_T_opens_229 rfl ?_
                refine xn_g_T_c C a_T_opens_230 fl_T_23 ?_
                refine xj_iload C a_T_opens_233 rfl ?_
                refine xj_aload_n C a_T_opens_235 rfl ?_
                refine xj_iload C a_T_opens_236 rfl ?_
                refine xn_callV1i C a_T_opens_238 (c_T_orders _ _ _ (pg_send S.1 6 r (nI (pg_vw S.2)) y (nI 0) false) hB1 S.1.1 (by rw [pg_send_z]; omega) hvk) mv_T_orders lk_T_119 ⟨rfl, rfl, rfl⟩ xj_ok21 ⟨by decide, by decide⟩ rfl (Nat.le_of_ble_eq_true rfl) ⟨Nat.le_refl _, Nat.le_refl _⟩ ?_
                refine xj_topi (y := pg_od S.1 y) (by rw [hbz]; exact pg_od_ext hx1 (fun k hk => (hv k hk).1)) ?_
                have hX2 : xt_S r (pg_own r S 6 (nI (pg_vw S.2)) y (pg_od S.1 y)) (xn_uI (xn_ts v S.1.1 r (nI 6) (nI (pg_vw S.2)) y (nI 0)) 26 0 0 S.1.1 (pg_od S.1 y)) := ⟨hB1.setc _, hX1.2.1.oth (by omega), by show _ = nI (pg_af S.2); have := hX1.2.2; simpa [xn_uI] using this⟩
                have hF2 : xf_T r v (xn_uI (xn_ts v S.1.1 r (nI 6) (nI (pg_vw S.2)) y (nI 0)) 26 0 0 S.1.1 (pg_od S.1 y)) := ((xf_T.rf r v).ts (by omega)).uI (by omega)
                refine xn_st_26 C a_T_opens_241 (by first | assumption | omega) ?_
                refine xj_aload_n C a_T_opens_242 rfl ?_
                refine xj_iload_n C a_T_opens_243 rfl ?_
                refine xj_iload C a_T_opens_244 rfl ?_
                refine xj_callV2 C a_T_opens_246 (c_T_enters _ _ _ r hr (pg_own r S 6 (nI (pg_vw S.2)) y (pg_od S.1 y)) hX2 he hh S.1.1 (by rw [pg_own_z]; omega) (pg_vw S.2) hvw (by rw [pg_own_a, if_pos rfl]) heok (by rw [pg_own_b, if_pos rfl, pg_st_ext (pg_ext.own r S 6 (nI (pg_vw S.2)) y (pg_od S.1 y)) (fun k hk => (hv k hk).1)]; exact hs7)) mv_T_enters lk_T_169 ⟨rfl, rfl, rfl⟩ xj_ok21 ⟨by decide, by decide⟩ rfl (Nat.le_of_ble_eq_true rfl) ⟨Nat.le_refl _, Nat.le_refl _⟩ (fun a' w' hres => ?_)
                obtain ⟨rfl, v3, rfl, hX3, hf3⟩ := hres
                exact xj_zret C a_T_opens_249 rfl ⟨rfl, v3, rfl, hX3, hF2.tr hf3⟩
              · rw [nI_leI (by omega) (by omega)] at h206
                exact no1 (by unfold pg_r7; simp only; rw [if_neg (by omega), if_pos (Or.inr (by omega))])
          · rw [nI_leI (by omega) (by omega)] at h36
            have inner : ∀ (M i : Nat), i ≤ S.1.1 → S.1.1 - i < M → xn_X E G (xj_R E G (xp_tr r v S (pg_r7 r S)) 0 0) 0 0 45 [some (.ref (xj_ad G (21, 0, 0))), some (.int (nI r)), some (.int (pg_vts r S s).1), some (.int (nI (pg_vts r S s).2.1)), some (.int (xp_b (pg_vts r S s).2.2)), some (.int (nI s)), some (.int (xp_om (((List.range i).filter (xp_vP S s)).getLast?))), some (.int (nI i))] [] v := by
              intro M
              induction M with
              | zero => intro i _ h; omega
              | succ M ihM =>
                intro i hi hM
                refine xj_iload C a_T_opens_45 rfl ?_
                refine xj_aload_n C a_T_opens_47 rfl ?_
                refine xn_g_T_count C a_T_opens_48 fl_T_88 ?_
                refine xj_topi hB.z ?_
                refine xj_icmp_ge C a_T_opens_51 rfl (fun h51 => ?_) (fun h51 => ?_)
                · rw [nI_leI (by omega) (by omega)] at h51
                  have : i = S.1.1 := by omega
                  subst this
                  have evc : ((List.range S.1.1).filter (xp_vP S s)).getLast? = pg_vc S s := rfl
                  rw [evc]
                  sorry
                · rw [nI_leI (by omega) (by omega)] at h51
                  have hi2 : i < S.1.1 := by omega
                  have hwi := hB.2.2.1 i hi2
                  have h01 := (hR.2.2.2 i).1
                  have next : ∀ o, o = ((List.range (i + 1)).filter (xp_vP S s)).getLast? → xn_X E G (xj_R E G (xp_tr r v S (pg_r7 r S)) 0 0) 0 0 113 [some (.ref (xj_ad G (21, 0, 0))), some (.int (nI r)), some (.int (pg_vts r S s).1), some (.int (nI (pg_vts r S s).2.1)), some (.int (xp_b (pg_vts r S s).2.2)), some (.int (nI s)), some (.int (xp_om o)), some (.int (nI i))] [] v := by
                    intro o eo
                    rw [eo]
                    refine xj_iincN7 C a_T_opens_113 rfl ?_
                    refine xj_goto C a_T_opens_116 rfl ?_
                    exact ihM (i + 1) (by omega) (by omega)
                  have skip : ¬ (pg_no S.2 i = 1 ∧ pg_k S.1 i = 5 ∧ pg_a S.1 i = nI (pg_vw S.2) ∧ pg_f S.1 i = s) → xn_X E G (xj_R E G (xp_tr r v S (pg_r7 r S)) 0 0) 0 0 113 [some (.ref (xj_ad G (21, 0, 0))), some (.int (nI r)), some (.int (pg_vts r S s).1), some (.int (nI (pg_vts r S s).2.1)), some (.int (xp_b (pg_vts r S s).2.2)), some (.int (nI s)), some (.int (xp_om (((List.range i).filter (xp_vP S s)).getLast?))), some (.int (nI i))] [] v := by
                    intro h
                    refine next _ ?_
                    rw [xp_vP_s, if_neg]
                    intro g
                    unfold xp_vP at g
                    simp only [Bool.and_eq_true, beq_iff_eq] at g
                    exact h g
                  refine xj_aload_n C a_T_opens_54 rfl ?_
                  refine xn_g_T_noted C a_T_opens_55 fl_T_30 ?_
                  refine xj_sipush (v := nI 200) C a_T_opens_58 (by decide) ?_
                  refine xj_iload_n C a_T_opens_61 rfl ?_
                  refine xj_imulN C a_T_opens_62 ?_
                  refine xj_iload C a_T_opens_63 rfl ?_
                  refine xj_iaddN C a_T_opens_65 ?_
                  refine xn_ld_28 C a_T_opens_66 (by first | assumption | omega) ?_
                  refine xj_topi (hR.no (by omega)) ?_
                  refine xj_if_eq C a_T_opens_67 rfl (fun h67 => ?_) (fun h67 => ?_)
                  · rw [xp_nz (by omega)] at h67
                    exact skip (fun h => by omega)
                  · rw [xp_nz (by omega)] at h67
                    have h67 : pg_no S.2 i = 1 := by omega
                    refine xj_aload_n C a_T_opens_70 rfl ?_
                    refine xn_g_T_kind C a_T_opens_71 fl_T_7 ?_
                    refine xj_iload C a_T_opens_74 rfl ?_
                    refine xn_ld_22 C a_T_opens_76 (by first | assumption | omega) ?_
                    refine xj_topi (hB.k hi2) ?_
                    refine xj_iconst (v := nI 5) C a_T_opens_77 (by decide) ?_
                    refine xj_icmp_ne C a_T_opens_78 rfl (fun h78 => ?_) (fun h78 => ?_)
                    · rw [nI_eq (by omega) (by omega)] at h78
                      exact skip (fun h => h78 h.2.1)
                    · rw [nI_eq (by omega) (by omega)] at h78
                      have h78 : pg_k S.1 i = 5 := by simpa using h78
                      refine xj_aload_n C a_T_opens_81 rfl ?_
                      refine xn_g_T_a C a_T_opens_82 fl_T_16 ?_
                      refine xj_iload C a_T_opens_85 rfl ?_
                      refine xn_ld_24 C a_T_opens_87 (by first | assumption | omega) ?_
                      refine xj_topi (hB.a hi2) ?_
                      refine xj_aload_n C a_T_opens_88 rfl ?_
                      refine xn_g_T_view C a_T_opens_89 fl_T_36 ?_
                      refine xj_iload_n C a_T_opens_92 rfl ?_
                      refine xn_ld_30 C a_T_opens_93 (by first | assumption | omega) ?_
                      refine xj_topi hR.vw ?_
                      refine xj_icmp_ne C a_T_opens_94 rfl (fun h94 => ?_) (fun h94 => ?_)
                      · exact skip (fun h => h94 h.2.2.1)
                      · have h94 : pg_a S.1 i = nI (pg_vw S.2) := by simpa using h94
                        refine xj_aload_n C a_T_opens_97 rfl ?_
                        refine xn_g_T_from C a_T_opens_98 fl_T_13 ?_
                        refine xj_iload C a_T_opens_101 rfl ?_
                        refine xn_ld_23 C a_T_opens_103 (by first | assumption | omega) ?_
                        refine xj_topi (hB.f hi2) ?_
                        refine xj_iload C a_T_opens_104 rfl ?_
                        refine xj_icmp_ne C a_T_opens_106 rfl (fun h106 => ?_) (fun h106 => ?_)
                        · rw [nI_eq (by omega) (by omega)] at h106
                          exact skip (fun h => h106 h.2.2.2)
                        · rw [nI_eq (by omega) (by omega)] at h106
                          have h106 : pg_f S.1 i = s := by simpa using h106
                          refine xj_iload C a_T_opens_109 rfl ?_
                          refine xj_istore6 C a_T_opens_111 rfl ?_
                          refine next (some i) ?_
                          rw [xp_vP_s, if_pos]
                          unfold xp_vP
                          simp [h67, h78, h94, h106]
            refine xj_iconst (v := -1) C a_T_opens_39 (by decide) ?_
            refine xj_istore6 C a_T_opens_40 rfl ?_
            refine xj_iconst (v := nI 0) C a_T_opens_42 (by decide) ?_
            refine xj_istore7 C a_T_opens_43 rfl ?_
            exact inner (S.1.1 + 1) 0 (by omega) (by omega)
      refine xj_iconst (v := nI 0) C a_T_opens_23 (by decide) ?_
      refine xj_istore2 C a_T_opens_24 rfl ?_
      refine xj_iconst (v := nI 0) C a_T_opens_25 (by decide) ?_
      refine xj_istore3 C a_T_opens_26 rfl ?_
      refine xj_iconst (v := nI 0) C a_T_opens_27 (by decide) ?_
      refine xj_istore4 C a_T_opens_28 rfl ?_
      refine xj_iconst (v := nI 0) C a_T_opens_30 (by decide) ?_
      refine xj_istore5 C a_T_opens_31 rfl ?_
      exact outer 5 0 none none (by omega) (by omega)
    · rw [nI_eq (by omega) (by omega)] at h18
      exact no0 (by unfold pg_r7; simp only; rw [if_pos (Or.inr h18)])
