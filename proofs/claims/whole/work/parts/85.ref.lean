/-! the reference: rules 7 and 8 -/
theorem xt_B.setc {B : pg_B} {k p : Nat} {x : Int32} {y : Int64} {c0 : Int32} {g : Bool} {v : xn_V} (h : xt_B (pg_send B k p x y c0 g) v) (c : Int32) : xt_B (pg_send B k p x y c g) (xn_uI v 26 0 0 B.1 c) := by
  obtain ⟨h1, h2, h3, h4, h5⟩ := h
  refine ⟨h1, h2, h3, fun m hm => ?_, fun m h6 h7 => h5 m h6 h7⟩
  obtain ⟨g1, g2, g3, g4, g5, g6⟩ := h4 m hm
  refine ⟨g1, g2, g3, g4, ?_, g6⟩
  show (if 26 = 26 ∧ 0 = 0 ∧ 0 = 0 ∧ m = B.1 then c else v.1 26 0 0 m) = pg_c (pg_send B k p x y c g) m
  rw [pg_send_c] at g5 ⊢
  by_cases e : m = B.1
  · rw [if_pos ⟨rfl, rfl, rfl, e⟩, if_pos e]
  · rw [if_neg (fun h => e h.2.2.2), if_neg e]
    rw [if_neg e] at g5
    exact g5
theorem xp_sh8n : ∀ t, t < 4 → nI (8 * t) &&& 31 = nI (8 * t) := by decide +kernel
theorem pg_vts_n {r : Nat} {S : pg_S} {s : Nat} (h : pg_vc S s = none) : pg_vts r S (s + 1) = pg_vts r S s := by
  show (match pg_vc S s with | none => _ | some x => _) = _
  rw [h]
theorem pg_vts_s {r : Nat} {S : pg_S} {s x : Nat} (h : pg_vc S s = some x) : pg_vts r S (s + 1) = (if s = r then ((pg_vts r S s).1 ||| nI x <<< nI (8 * ((pg_vts r S s).2.1 + (if (pg_vts r S s).2.2 then 1 else 0))), (pg_vts r S s).2.1, true) else if (pg_vts r S s).2.1 < 2 then ((pg_vts r S s).1 ||| nI x <<< nI (8 * ((pg_vts r S s).2.1 + (if (pg_vts r S s).2.2 then 1 else 0))), (pg_vts r S s).2.1 + 1, (pg_vts r S s).2.2) else pg_vts r S s) := by
  show (match pg_vc S s with | none => _ | some x => _) = _
  rw [h]
def xp_vP (S : pg_S) (s i : Nat) : Bool := pg_no S.2 i == 1 && (pg_k S.1 i == 5 && (pg_a S.1 i == nI (pg_vw S.2) && pg_f S.1 i == s))
theorem xp_vP_s (S : pg_S) (s i : Nat) : ((List.range (i + 1)).filter (xp_vP S s)).getLast? = if xp_vP S s i = true then some i else ((List.range i).filter (xp_vP S s)).getLast? := by
  rw [List.range_succ, List.filter_append]
  by_cases e : xp_vP S s i = true
  · rw [List.filter_cons_of_pos e, if_pos e]
    simp
  · rw [List.filter_cons_of_neg e, if_neg e]
    simp
theorem c_T_opens (l : Launch) (G : xj_G) (v : xn_V) (r : Nat) (hr : r < 4) (S : pg_S) (hS : xt_S r S v) (hN : pg_num S.2) (he : pg_e S.2 < 1000) (hh : pg_h S.2 < 1000) (hz : S.1.1 < 199) (h7 : pg_o7 r S) (hst : ∀ y, y = (pg_vts r S 4).1.toInt64 → pg_ch S.2 = 1 → pg_vw S.2 % 4 = r → (pg_vts r S 4).2.2 = true → (pg_vts r S 4).2.1 = 2 → pg_st S.1 y < 190) : xj_Mx l G 3 86 0 0 m_T_opens [.ref (xj_ad G (21, 0, 0)), .int (nI r)] (xn_W v) (xp_tr r v S (pg_r7 r S)) := by
  obtain ⟨hB, hR, hA⟩ := hS
  have hvw := hN.1
  have hch := hN.2.1
  refine xj_Mx_of (by decide) (Nat.le_of_ble_eq_true rfl) (fun E hE C _ => ?_)
  subst hE
  replace C : xj_C E G prog_9_method_35_code "ThreePhaseGroupModel" 8 3 86 0 0 (some .boolean) := C
  show xn_X E G _ 0 0 0 [some (.ref (xj_ad G (21, 0, 0))), some (.int (nI r)), none, none, none, none, none, none] [] v
  have no0 : pg_r7 r S = none → xn_X E G (xj_R E G (xp_tr r v S (pg_r7 r S)) 0 0) 0 0 21 [some (.ref (xj_ad G (21, 0, 0))), some (.int (nI r)), none, none, none, none, none, none] [] v := by
    intro h
    rw [h]
    refine xj_iconst (v := nI 0) C a_T_opens_21 (by decide) ?_
    exact xj_zret C a_T_opens_22 rfl ⟨rfl, v, rfl, ⟨hB, hR, hA⟩, xf_T.rf r v⟩
  refine xj_aload_n C a_T_opens_0 rfl ?_
  refine xn_g_T_changing C a_T_opens_1 fl_T_39 ?_
  refine xj_iload_n C a_T_opens_4 rfl ?_
  refine xn_ld_31 C a_T_opens_5 (by first | assumption | omega) ?_
  refine xj_topi hR.ch ?_
  refine xj_if_eq C a_T_opens_6 rfl (fun h6 => ?_) (fun h6 => ?_)
  · rw [xp_nz (by omega)] at h6
    exact no0 (by unfold pg_r7; simp only; rw [if_pos (Or.inl h6)])
  · rw [xp_nz (by omega)] at h6
    have h6 : pg_ch S.2 = 1 := by omega
    refine xj_aload_n C a_T_opens_9 rfl ?_
    refine xn_g_T_view C a_T_opens_10 fl_T_36 ?_
    refine xj_iload_n C a_T_opens_13 rfl ?_
    refine xn_ld_30 C a_T_opens_14 (by first | assumption | omega) ?_
    refine xj_topi hR.vw ?_
    refine xj_iconst (v := nI 4) C a_T_opens_15 (by decide) ?_
    refine xj_irem C a_T_opens_16 (by decide) ?_
    refine xj_topi (y := nI (pg_vw S.2 % 4)) (pk_rem (d := 4) (by omega) (by omega) (by omega)) ?_
    refine xj_iload_n C a_T_opens_17 rfl ?_
    refine xj_icmp_eq C a_T_opens_18 rfl (fun h18 => ?_) (fun h18 => ?_)
    · rw [nI_eq (by omega) (by omega)] at h18
      have outer : ∀ (N s : Nat) (z6 z7 : Option Value), s ≤ 4 → 4 - s < N → xn_X E G (xj_R E G (xp_tr r v S (pg_r7 r S)) 0 0) 0 0 33 [some (.ref (xj_ad G (21, 0, 0))), some (.int (nI r)), some (.int (pg_vts r S s).1), some (.int (nI (pg_vts r S s).2.1)), some (.int (xp_b (pg_vts r S s).2.2)), some (.int (nI s)), z6, z7] [] v := by
        intro N
        induction N with
        | zero => intro s z6 z7 _ h; omega
        | succ N ih =>
          intro s z6 z7 hs hN2
          obtain ⟨l1, l2⟩ := pg_vts_le r S s
          refine xj_iload C a_T_opens_33 rfl ?_
          refine xj_iconst (v := nI 4) C a_T_opens_35 (by decide) ?_
          refine xj_icmp_ge C a_T_opens_36 rfl (fun h36 => ?_) (fun h36 => ?_)
          · rw [nI_leI (by omega) (by omega)] at h36
            have : s = 4 := by omega
            subst this
            have no1 : pg_r7 r S = none → xn_X E G (xj_R E G (xp_tr r v S (pg_r7 r S)) 0 0) 0 0 209 [some (.ref (xj_ad G (21, 0, 0))), some (.int (nI r)), some (.int (pg_vts r S 4).1), some (.int (nI (pg_vts r S 4).2.1)), some (.int (xp_b (pg_vts r S 4).2.2)), some (.int (nI 4)), z6, z7] [] v := by
              intro h
              rw [h]
              refine xj_iconst (v := nI 0) C a_T_opens_209 (by decide) ?_
              exact xj_zret C a_T_opens_210 rfl ⟨rfl, v, rfl, ⟨hB, hR, hA⟩, xf_T.rf r v⟩
            refine xj_iload C a_T_opens_199 rfl ?_
            refine xj_if_eq C a_T_opens_201 rfl (fun h201 => ?_) (fun h201 => ?_)
            · rw [xp_b0] at h201
              exact no1 (by unfold pg_r7; simp only; rw [if_neg (by omega), if_pos (Or.inl h201)])
            · rw [xp_b0] at h201
              have ho : (pg_vts r S 4).2.2 = true := by simpa using h201
              refine xj_iload_n C a_T_opens_204 rfl ?_
              refine xj_iconst (v := nI 2) C a_T_opens_205 (by decide) ?_
              refine xj_icmp_ge C a_T_opens_206 rfl (fun h206 => ?_) (fun h206 => ?_)
              · rw [nI_leI (by omega) (by omega)] at h206
                have ht : (pg_vts r S 4).2.1 = 2 := by omega
                have hs7 := hst _ rfl h6 h18 ho ht
                obtain ⟨hv, heok⟩ := h7 h6 h18 ho ht
                have e7 : pg_r7 r S = some ((pg_own r S 6 (nI (pg_vw S.2)) (pg_vts r S 4).1.toInt64 (pg_od S.1 (pg_vts r S 4).1.toInt64)).1, pg_ent (pg_own r S 6 (nI (pg_vw S.2)) (pg_vts r S 4).1.toInt64 (pg_od S.1 (pg_vts r S 4).1.toInt64)) S.1.1) := by
                  unfold pg_r7
                  simp only
                  rw [if_neg (by omega), if_neg (by rw [ho]; rintro (g | g); cases g; omega)]
                rw [e7]
                generalize hy : (pg_vts r S 4).1.toInt64 = y at *
                refine xj_aload_n C a_T_opens_211 rfl ?_
                refine xj_bipush (v := nI 6) C a_T_opens_212 (by decide) ?_
                refine xj_iload_n C a_T_opens_214 rfl ?_
                refine xj_aload_n C a_T_opens_215 rfl ?_
                refine xn_g_T_view C a_T_opens_216 fl_T_36 ?_
                refine xj_iload_n C a_T_opens_219 rfl ?_
                refine xn_ld_30 C a_T_opens_220 (by first | assumption | omega) ?_
                refine xj_topi hR.vw ?_
                refine xj_iload_n C a_T_opens_221 rfl ?_
                refine xj_i2l C a_T_opens_222 ?_
                refine xj_topl hy ?_
                refine xj_iconst (v := nI 0) C a_T_opens_223 (by decide) ?_
                refine xn_callV5i C a_T_opens_224 (c_T_send _ _ v S.1.1 r hB.z (by omega) (by omega) (nI 6) (nI (pg_vw S.2)) y (nI 0)) mv_T_send lk_T_179 ⟨rfl, rfl, rfl⟩ xj_ok21 ⟨by decide, by decide⟩ rfl (Nat.le_of_ble_eq_true rfl) ⟨Nat.le_refl _, Nat.le_refl _⟩ ?_
                refine xj_istore5 C a_T_opens_227 rfl ?_
                have hX1 := xt_S.own (r := r) (S := S) (v := v) ⟨hB, hR, hA⟩ hr (by omega) 6 (by decide) (nI (pg_vw S.2)) y (nI 0)
                have hB1 : xt_B (pg_send S.1 6 r (nI (pg_vw S.2)) y (nI 0) false) (xn_ts v S.1.1 r (nI 6) (nI (pg_vw S.2)) y (nI 0)) := hX1.1
                have hx1 := pg_ext.send S.1 6 r (nI (pg_vw S.2)) y (nI 0) false
                have hbz : pg_b (pg_send S.1 6 r (nI (pg_vw S.2)) y (nI 0) false) S.1.1 = y := by rw [pg_send_b, if_pos rfl]
                have hvk : xt_vk (pg_send S.1 6 r (nI (pg_vw S.2)) y (nI 0) false) S.1.1 := by
                  intro k hk
                  obtain ⟨v1, p, p1, p2⟩ := hv k hk
                  rw [hbz]
                  exact ⟨by rw [pg_send_z]; omega, p, p1, by rw [(hx1.2 _ v1).2.2.2.1]; exact p2⟩
                refine xj_aload_n C a_T_opens_229 rfl ?_
                refine xn_g_T_c C a_T_opens_230 fl_T_23 ?_
                refine xj_iload C a_T_opens_233 rfl ?_
                refine xj_aload_n C a_T_opens_235 rfl ?_
                refine xj_iload C a_T_opens_236 rfl ?_
                refine xn_callV1i C a_T_opens_238 (c_T_orders _ _ _ (pg_send S.1 6 r (nI (pg_vw S.2)) y (nI 0) false) hB1 S.1.1 (by rw [pg_send_z]; omega) hvk) mv_T_orders lk_T_119 ⟨rfl, rfl, rfl⟩ xj_ok21 ⟨by decide, by decide⟩ rfl (Nat.le_of_ble_eq_true rfl) ⟨Nat.le_refl _, Nat.le_refl _⟩ ?_
                refine xj_topi (y := pg_od S.1 y) (by rw [hbz]; exact pg_od_ext hx1 (fun k hk => (hv k hk).1)) ?_
                have hX2 : xt_S r (pg_own r S 6 (nI (pg_vw S.2)) y (pg_od S.1 y)) (xn_uI (xn_ts v S.1.1 r (nI 6) (nI (pg_vw S.2)) y (nI 0)) 26 0 0 S.1.1 (pg_od S.1 y)) := ⟨hB1.setc _, hX1.2.1.oth (by omega), hX1.2.2⟩
                have hF2 : xf_T r v (xn_uI (xn_ts v S.1.1 r (nI 6) (nI (pg_vw S.2)) y (nI 0)) 26 0 0 S.1.1 (pg_od S.1 y)) := ((xf_T.rf r v).ts (by omega)).uI (by omega)
                refine xn_st_26 C a_T_opens_241 (by first | assumption | omega) ?_
                refine xj_aload_n C a_T_opens_242 rfl ?_
                refine xj_iload_n C a_T_opens_243 rfl ?_
                refine xj_iload C a_T_opens_244 rfl ?_
                refine xj_callV2 C a_T_opens_246 (c_T_enters _ _ _ r hr (pg_own r S 6 (nI (pg_vw S.2)) y (pg_od S.1 y)) hX2 he hh S.1.1 (by rw [pg_own_z]; omega) (pg_vw S.2) hvw (by rw [pg_own_a, if_pos rfl]) heok (by rw [pg_own_b, if_pos rfl, pg_st_ext (pg_ext.own r S 6 (nI (pg_vw S.2)) y (pg_od S.1 y)) (fun k hk => (hv k hk).1)]; exact hs7)) mv_T_enters lk_T_169 ⟨rfl, rfl, rfl⟩ xj_ok21 ⟨by decide, by decide⟩ rfl (Nat.le_of_ble_eq_true rfl) ⟨Nat.le_refl _, Nat.le_refl _⟩ (fun a' w' hres => ?_)
                obtain ⟨rfl, v3, rfl, hX3, hf3⟩ := hres
                exact xj_zret C a_T_opens_249 (xp_bn _) ⟨rfl, v3, rfl, hX3, hF2.tr hf3⟩
              · rw [nI_leI (by omega) (by omega)] at h206
                exact no1 (by unfold pg_r7; simp only; rw [if_neg (by omega), if_pos (Or.inr (by omega))])
          · rw [nI_leI (by omega) (by omega)] at h36
            have inner : ∀ (M i : Nat), i ≤ S.1.1 → S.1.1 - i < M → xn_X E G (xj_R E G (xp_tr r v S (pg_r7 r S)) 0 0) 0 0 45 [some (.ref (xj_ad G (21, 0, 0))), some (.int (nI r)), some (.int (pg_vts r S s).1), some (.int (nI (pg_vts r S s).2.1)), some (.int (xp_b (pg_vts r S s).2.2)), some (.int (nI s)), some (.int (xp_om (((List.range i).filter (xp_vP S s)).getLast?))), some (.int (nI i))] [] v := by
              intro M
              induction M with
              | zero => intro i _ h; omega
              | succ M ihM =>
                intro i hi hM
                refine xj_iload C a_T_opens_45 rfl ?_
                refine xj_aload_n C a_T_opens_47 rfl ?_
                refine xn_g_T_count C a_T_opens_48 fl_T_88 ?_
                refine xj_topi hB.z ?_
                refine xj_icmp_ge C a_T_opens_51 rfl (fun h51 => ?_) (fun h51 => ?_)
                · rw [nI_leI (by omega) (by omega)] at h51
                  have : i = S.1.1 := by omega
                  subst this
                  have evc : ((List.range S.1.1).filter (xp_vP S s)).getLast? = pg_vc S s := rfl
                  rw [evc]
                  have next : ∀ (t : Int32 × Nat × Bool) (z6 z7 : Int32), t = pg_vts r S (s + 1) → xn_X E G (xj_R E G (xp_tr r v S (pg_r7 r S)) 0 0) 0 0 193 [some (.ref (xj_ad G (21, 0, 0))), some (.int (nI r)), some (.int t.1), some (.int (nI t.2.1)), some (.int (xp_b t.2.2)), some (.int (nI s)), some (.int z6), some (.int z7)] [] v := by
                    intro t z6 z7 et
                    rw [et]
                    refine xj_iincN5 C a_T_opens_193 rfl ?_
                    refine xj_goto C a_T_opens_196 rfl ?_
                    exact ih (s + 1) _ _ (by omega) (by omega)
                  have skip : ∀ (z6 : Int32), pg_vts r S (s + 1) = pg_vts r S s → xn_X E G (xj_R E G (xp_tr r v S (pg_r7 r S)) 0 0) 0 0 139 [some (.ref (xj_ad G (21, 0, 0))), some (.int (nI r)), some (.int (pg_vts r S s).1), some (.int (nI (pg_vts r S s).2.1)), some (.int (xp_b (pg_vts r S s).2.2)), some (.int (nI s)), some (.int z6), some (.int (nI S.1.1))] [] v := by
                    intro z6 h
                    refine xj_iconst (v := nI 0) C a_T_opens_139 (by decide) ?_
                    refine xj_istore7 C a_T_opens_140 rfl ?_
                    refine xj_iload C a_T_opens_142 rfl ?_
                    refine xj_if_eq C a_T_opens_144 rfl (fun _ => ?_) (fun h => absurd (by decide) h)
                    refine xj_iload C a_T_opens_168 rfl ?_
                    refine xj_if_eq C a_T_opens_170 rfl (fun _ => ?_) (fun h => absurd (by decide) h)
                    refine xj_iload C a_T_opens_185 rfl ?_
                    refine xj_if_eq C a_T_opens_187 rfl (fun _ => ?_) (fun h => absurd (by decide) h)
                    exact next _ _ _ h.symm
                  cases ex : pg_vc S s with
                  | none =>
                    refine xj_iload C a_T_opens_119 rfl ?_
                    refine xj_if_lt C a_T_opens_121 rfl (fun _ => ?_) (fun h => absurd (by decide) h)
                    exact skip _ (pg_vts_n ex)
                  | some x =>
                    have hx := (pg_vc_some ex).1
                    have es := pg_vts_s (r := r) ex
                    refine xj_iload C a_T_opens_119 rfl ?_
                    refine xj_if_lt C a_T_opens_121 rfl (fun h => absurd h (nI_pos (show x < 2 ^ 31 by omega))) (fun _ => ?_)
                    have sum : ∀ t, t = (pg_vts r S s).2.1 + (if (pg_vts r S s).2.2 then 1 else 0) → t < 4 → xn_X E G (xj_R E G (xp_tr r v S (pg_r7 r S)) 0 0) 0 0 168 [some (.ref (xj_ad G (21, 0, 0))), some (.int (nI r)), some (.int ((pg_vts r S s).1 ||| nI x <<< nI (8 * t))), some (.int (nI (pg_vts r S s).2.1)), some (.int (xp_b (pg_vts r S s).2.2)), some (.int (nI s)), some (.int (nI x)), some (.int (nI 1))] [] v → xn_X E G (xj_R E G (xp_tr r v S (pg_r7 r S)) 0 0) 0 0 135 [some (.ref (xj_ad G (21, 0, 0))), some (.int (nI r)), some (.int (pg_vts r S s).1), some (.int (nI (pg_vts r S s).2.1)), some (.int (xp_b (pg_vts r S s).2.2)), some (.int (nI s)), some (.int (nI x)), some (.int (nI S.1.1))] [] v := by
                      intro t et ht hk
                      refine xj_iconst (v := nI 1) C a_T_opens_135 (by decide) ?_
                      refine xj_goto C a_T_opens_136 rfl ?_
                      refine xj_istore7 C a_T_opens_140 rfl ?_
                      refine xj_iload C a_T_opens_142 rfl ?_
                      refine xj_if_eq C a_T_opens_144 rfl (fun h => absurd h (by decide)) (fun _ => ?_)
                      refine xj_iload_n C a_T_opens_147 rfl ?_
                      refine xj_iload C a_T_opens_148 rfl ?_
                      refine xj_bipush (v := nI 8) C a_T_opens_150 (by decide) ?_
                      refine xj_iload_n C a_T_opens_152 rfl ?_
                      refine xj_iload C a_T_opens_153 rfl ?_
                      refine xj_if_eq C a_T_opens_155 rfl (fun h155 => ?_) (fun h155 => ?_)
                      · rw [xp_b0] at h155
                        rw [h155] at et
                        have et : t = (pg_vts r S s).2.1 + 0 := et
                        refine xj_iconst (v := nI 0) C a_T_opens_162 (by decide) ?_
                        refine xj_iaddN C a_T_opens_163 ?_
                        refine xj_imulN C a_T_opens_164 ?_
                        refine xj_ishl C a_T_opens_165 ?_
                        refine xj_topi (y := nI x <<< nI (8 * t)) (by rw [et, xp_sh8n _ (by omega)]) ?_
                        refine xj_ior C a_T_opens_166 ?_
                        refine xj_istore2 C a_T_opens_167 rfl ?_
                        exact hk
                      · rw [xp_b0] at h155
                        have h155 : (pg_vts r S s).2.2 = true := by simpa using h155
                        rw [h155] at et
                        have et : t = (pg_vts r S s).2.1 + 1 := et
                        refine xj_iconst (v := nI 1) C a_T_opens_158 (by decide) ?_
                        refine xj_goto C a_T_opens_159 rfl ?_
                        refine xj_iaddN C a_T_opens_163 ?_
                        refine xj_imulN C a_T_opens_164 ?_
                        refine xj_ishl C a_T_opens_165 ?_
                        refine xj_topi (y := nI x <<< nI (8 * t)) (by rw [et, xp_sh8n _ (by omega)]) ?_
                        refine xj_ior C a_T_opens_166 ?_
                        refine xj_istore2 C a_T_opens_167 rfl ?_
                        exact hk
                    refine xj_iload C a_T_opens_124 rfl ?_
                    refine xj_iload_n C a_T_opens_126 rfl ?_
                    refine xj_icmp_eq C a_T_opens_127 rfl (fun h127 => ?_) (fun h127 => ?_)
                    · rw [nI_eq (by omega) (by omega)] at h127
                      have eo := l2 (by omega)
                      rw [if_pos h127] at es
                      refine sum ((pg_vts r S s).2.1 + (if (pg_vts r S s).2.2 then 1 else 0)) rfl (by rw [eo]; simp; omega) ?_
                      refine xj_iload C a_T_opens_168 rfl ?_
                      refine xj_if_eq C a_T_opens_170 rfl (fun h => absurd h (by decide)) (fun _ => ?_)
                      refine xj_iload C a_T_opens_173 rfl ?_
                      refine xj_iload_n C a_T_opens_175 rfl ?_
                      refine xj_icmp_ne C a_T_opens_176 rfl (fun h => absurd (by rw [h127]) h) (fun _ => ?_)
                      refine xj_iconst (v := nI 1) C a_T_opens_179 (by decide) ?_
                      refine xj_istore4 C a_T_opens_180 rfl ?_
                      refine xj_goto C a_T_opens_182 rfl ?_
                      have := next ((pg_vts r S s).1 ||| nI x <<< nI (8 * ((pg_vts r S s).2.1 + (if (pg_vts r S s).2.2 then 1 else 0))), (pg_vts r S s).2.1, true) (nI x) (nI 1) es.symm
                      exact this
                    · rw [nI_eq (by omega) (by omega)] at h127
                      rw [if_neg h127] at es
                      refine xj_iload_n C a_T_opens_130 rfl ?_
                      refine xj_iconst (v := nI 2) C a_T_opens_131 (by decide) ?_
                      refine xj_icmp_ge C a_T_opens_132 rfl (fun h132 => ?_) (fun h132 => ?_)
                      · rw [nI_leI (by omega) (by omega)] at h132
                        rw [if_neg (by omega)] at es
                        exact skip _ es
                      · rw [nI_leI (by omega) (by omega)] at h132
                        rw [if_pos (by omega)] at es
                        refine sum ((pg_vts r S s).2.1 + (if (pg_vts r S s).2.2 then 1 else 0)) rfl (by split <;> omega) ?_
                        refine xj_iload C a_T_opens_168 rfl ?_
                        refine xj_if_eq C a_T_opens_170 rfl (fun h => absurd h (by decide)) (fun _ => ?_)
                        refine xj_iload C a_T_opens_173 rfl ?_
                        refine xj_iload_n C a_T_opens_175 rfl ?_
                        refine xj_icmp_ne C a_T_opens_176 rfl (fun _ => ?_) (fun h => absurd h (by intro g; rw [nI_eq (by omega) (by omega)] at g; exact h127 g))
                        refine xj_iload C a_T_opens_185 rfl ?_
                        refine xj_if_eq C a_T_opens_187 rfl (fun h => absurd h (by decide)) (fun _ => ?_)
                        refine xj_iincN3 C a_T_opens_190 rfl ?_
                        have := next ((pg_vts r S s).1 ||| nI x <<< nI (8 * ((pg_vts r S s).2.1 + (if (pg_vts r S s).2.2 then 1 else 0))), (pg_vts r S s).2.1 + 1, (pg_vts r S s).2.2) (nI x) (nI 1) es.symm
                        exact this
                · rw [nI_leI (by omega) (by omega)] at h51
                  have hi2 : i < S.1.1 := by omega
                  have hwi := hB.2.2.1 i hi2
                  have h01 := (hR.2.2.2 i).1
                  have next : ∀ o, o = ((List.range (i + 1)).filter (xp_vP S s)).getLast? → xn_X E G (xj_R E G (xp_tr r v S (pg_r7 r S)) 0 0) 0 0 113 [some (.ref (xj_ad G (21, 0, 0))), some (.int (nI r)), some (.int (pg_vts r S s).1), some (.int (nI (pg_vts r S s).2.1)), some (.int (xp_b (pg_vts r S s).2.2)), some (.int (nI s)), some (.int (xp_om o)), some (.int (nI i))] [] v := by
                    intro o eo
                    rw [eo]
                    refine xj_iincN7 C a_T_opens_113 rfl ?_
                    refine xj_goto C a_T_opens_116 rfl ?_
                    exact ihM (i + 1) (by omega) (by omega)
                  have skip : ¬ (pg_no S.2 i = 1 ∧ pg_k S.1 i = 5 ∧ pg_a S.1 i = nI (pg_vw S.2) ∧ pg_f S.1 i = s) → xn_X E G (xj_R E G (xp_tr r v S (pg_r7 r S)) 0 0) 0 0 113 [some (.ref (xj_ad G (21, 0, 0))), some (.int (nI r)), some (.int (pg_vts r S s).1), some (.int (nI (pg_vts r S s).2.1)), some (.int (xp_b (pg_vts r S s).2.2)), some (.int (nI s)), some (.int (xp_om (((List.range i).filter (xp_vP S s)).getLast?))), some (.int (nI i))] [] v := by
                    intro h
                    refine next _ ?_
                    rw [xp_vP_s, if_neg]
                    intro g
                    unfold xp_vP at g
                    simp only [Bool.and_eq_true, beq_iff_eq] at g
                    exact h g
                  refine xj_aload_n C a_T_opens_54 rfl ?_
                  refine xn_g_T_noted C a_T_opens_55 fl_T_30 ?_
                  refine xj_sipush (v := nI 200) C a_T_opens_58 (by decide) ?_
                  refine xj_iload_n C a_T_opens_61 rfl ?_
                  refine xj_imulN C a_T_opens_62 ?_
                  refine xj_iload C a_T_opens_63 rfl ?_
                  refine xj_iaddN C a_T_opens_65 ?_
                  refine xn_ld_28 C a_T_opens_66 (by first | assumption | omega) ?_
                  refine xj_topi (hR.no (by omega)) ?_
                  refine xj_if_eq C a_T_opens_67 rfl (fun h67 => ?_) (fun h67 => ?_)
                  · rw [xp_nz (by omega)] at h67
                    exact skip (fun h => by omega)
                  · rw [xp_nz (by omega)] at h67
                    have h67 : pg_no S.2 i = 1 := by omega
                    refine xj_aload_n C a_T_opens_70 rfl ?_
                    refine xn_g_T_kind C a_T_opens_71 fl_T_7 ?_
                    refine xj_iload C a_T_opens_74 rfl ?_
                    refine xn_ld_22 C a_T_opens_76 (by first | assumption | omega) ?_
                    refine xj_topi (hB.k hi2) ?_
                    refine xj_iconst (v := nI 5) C a_T_opens_77 (by decide) ?_
                    refine xj_icmp_ne C a_T_opens_78 rfl (fun h78 => ?_) (fun h78 => ?_)
                    · rw [nI_eq (by omega) (by omega)] at h78
                      exact skip (fun h => h78 h.2.1)
                    · rw [nI_eq (by omega) (by omega)] at h78
                      have h78 : pg_k S.1 i = 5 := by simpa using h78
                      refine xj_aload_n C a_T_opens_81 rfl ?_
                      refine xn_g_T_a C a_T_opens_82 fl_T_16 ?_
                      refine xj_iload C a_T_opens_85 rfl ?_
                      refine xn_ld_24 C a_T_opens_87 (by first | assumption | omega) ?_
                      refine xj_topi (hB.a hi2) ?_
                      refine xj_aload_n C a_T_opens_88 rfl ?_
                      refine xn_g_T_view C a_T_opens_89 fl_T_36 ?_
                      refine xj_iload_n C a_T_opens_92 rfl ?_
                      refine xn_ld_30 C a_T_opens_93 (by first | assumption | omega) ?_
                      refine xj_topi hR.vw ?_
                      refine xj_icmp_ne C a_T_opens_94 rfl (fun h94 => ?_) (fun h94 => ?_)
                      · exact skip (fun h => h94 h.2.2.1)
                      · have h94 : pg_a S.1 i = nI (pg_vw S.2) := by simpa using h94
                        refine xj_aload_n C a_T_opens_97 rfl ?_
                        refine xn_g_T_from C a_T_opens_98 fl_T_13 ?_
                        refine xj_iload C a_T_opens_101 rfl ?_
                        refine xn_ld_23 C a_T_opens_103 (by first | assumption | omega) ?_
                        refine xj_topi (hB.f hi2) ?_
                        refine xj_iload C a_T_opens_104 rfl ?_
                        refine xj_icmp_ne C a_T_opens_106 rfl (fun h106 => ?_) (fun h106 => ?_)
                        · rw [nI_eq (by omega) (by omega)] at h106
                          exact skip (fun h => h106 h.2.2.2)
                        · rw [nI_eq (by omega) (by omega)] at h106
                          have h106 : pg_f S.1 i = s := by simpa using h106
                          refine xj_iload C a_T_opens_109 rfl ?_
                          refine xj_istore6 C a_T_opens_111 rfl ?_
                          refine next (some i) ?_
                          rw [xp_vP_s, if_pos]
                          unfold xp_vP
                          simp [h67, h78, h94, h106]
            refine xj_iconst (v := -1) C a_T_opens_39 (by decide) ?_
            refine xj_istore6 C a_T_opens_40 rfl ?_
            refine xj_iconst (v := nI 0) C a_T_opens_42 (by decide) ?_
            refine xj_istore7 C a_T_opens_43 rfl ?_
            exact inner (S.1.1 + 1) 0 (by omega) (by omega)
      refine xj_iconst (v := nI 0) C a_T_opens_23 (by decide) ?_
      refine xj_istore2 C a_T_opens_24 rfl ?_
      refine xj_iconst (v := nI 0) C a_T_opens_25 (by decide) ?_
      refine xj_istore3 C a_T_opens_26 rfl ?_
      refine xj_iconst (v := nI 0) C a_T_opens_27 (by decide) ?_
      refine xj_istore4 C a_T_opens_28 rfl ?_
      refine xj_iconst (v := nI 0) C a_T_opens_30 (by decide) ?_
      refine xj_istore5 C a_T_opens_31 rfl ?_
      exact outer 5 0 none none (by omega) (by omega)
    · rw [nI_eq (by omega) (by omega)] at h18
      exact no0 (by unfold pg_r7; simp only; rw [if_pos (Or.inr h18)])
theorem c_T_proposes (l : Launch) (G : xj_G) (v : xn_V) (r : Nat) (hr : r < 4) (S : pg_S) (hS : xt_S r S v) (hN : pg_num S.2) (hh : pg_h S.2 < 190) (hz : S.1.1 < 200) : xj_Mx l G 1 27 0 0 m_T_proposes [.ref (xj_ad G (21, 0, 0)), .int (nI r)] (xn_W v) (xp_tr r v S (pg_r8 r S)) := by
  obtain ⟨hB, hR, hA⟩ := hS
  have hvw := hN.1
  have hch := hN.2.1
  have hnx := xp_nx_le S.2
  refine xj_Mx_of (by decide) (Nat.le_of_ble_eq_true rfl) (fun E hE C _ => ?_)
  subst hE
  replace C : xj_C E G prog_9_method_36_code "ThreePhaseGroupModel" 6 1 27 0 0 (some .boolean) := C
  show xn_X E G _ 0 0 0 [some (.ref (xj_ad G (21, 0, 0))), some (.int (nI r)), none, none, none, none] [] v
  have no0 : pg_r8 r S = none → ∀ pc, pc = 21 ∨ pc = 90 → ∀ z2 z3 : Option Value, xn_X E G (xj_R E G (xp_tr r v S (pg_r8 r S)) 0 0) 0 0 pc [some (.ref (xj_ad G (21, 0, 0))), some (.int (nI r)), z2, z3, none, none] [] v := by
    intro h pc hpc z2 z3
    rw [h]
    rcases hpc with rfl | rfl
    · refine xj_iconst (v := nI 0) C a_T_proposes_21 (by decide) ?_
      exact xj_zret C a_T_proposes_22 rfl ⟨rfl, v, rfl, ⟨hB, hR, hA⟩, xf_T.rf r v⟩
    · refine xj_iconst (v := nI 0) C a_T_proposes_90 (by decide) ?_
      exact xj_zret C a_T_proposes_91 rfl ⟨rfl, v, rfl, ⟨hB, hR, hA⟩, xf_T.rf r v⟩
  refine xj_aload_n C a_T_proposes_0 rfl ?_
  refine xn_g_T_changing C a_T_proposes_1 fl_T_39 ?_
  refine xj_iload_n C a_T_proposes_4 rfl ?_
  refine xn_ld_31 C a_T_proposes_5 (by first | assumption | omega) ?_
  refine xj_topi hR.ch ?_
  refine xj_if_ne C a_T_proposes_6 rfl (fun h6 => ?_) (fun h6 => ?_)
  · rw [xp_nz (by omega)] at h6
    exact no0 (by unfold pg_r8; rw [if_pos (Or.inl (by omega))]) 21 (by omega) _ _
  · rw [xp_nz (by omega)] at h6
    have h6 : pg_ch S.2 = 0 := by simpa using h6
    refine xj_aload_n C a_T_proposes_9 rfl ?_
    refine xn_g_T_view C a_T_proposes_10 fl_T_36 ?_
    refine xj_iload_n C a_T_proposes_13 rfl ?_
    refine xn_ld_30 C a_T_proposes_14 (by first | assumption | omega) ?_
    refine xj_topi hR.vw ?_
    refine xj_iconst (v := nI 4) C a_T_proposes_15 (by decide) ?_
    refine xj_irem C a_T_proposes_16 (by decide) ?_
    refine xj_topi (y := nI (pg_vw S.2 % 4)) (pk_rem (d := 4) (by omega) (by omega) (by omega)) ?_
    refine xj_iload_n C a_T_proposes_17 rfl ?_
    refine xj_icmp_eq C a_T_proposes_18 rfl (fun h18 => ?_) (fun h18 => ?_)
    · rw [nI_eq (by omega) (by omega)] at h18
      have nloop : ∀ (N j : Nat), j ≤ 4 → 4 - j < N → xn_X E G (xj_R E G (xp_tr r v S (pg_r8 r S)) 0 0) 0 0 41 [some (.ref (xj_ad G (21, 0, 0))), some (.int (nI r)), some (.int (nI (xp_nx S.2 j))), some (.int (nI (pg_h S.2 + 1 + j))), none, none] [] v := by
        intro N
        induction N with
        | zero => intro j _ h; omega
        | succ N ih =>
          intro j hj hN2
          have hac := (hN.2.2.2.2.2.2.2 (pg_h S.2 + 1 + j)).1
          refine xj_iload_n C a_T_proposes_41 rfl ?_
          refine xj_aload_n C a_T_proposes_42 rfl ?_
          refine xn_g_T_h C a_T_proposes_43 fl_T_42 ?_
          refine xj_iload_n C a_T_proposes_46 rfl ?_
          refine xn_ld_32 C a_T_proposes_47 (by first | assumption | omega) ?_
          refine xj_topi hR.h ?_
          refine xj_iconst (v := nI 4) C a_T_proposes_48 (by decide) ?_
          refine xj_iaddN C a_T_proposes_49 ?_
          refine xj_icmp_gt C a_T_proposes_50 rfl (fun h50 => ?_) (fun h50 => ?_)
          · rw [nI_ltI (by omega) (by omega)] at h50
            have : j = 4 := by omega
            subst this
            rw [xp_nx_4]
            have hnx4 := hnx 4
            rw [xp_nx_4] at hnx4
            refine xj_iload_n C a_T_proposes_78 rfl ?_
            refine xj_aload_n C a_T_proposes_79 rfl ?_
            refine xn_g_T_h C a_T_proposes_80 fl_T_42 ?_
            refine xj_iload_n C a_T_proposes_83 rfl ?_
            refine xn_ld_32 C a_T_proposes_84 (by first | assumption | omega) ?_
            refine xj_topi hR.h ?_
            refine xj_iconst (v := nI 4) C a_T_proposes_85 (by decide) ?_
            refine xj_iaddN C a_T_proposes_86 ?_
            refine xj_icmp_le C a_T_proposes_87 rfl (fun h87 => ?_) (fun h87 => ?_)
            · rw [nI_leI (by omega) (by omega)] at h87
              obtain ⟨Q, hQ⟩ : ∃ Q : Nat → Bool, Q = fun m => !pg_acd S.2 m && pg_wt S m := ⟨_, rfl⟩
              have mloop : ∀ (N m : Nat) (z4 z5 : Option Value), m ≤ S.1.1 → S.1.1 - m < N → (∀ k, k < m → Q k = false) → xn_X E G (xj_R E G (xp_tr r v S (pg_r8 r S)) 0 0) 0 0 94 [some (.ref (xj_ad G (21, 0, 0))), some (.int (nI r)), some (.int (nI (pg_nxt S.2))), some (.int (nI m)), z4, z5] [] v := by
                intro N
                induction N with
                | zero => intro m z4 z5 _ h; omega
                | succ N ihm =>
                  intro m z4 z5 hm hN3 hprev
                  refine xj_iload_n C a_T_proposes_94 rfl ?_
                  refine xj_aload_n C a_T_proposes_95 rfl ?_
                  refine xn_g_T_count C a_T_proposes_96 fl_T_88 ?_
                  refine xj_topi hB.z ?_
                  refine xj_icmp_ge C a_T_proposes_99 rfl (fun h99 => ?_) (fun h99 => ?_)
                  · rw [nI_leI (by omega) (by omega)] at h99
                    have : m = S.1.1 := by omega
                    subst this
                    have e8 : pg_r8 r S = none := by
                      unfold pg_r8
                      rw [if_neg (by omega)]
                      rw [hQ] at hprev
                      rw [xp_find_none hprev]
                    rw [e8]
                    refine xj_iconst (v := nI 0) C a_T_proposes_221 (by decide) ?_
                    exact xj_zret C a_T_proposes_222 rfl ⟨rfl, v, rfl, ⟨hB, hR, hA⟩, xf_T.rf r v⟩
                  · rw [nI_leI (by omega) (by omega)] at h99
                    have hm2 : m < S.1.1 := by omega
                    have next : Q m = false → ∀ z4 z5 : Option Value, xn_X E G (xj_R E G (xp_tr r v S (pg_r8 r S)) 0 0) 0 0 215 [some (.ref (xj_ad G (21, 0, 0))), some (.int (nI r)), some (.int (nI (pg_nxt S.2))), some (.int (nI m)), z4, z5] [] v := by
                      intro h z4 z5
                      refine xj_iincN3 C a_T_proposes_215 rfl ?_
                      refine xj_goto C a_T_proposes_218 rfl ?_
                      refine ihm (m + 1) _ _ (by omega) (by omega) (fun k hk => ?_)
                      by_cases e : k = m
                      · rw [e]; exact h
                      · exact hprev k (by omega)
                    have tloop : ∀ (M t : Nat), t ≤ 4 → 4 - t < M → xn_X E G (xj_R E G (xp_tr r v S (pg_r8 r S)) 0 0) 0 0 115 [some (.ref (xj_ad G (21, 0, 0))), some (.int (nI r)), some (.int (nI (pg_nxt S.2))), some (.int (nI m)), some (.int (xp_b ((List.range t).any (fun i => pg_ac S.2 (pg_h S.2 + 1 + i) == m + 2)))), some (.int (nI (pg_h S.2 + 1 + t)))] [] v := by
                      intro M
                      induction M with
                      | zero => intro t _ h; omega
                      | succ M iht =>
                        intro t ht hM
                        have hac2 := (hN.2.2.2.2.2.2.2 (pg_h S.2 + 1 + t)).1
                        refine xj_iload C a_T_proposes_115 rfl ?_
                        refine xj_aload_n C a_T_proposes_117 rfl ?_
                        refine xn_g_T_h C a_T_proposes_118 fl_T_42 ?_
                        refine xj_iload_n C a_T_proposes_121 rfl ?_
                        refine xn_ld_32 C a_T_proposes_122 (by first | assumption | omega) ?_
                        refine xj_topi hR.h ?_
                        refine xj_iconst (v := nI 4) C a_T_proposes_123 (by decide) ?_
                        refine xj_iaddN C a_T_proposes_124 ?_
                        refine xj_icmp_gt C a_T_proposes_125 rfl (fun h125 => ?_) (fun h125 => ?_)
                        · rw [nI_ltI (by omega) (by omega)] at h125
                          have : t = 4 := by omega
                          subst this
                          have eacd : (List.range 4).any (fun i => pg_ac S.2 (pg_h S.2 + 1 + i) == m + 2) = pg_acd S.2 m := by
                            rw [Bool.eq_iff_iff, pg_acd_iff, List.any_eq_true]
                            constructor
                            · rintro ⟨i, i1, i2⟩
                              have i1 := List.mem_range.mp i1
                              exact ⟨pg_h S.2 + 1 + i, by omega, by omega, by simpa using i2⟩
                            · rintro ⟨n, n1, n2, n3⟩
                              exact ⟨n - (pg_h S.2 + 1), List.mem_range.mpr (by omega), by rw [show pg_h S.2 + 1 + (n - (pg_h S.2 + 1)) = n by omega, n3]; simp⟩
                          rw [eacd]
                          refine xj_iload C a_T_proposes_165 rfl ?_
                          refine xj_if_ne C a_T_proposes_167 rfl (fun h167 => ?_) (fun h167 => ?_)
                          · rw [xp_b0] at h167
                            have h167 : pg_acd S.2 m = true := by simpa using h167
                            exact next (by rw [hQ]; simp [h167]) _ _
                          · rw [xp_b0] at h167
                            have h167 : pg_acd S.2 m = false := by simpa using h167
                            refine xj_aload_n C a_T_proposes_170 rfl ?_
                            refine xj_iload_n C a_T_proposes_171 rfl ?_
                            refine xj_iload_n C a_T_proposes_172 rfl ?_
                            refine xn_callV2i C a_T_proposes_173 (c_T_waits _ _ v r hr S hB hR m hm2) mv_T_waits lk_T_131 ⟨rfl, rfl, rfl⟩ xj_ok21 ⟨by decide, by decide⟩ rfl (Nat.le_of_ble_eq_true rfl) ⟨Nat.le_refl _, Nat.le_refl _⟩ ?_
                            refine xj_if_ne C a_T_proposes_176 rfl (fun h176 => ?_) (fun h176 => ?_)
                            · rw [xp_b0] at h176
                              have h176 : pg_wt S m = true := by simpa using h176
                              have e8 : pg_r8 r S = some ((pg_own r S 1 (nI (pg_vw S.2)) (lN (pg_nxt S.2)) (nI m)).1, pg_u (pg_own r S 1 (nI (pg_vw S.2)) (lN (pg_nxt S.2)) (nI m)).2 6 (pg_nxt S.2) (m + 2)) := by
                                unfold pg_r8
                                rw [if_neg (by omega)]
                                rw [hQ] at hprev
                                rw [xp_find_some hm2 (by simp [h167, h176]) hprev]
                              rw [e8]
                              refine xj_aload_n C a_T_proposes_182 rfl ?_
                              refine xj_iconst (v := nI 1) C a_T_proposes_183 (by decide) ?_
                              refine xj_iload_n C a_T_proposes_184 rfl ?_
                              refine xj_aload_n C a_T_proposes_185 rfl ?_
                              refine xn_g_T_view C a_T_proposes_186 fl_T_36 ?_
                              refine xj_iload_n C a_T_proposes_189 rfl ?_
                              refine xn_ld_30 C a_T_proposes_190 (by first | assumption | omega) ?_
                              refine xj_topi hR.vw ?_
                              refine xj_iload_n C a_T_proposes_191 rfl ?_
                              refine xj_i2l C a_T_proposes_192 ?_
                              refine xj_topl (nI_l (show pg_nxt S.2 < 2 ^ 31 by omega)) ?_
                              refine xj_iload_n C a_T_proposes_193 rfl ?_
                              refine xn_callV5i C a_T_proposes_194 (c_T_send _ _ v S.1.1 r hB.z hz (by omega) (nI 1) (nI (pg_vw S.2)) (lN (pg_nxt S.2)) (nI m)) mv_T_send lk_T_179 ⟨rfl, rfl, rfl⟩ xj_ok21 ⟨by decide, by decide⟩ rfl (Nat.le_of_ble_eq_true rfl) ⟨Nat.le_refl _, Nat.le_refl _⟩ ?_
                              have hX1 := xt_S.own (r := r) (S := S) (v := v) ⟨hB, hR, hA⟩ hr hz 1 (by decide) (nI (pg_vw S.2)) (lN (pg_nxt S.2)) (nI m)
                              refine xj_pop C a_T_proposes_197 rfl ?_
                              refine xj_aload_n C a_T_proposes_198 rfl ?_
                              refine xn_g_T_accepted C a_T_proposes_199 fl_T_57 ?_
                              refine xj_sipush (v := nI 200) C a_T_proposes_202 (by decide) ?_
                              refine xj_iload_n C a_T_proposes_205 rfl ?_
                              refine xj_imulN C a_T_proposes_206 ?_
                              refine xj_iload_n C a_T_proposes_207 rfl ?_
                              refine xj_iaddN C a_T_proposes_208 ?_
                              refine xj_iload_n C a_T_proposes_209 rfl ?_
                              refine xj_iconst (v := nI 2) C a_T_proposes_210 (by decide) ?_
                              refine xj_iaddN C a_T_proposes_211 ?_
                              refine xn_st_37 C a_T_proposes_212 (by first | assumption | omega) ?_
                              refine xj_iconst (v := nI 1) C a_T_proposes_213 (by decide) ?_
                              exact xj_zret C a_T_proposes_214 rfl ⟨rfl, _, rfl, ⟨hX1.1.uI (by omega), hX1.2.1.uA (t := 6) (K := 37) (by decide) (by omega) rfl, hX1.2.2⟩, ((xf_T.rf r v).ts hz).uI (by omega)⟩
                            · rw [xp_b0] at h176
                              have h176 : pg_wt S m = false := by simpa using h176
                              refine xj_goto C a_T_proposes_179 rfl ?_
                              exact next (by rw [hQ]; simp [h176]) _ _
                        · rw [nI_ltI (by omega) (by omega)] at h125
                          have nxt : ∀ bb, bb = (List.range (t + 1)).any (fun i => pg_ac S.2 (pg_h S.2 + 1 + i) == m + 2) → xn_X E G (xj_R E G (xp_tr r v S (pg_r8 r S)) 0 0) 0 0 157 [some (.ref (xj_ad G (21, 0, 0))), some (.int (nI r)), some (.int (nI (pg_nxt S.2))), some (.int (nI m)), some (.int (xp_b ((List.range t).any (fun i => pg_ac S.2 (pg_h S.2 + 1 + i) == m + 2)))), some (.int (nI (pg_h S.2 + 1 + t)))] [.int (xp_b bb)] v := by
                            intro bb hbb
                            rw [hbb]
                            refine xj_istore4 C a_T_proposes_157 rfl ?_
                            refine xj_iincN5 C a_T_proposes_159 rfl ?_
                            refine xj_goto C a_T_proposes_162 rfl ?_
                            exact iht (t + 1) (by omega) (by omega)
                          refine xj_iload C a_T_proposes_128 rfl ?_
                          refine xj_if_ne C a_T_proposes_130 rfl (fun h130 => ?_) (fun h130 => ?_)
                          · rw [xp_b0] at h130
                            have h130 : (List.range t).any (fun i => pg_ac S.2 (pg_h S.2 + 1 + i) == m + 2) = true := by simpa using h130
                            refine xj_iconst (v := nI 1) C a_T_proposes_152 (by decide) ?_
                            refine xj_goto C a_T_proposes_153 rfl ?_
                            exact nxt true (by rw [xp_any_s, h130]; rfl)
                          · rw [xp_b0] at h130
                            have h130 : (List.range t).any (fun i => pg_ac S.2 (pg_h S.2 + 1 + i) == m + 2) = false := by simpa using h130
                            refine xj_aload_n C a_T_proposes_133 rfl ?_
                            refine xn_g_T_accepted C a_T_proposes_134 fl_T_57 ?_
                            refine xj_sipush (v := nI 200) C a_T_proposes_137 (by decide) ?_
                            refine xj_iload_n C a_T_proposes_140 rfl ?_
                            refine xj_imulN C a_T_proposes_141 ?_
                            refine xj_iload C a_T_proposes_142 rfl ?_
                            refine xj_iaddN C a_T_proposes_144 ?_
                            refine xn_ld_37 C a_T_proposes_145 (by first | assumption | omega) ?_
                            refine xj_topi (hR.ac (show pg_h S.2 + 1 + t < 200 by omega)) ?_
                            refine xj_iload_n C a_T_proposes_146 rfl ?_
                            refine xj_iconst (v := nI 2) C a_T_proposes_147 (by decide) ?_
                            refine xj_iaddN C a_T_proposes_148 ?_
                            refine xj_icmp_ne C a_T_proposes_149 rfl (fun h149 => ?_) (fun h149 => ?_)
                            · rw [nI_eq (by omega) (by omega)] at h149
                              refine xj_iconst (v := nI 0) C a_T_proposes_156 (by decide) ?_
                              exact nxt false (by rw [xp_any_s, h130]; simp [h149])
                            · rw [nI_eq (by omega) (by omega)] at h149
                              have h149 : pg_ac S.2 (pg_h S.2 + 1 + t) = m + 2 := by simpa using h149
                              refine xj_iconst (v := nI 1) C a_T_proposes_152 (by decide) ?_
                              refine xj_goto C a_T_proposes_153 rfl ?_
                              exact nxt true (by rw [xp_any_s, h130]; simp [h149])
                    refine xj_iconst (v := nI 0) C a_T_proposes_102 (by decide) ?_
                    refine xj_istore4 C a_T_proposes_103 rfl ?_
                    refine xj_aload_n C a_T_proposes_105 rfl ?_
                    refine xn_g_T_h C a_T_proposes_106 fl_T_42 ?_
                    refine xj_iload_n C a_T_proposes_109 rfl ?_
                    refine xn_ld_32 C a_T_proposes_110 (by first | assumption | omega) ?_
                    refine xj_topi hR.h ?_
                    refine xj_iconst (v := nI 1) C a_T_proposes_111 (by decide) ?_
                    refine xj_iaddN C a_T_proposes_112 ?_
                    refine xj_istore5 C a_T_proposes_113 rfl ?_
                    exact tloop 5 0 (by omega) (by omega)
              refine xj_iconst (v := nI 0) C a_T_proposes_92 (by decide) ?_
              refine xj_istore3 C a_T_proposes_93 rfl ?_
              exact mloop (S.1.1 + 1) 0 none none (by omega) (by omega) (fun k hk => absurd hk (Nat.not_lt_zero k))
            · rw [nI_leI (by omega) (by omega)] at h87
              exact no0 (by unfold pg_r8; rw [if_pos (Or.inr (Or.inr (by omega)))]) 90 (by omega) _ _
          · rw [nI_ltI (by omega) (by omega)] at h50
            have hnxj := hnx j
            have go : ∀ a, a = xp_nx S.2 (j + 1) → xn_X E G (xj_R E G (xp_tr r v S (pg_r8 r S)) 0 0) 0 0 72 [some (.ref (xj_ad G (21, 0, 0))), some (.int (nI r)), some (.int (nI a)), some (.int (nI (pg_h S.2 + 1 + j))), none, none] [] v := by
              intro a ea
              rw [ea]
              refine xj_iincN3 C a_T_proposes_72 rfl ?_
              refine xj_goto C a_T_proposes_75 rfl ?_
              exact ih (j + 1) (by omega) (by omega)
            refine xj_aload_n C a_T_proposes_53 rfl ?_
            refine xn_g_T_accepted C a_T_proposes_54 fl_T_57 ?_
            refine xj_sipush (v := nI 200) C a_T_proposes_57 (by decide) ?_
            refine xj_iload_n C a_T_proposes_60 rfl ?_
            refine xj_imulN C a_T_proposes_61 ?_
            refine xj_iload_n C a_T_proposes_62 rfl ?_
            refine xj_iaddN C a_T_proposes_63 ?_
            refine xn_ld_37 C a_T_proposes_64 (by first | assumption | omega) ?_
            refine xj_topi (hR.ac (show pg_h S.2 + 1 + j < 200 by omega)) ?_
            refine xj_if_eq C a_T_proposes_65 rfl (fun h65 => ?_) (fun h65 => ?_)
            · rw [xp_nz (by omega)] at h65
              refine go _ ?_
              show _ = if pg_ac S.2 (pg_h S.2 + 1 + j) = 0 then xp_nx S.2 j else pg_h S.2 + 1 + j + 1
              rw [if_pos h65]
            · rw [xp_nz (by omega)] at h65
              refine xj_iload_n C a_T_proposes_68 rfl ?_
              refine xj_iconst (v := nI 1) C a_T_proposes_69 (by decide) ?_
              refine xj_iaddN C a_T_proposes_70 ?_
              refine xj_istore2 C a_T_proposes_71 rfl ?_
              refine go _ ?_
              show _ = if pg_ac S.2 (pg_h S.2 + 1 + j) = 0 then xp_nx S.2 j else pg_h S.2 + 1 + j + 1
              rw [if_neg h65]
      refine xj_aload_n C a_T_proposes_23 rfl ?_
      refine xn_g_T_h C a_T_proposes_24 fl_T_42 ?_
      refine xj_iload_n C a_T_proposes_27 rfl ?_
      refine xn_ld_32 C a_T_proposes_28 (by first | assumption | omega) ?_
      refine xj_topi hR.h ?_
      refine xj_iconst (v := nI 1) C a_T_proposes_29 (by decide) ?_
      refine xj_iaddN C a_T_proposes_30 ?_
      refine xj_istore2 C a_T_proposes_31 rfl ?_
      refine xj_aload_n C a_T_proposes_32 rfl ?_
      refine xn_g_T_h C a_T_proposes_33 fl_T_42 ?_
      refine xj_iload_n C a_T_proposes_36 rfl ?_
      refine xn_ld_32 C a_T_proposes_37 (by first | assumption | omega) ?_
      refine xj_topi hR.h ?_
      refine xj_iconst (v := nI 1) C a_T_proposes_38 (by decide) ?_
      refine xj_iaddN C a_T_proposes_39 ?_
      refine xj_istore3 C a_T_proposes_40 rfl ?_
      exact nloop 5 0 (by omega) (by omega)
    · rw [nI_eq (by omega) (by omega)] at h18
      exact no0 (by unfold pg_r8; rw [if_pos (Or.inr (Or.inl h18))]) 21 (by omega) _ _
