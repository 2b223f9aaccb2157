/-! the reference: what a replica takes -/
theorem c_T_takes (l : Launch) (G : xj_G) (v : xn_V) (F r : Nat) (hr : r < 4) (S : pg_S) (hS : xt_S r S v) (h0 : pg_in F r S) (hz : S.1.1 ≤ 196) (m : Nat) (hm : m < S.1.1) : xj_Mx l G 4 111 0 0 m_T_takes [.ref (xj_ad G (21, 0, 0)), .int (nI m), .int (nI r)] (xn_W v) (xp_tr r v S (pg_takes r S m)) := by
  have hX := hS
  obtain ⟨hB, hR, hA⟩ := hS
  have hN := h0.1.num (by omega)
  have hsm := h0.sm (by omega)
  have hvw := hN.1
  have hch := hN.2.1
  have hwm := hB.2.2.1 m hm
  have hvcu : pg_vcu r S := h0.1.1.2.2.2.2.2.1
  refine xj_Mx_of (by decide) (Nat.le_of_ble_eq_true rfl) (fun E hE C _ => ?_)
  subst hE
  replace C : xj_C E G prog_9_method_20_code "ThreePhaseGroupModel" 8 4 111 0 0 (some .boolean) := C
  show xn_X E G _ 0 0 0 [some (.ref (xj_ad G (21, 0, 0))), some (.int (nI m)), some (.int (nI r)), none, none, none, none, none] [] v
  refine xj_aload_n C a_T_takes_0 rfl ?_
  refine xn_g_T_from C a_T_takes_1 fl_T_13 ?_
  refine xj_iload_n C a_T_takes_4 rfl ?_
  refine xn_ld_23 C a_T_takes_5 (by first | assumption | omega) ?_
  refine xj_topi (hB.f hm) ?_
  refine xj_istore3 C a_T_takes_6 rfl ?_
  refine xj_iload_n C a_T_takes_7 rfl ?_
  refine xj_iload_n C a_T_takes_8 rfl ?_
  refine xj_icmp_ne C a_T_takes_9 rfl (fun h9 => ?_) (fun h9 => ?_)
  · rw [nI_eq (by omega) (by omega)] at h9
    have ft : ∀ k o, pg_k S.1 m = k → (match k with | 0 => pg_tReq S m | 1 => if pg_same S m && pg_f S.1 m == pg_vw S.2 % 4 then pg_tOrd S m else none | 2 => if pg_same S m && (pg_f S.1 m != pg_vw S.2 % 4 && !pg_nts S 2 (pg_f S.1 m) (pg_a S.1 m) (pg_b S.1 m)) then some (S.1, pg_u S.2 9 m 1) else none | 3 => if pg_same S m && !pg_nts S 3 (pg_f S.1 m) (pg_a S.1 m) (pg_b S.1 m) then some (S.1, pg_u S.2 9 m 1) else none | 5 => if pg_later S m && pg_gc S.1 m then pg_tChg S m else none | 6 => if pg_later S m && (decide ((pg_a S.1 m).toInt.toNat % 4 = pg_f S.1 m) && pg_gn S.1 m) then some (S.1, pg_ent S m) else none | 7 => if decide ((pg_a S.1 m).toInt % 2 = 0) && (decide (nI (pg_h S.2) < pg_a S.1 m) && !pg_nts S 7 (pg_f S.1 m) (pg_a S.1 m) 0) then some (S.1, pg_u S.2 9 m 1) else none | _ => none) = o → pg_takes r S m = o := by
      intro k o hk ho
      unfold pg_takes
      rw [if_neg h9, hk]
      exact ho
    -- the marks: same, later, primary
    have rest : xn_X E G (xj_R E G (xp_tr r v S (pg_takes r S m)) 0 0) 0 0 124 [some (.ref (xj_ad G (21, 0, 0))), some (.int (nI m)), some (.int (nI r)), some (.int (nI (pg_f S.1 m))), some (.int (xp_b (pg_same S m))), some (.int (xp_b (pg_later S m))), some (.int (xp_b (pg_f S.1 m == pg_vw S.2 % 4))), none] [] v := by
      have note : pg_takes r S m = some (S.1, pg_u S.2 9 m 1) → xn_X E G (xj_R E G (xp_tr r v S (pg_takes r S m)) 0 0) 0 0 403 [some (.ref (xj_ad G (21, 0, 0))), some (.int (nI m)), some (.int (nI r)), some (.int (nI (pg_f S.1 m))), some (.int (xp_b (pg_same S m))), some (.int (xp_b (pg_later S m))), some (.int (xp_b (pg_f S.1 m == pg_vw S.2 % 4))), some (.int (nI 1))] [] v := by
        intro h
        rw [h]
        refine xj_iload C a_T_takes_403 rfl ?_
        refine xj_if_eq C a_T_takes_405 rfl (fun h => absurd h (by decide)) (fun _ => ?_)
        refine xj_aload_n C a_T_takes_408 rfl ?_
        refine xn_g_T_noted C a_T_takes_409 fl_T_30 ?_
        refine xj_sipush (v := nI 200) C a_T_takes_412 (by decide) ?_
        refine xj_iload_n C a_T_takes_415 rfl ?_
        refine xj_imulN C a_T_takes_416 ?_
        refine xj_iload_n C a_T_takes_417 rfl ?_
        refine xj_iaddN C a_T_takes_418 ?_
        refine xj_iconst (v := nI 1) C a_T_takes_419 (by decide) ?_
        refine xn_st_28 C a_T_takes_420 (by first | assumption | omega) (by first | assumption | decide) ?_
        refine xj_iload C a_T_takes_421 rfl ?_
        exact xj_zret C a_T_takes_423 rfl ⟨rfl, _, rfl, ⟨hB.uI (by omega), hR.uA (t := 9) (K := 28) (by decide) (by omega) rfl, hA⟩, (xf_T.rf r v).uI (by omega)⟩
      have none' : pg_takes r S m = none → xn_X E G (xj_R E G (xp_tr r v S (pg_takes r S m)) 0 0) 0 0 403 [some (.ref (xj_ad G (21, 0, 0))), some (.int (nI m)), some (.int (nI r)), some (.int (nI (pg_f S.1 m))), some (.int (xp_b (pg_same S m))), some (.int (xp_b (pg_later S m))), some (.int (xp_b (pg_f S.1 m == pg_vw S.2 % 4))), some (.int (nI 0))] [] v := by
        intro h
        rw [h]
        refine xj_iload C a_T_takes_403 rfl ?_
        refine xj_if_eq C a_T_takes_405 rfl (fun _ => ?_) (fun h => absurd rfl h)
        refine xj_iload C a_T_takes_421 rfl ?_
        exact xj_zret C a_T_takes_423 rfl ⟨rfl, v, rfl, hX, xf_T.rf r v⟩
      have same : pg_same S m = true → ∃ n, n < 200 ∧ pg_b S.1 m = lN n := by
        intro g
        unfold pg_same at g
        simp only [Bool.and_eq_true, beq_iff_eq] at g
        obtain ⟨n, n1, n2, n3⟩ := pg_win_n hN g.2.2
        exact ⟨n, by omega, n1⟩
      refine xj_iconst (v := nI 0) C a_T_takes_124 (by decide) ?_
      refine xj_istore7 C a_T_takes_125 rfl ?_
      refine xj_aload_n C a_T_takes_127 rfl ?_
      refine xn_g_T_kind C a_T_takes_128 fl_T_7 ?_
      refine xj_iload_n C a_T_takes_131 rfl ?_
      refine xn_ld_22 C a_T_takes_132 (by first | assumption | omega) ?_
      refine xj_topi (hB.k hm) ?_
      refine xj_if_ne C a_T_takes_133 rfl (fun h133 => ?_) (fun h133 => ?_)
      · -- not 0
        rw [xp_nz (by omega)] at h133
        refine xj_aload_n C a_T_takes_143 rfl ?_
        refine xn_g_T_kind C a_T_takes_144 fl_T_7 ?_
        refine xj_iload_n C a_T_takes_147 rfl ?_
        refine xn_ld_22 C a_T_takes_148 (by first | assumption | omega) ?_
        refine xj_topi (hB.k hm) ?_
        refine xj_iconst (v := nI 1) C a_T_takes_149 (by decide) ?_
        refine xj_icmp_ne C a_T_takes_150 rfl (fun h150 => ?_) (fun h150 => ?_)
        · rw [nI_eq (by omega) (by omega)] at h150
          -- from 252, the mark 7 is set or not
          have later : ∀ b7 : Bool, (pg_k S.1 m = 2 ∨ pg_k S.1 m = 3 → pg_takes r S m = if b7 then some (S.1, pg_u S.2 9 m 1) else none) → (¬ (pg_k S.1 m = 2 ∨ pg_k S.1 m = 3) → b7 = false) → xn_X E G (xj_R E G (xp_tr r v S (pg_takes r S m)) 0 0) 0 0 252 [some (.ref (xj_ad G (21, 0, 0))), some (.int (nI m)), some (.int (nI r)), some (.int (nI (pg_f S.1 m))), some (.int (xp_b (pg_same S m))), some (.int (xp_b (pg_later S m))), some (.int (xp_b (pg_f S.1 m == pg_vw S.2 % 4))), some (.int (xp_b b7))] [] v := by
            intro b7 h23 hn23
            refine xj_aload_n C a_T_takes_252 rfl ?_
            refine xn_g_T_kind C a_T_takes_253 fl_T_7 ?_
            refine xj_iload_n C a_T_takes_256 rfl ?_
            refine xn_ld_22 C a_T_takes_257 (by first | assumption | omega) ?_
            refine xj_topi (hB.k hm) ?_
            refine xj_iconst (v := nI 5) C a_T_takes_258 (by decide) ?_
            refine xj_icmp_ne C a_T_takes_259 rfl (fun h259 => ?_) (fun h259 => ?_)
            · rw [nI_eq (by omega) (by omega)] at h259
              refine xj_aload_n C a_T_takes_290 rfl ?_
              refine xn_g_T_kind C a_T_takes_291 fl_T_7 ?_
              refine xj_iload_n C a_T_takes_294 rfl ?_
              refine xn_ld_22 C a_T_takes_295 (by first | assumption | omega) ?_
              refine xj_topi (hB.k hm) ?_
              refine xj_bipush (v := nI 6) C a_T_takes_296 (by decide) ?_
              refine xj_icmp_ne C a_T_takes_298 rfl (fun h298 => ?_) (fun h298 => ?_)
              · rw [nI_eq (by omega) (by omega)] at h298
                refine xj_aload_n C a_T_takes_341 rfl ?_
                refine xn_g_T_kind C a_T_takes_342 fl_T_7 ?_
                refine xj_iload_n C a_T_takes_345 rfl ?_
                refine xn_ld_22 C a_T_takes_346 (by first | assumption | omega) ?_
                refine xj_topi (hB.k hm) ?_
                refine xj_bipush (v := nI 7) C a_T_takes_347 (by decide) ?_
                refine xj_icmp_ne C a_T_takes_349 rfl (fun h349 => ?_) (fun h349 => ?_)
                · rw [nI_eq (by omega) (by omega)] at h349
                  by_cases hk : pg_k S.1 m = 2 ∨ pg_k S.1 m = 3
                  · have := h23 hk
                    cases b7
                    · exact none' this
                    · exact note this
                  · rw [hn23 hk]
                    refine none' (ft 4 _ (by omega) rfl)
                · rw [nI_eq (by omega) (by omega)] at h349
                  have h349 : pg_k S.1 m = 7 := by simpa using h349
                  have e7 : pg_takes r S m = if decide ((pg_a S.1 m).toInt % 2 = 0) && (decide (nI (pg_h S.2) < pg_a S.1 m) && !pg_nts S 7 (pg_f S.1 m) (pg_a S.1 m) 0) then some (S.1, pg_u S.2 9 m 1) else none := ft 7 _ h349 rfl
                  have skip : ¬ ((pg_a S.1 m).toInt % 2 = 0 ∧ nI (pg_h S.2) < pg_a S.1 m ∧ pg_nts S 7 (pg_f S.1 m) (pg_a S.1 m) 0 = false) → ∀ z7 : Int32, xn_X E G (xj_R E G (xp_tr r v S (pg_takes r S m)) 0 0) 0 0 400 [some (.ref (xj_ad G (21, 0, 0))), some (.int (nI m)), some (.int (nI r)), some (.int (nI (pg_f S.1 m))), some (.int (xp_b (pg_same S m))), some (.int (xp_b (pg_later S m))), some (.int (xp_b (pg_f S.1 m == pg_vw S.2 % 4))), some (.int z7)] [] v := by
                    intro h z7
                    refine xj_iconst (v := nI 0) C a_T_takes_400 (by decide) ?_
                    refine xj_istore7 C a_T_takes_401 rfl ?_
                    refine none' ?_
                    rw [e7, if_neg]
                    intro g
                    simp only [Bool.and_eq_true, decide_eq_true_eq, Bool.not_eq_true'] at g
                    exact h g
                  refine xj_aload_n C a_T_takes_352 rfl ?_
                  refine xn_g_T_a C a_T_takes_353 fl_T_16 ?_
                  refine xj_iload_n C a_T_takes_356 rfl ?_
                  refine xn_ld_24 C a_T_takes_357 (by first | assumption | omega) ?_
                  refine xj_topi (hB.a hm) ?_
                  refine xj_iconst (v := nI 2) C a_T_takes_358 (by decide) ?_
                  refine xj_irem C a_T_takes_359 (by decide) ?_
                  refine xj_if_ne C a_T_takes_360 rfl (fun h360 => ?_) (fun h360 => ?_)
                  · rw [xp_even] at h360
                    exact skip (fun h => h360 h.1) _
                  · rw [xp_even] at h360
                    have h360 : (pg_a S.1 m).toInt % 2 = 0 := by simpa using h360
                    refine xj_aload_n C a_T_takes_363 rfl ?_
                    refine xn_g_T_a C a_T_takes_364 fl_T_16 ?_
                    refine xj_iload_n C a_T_takes_367 rfl ?_
                    refine xn_ld_24 C a_T_takes_368 (by first | assumption | omega) ?_
                    refine xj_topi (hB.a hm) ?_
                    refine xj_aload_n C a_T_takes_369 rfl ?_
                    refine xn_g_T_h C a_T_takes_370 fl_T_42 ?_
                    refine xj_iload_n C a_T_takes_373 rfl ?_
                    refine xn_ld_32 C a_T_takes_374 (by first | assumption | omega) ?_
                    refine xj_topi (hR.h) ?_
                    refine xj_icmp_le C a_T_takes_375 rfl (fun h375 => ?_) (fun h375 => ?_)
                    · exact skip (fun h => Int32.not_lt.mpr h375 h.2.1) _
                    · refine xj_aload_n C a_T_takes_378 rfl ?_
                      refine xj_iload_n C a_T_takes_379 rfl ?_
                      refine xj_bipush (v := nI 7) C a_T_takes_380 (by decide) ?_
                      refine xj_iload_n C a_T_takes_382 rfl ?_
                      refine xj_aload_n C a_T_takes_383 rfl ?_
                      refine xn_g_T_a C a_T_takes_384 fl_T_16 ?_
                      refine xj_iload_n C a_T_takes_387 rfl ?_
                      refine xn_ld_24 C a_T_takes_388 (by first | assumption | omega) ?_
                      refine xj_topi (hB.a hm) ?_
                      refine xj_lconst (v := lN 0) C a_T_takes_389 (by decide) ?_
                      refine xn_callV5i C a_T_takes_390 (c_T_notes _ _ v r hr S hB hR 7 (pg_f S.1 m) (by omega) (by omega) (pg_a S.1 m) (lN 0)) mv_T_notes lk_T_159 ⟨rfl, rfl, rfl⟩ xj_ok21 ⟨by decide, by decide⟩ rfl (Nat.le_of_ble_eq_true rfl) ⟨Nat.le_refl _, Nat.le_refl _⟩ ?_
                      refine xj_if_ne C a_T_takes_393 rfl (fun h393 => ?_) (fun h393 => ?_)
                      · rw [xp_b0] at h393
                        exact skip (fun h => h393 h.2.2) _
                      · rw [xp_b0] at h393
                        have h393 : pg_nts S 7 (pg_f S.1 m) (pg_a S.1 m) (lN 0) = false := by simpa using h393
                        refine xj_iconst (v := nI 1) C a_T_takes_396 (by decide) ?_
                        refine xj_goto C a_T_takes_397 rfl ?_
                        refine xj_istore7 C a_T_takes_401 rfl ?_
                        refine note ?_
                        rw [e7, if_pos]
                        simp only [Bool.and_eq_true, decide_eq_true_eq, Bool.not_eq_true']
                        exact ⟨h360, Int32.not_le.mp h375, h393⟩
              · rw [nI_eq (by omega) (by omega)] at h298
                have h298 : pg_k S.1 m = 6 := by simpa using h298
                have e6 : pg_takes r S m = if pg_later S m && (decide ((pg_a S.1 m).toInt.toNat % 4 = pg_f S.1 m) && pg_gn S.1 m) then some (S.1, pg_ent S m) else none := ft 6 _ h298 rfl
                have no : pg_takes r S m = none → xn_X E G (xj_R E G (xp_tr r v S (pg_takes r S m)) 0 0) 0 0 339 [some (.ref (xj_ad G (21, 0, 0))), some (.int (nI m)), some (.int (nI r)), some (.int (nI (pg_f S.1 m))), some (.int (xp_b (pg_same S m))), some (.int (xp_b (pg_later S m))), some (.int (xp_b (pg_f S.1 m == pg_vw S.2 % 4))), some (.int (xp_b b7))] [] v := by
                  intro h
                  rw [h]
                  refine xj_iconst (v := nI 0) C a_T_takes_339 (by decide) ?_
                  exact xj_zret C a_T_takes_340 rfl ⟨rfl, v, rfl, hX, xf_T.rf r v⟩
                refine xj_iload C a_T_takes_301 rfl ?_
                refine xj_if_eq C a_T_takes_303 rfl (fun h303 => ?_) (fun h303 => ?_)
                · rw [xp_b0] at h303
                  exact no (by rw [e6, h303]; rfl)
                · rw [xp_b0] at h303
                  have h303 : pg_later S m = true := by simpa using h303
                  have hvw2 : ∃ w, w < 2 ^ 31 ∧ pg_a S.1 m = nI w := by
                    unfold pg_later at h303
                    simp only [Bool.or_eq_true, Bool.and_eq_true, decide_eq_true_eq, beq_iff_eq] at h303
                    have hge : ¬ pg_a S.1 m < 0 := by
                      rcases h303 with g | g
                      · rw [Int32.lt_iff_toInt_lt, nI_toInt (by omega)] at g
                        intro g2
                        rw [Int32.lt_iff_toInt_lt, Int32.toInt_zero] at g2
                        omega
                      · rw [g.1]; exact nI_pos (by omega)
                    exact nI_of hge
                  obtain ⟨w, w1, w2⟩ := hvw2
                  have ew : (pg_a S.1 m).toInt.toNat = w := by rw [w2, xp_nat w1]
                  refine xj_iload_n C a_T_takes_306 rfl ?_
                  refine xj_aload_n C a_T_takes_307 rfl ?_
                  refine xn_g_T_a C a_T_takes_308 fl_T_16 ?_
                  refine xj_iload_n C a_T_takes_311 rfl ?_
                  refine xn_ld_24 C a_T_takes_312 (by first | assumption | omega) ?_
                  refine xj_topi (hB.a hm) ?_
                  refine xj_iconst (v := nI 4) C a_T_takes_313 (by decide) ?_
                  refine xj_irem C a_T_takes_314 (by decide) ?_
                  refine xj_topi (y := nI (w % 4)) (by rw [w2]; exact pk_rem (d := 4) w1 (by omega) (by omega)) ?_
                  refine xj_icmp_ne C a_T_takes_315 rfl (fun h315 => ?_) (fun h315 => ?_)
                  · rw [nI_eq (by omega) (by omega)] at h315
                    refine no ?_
                    rw [e6, ew, decide_eq_false (fun g => h315 g.symm)]
                    simp
                  · rw [nI_eq (by omega) (by omega)] at h315
                    have h315 : pg_f S.1 m = w % 4 := by simpa using h315
                    have hcp : ∀ x, x < S.1.1 → pg_gc S.1 x = true → ∃ p, p < 390 ∧ pg_b S.1 x = lN p := by
                      intro x hx hg
                      rcases pg_gc_b hg with g | g
                      · exact ⟨0, by decide, g⟩
                      · obtain ⟨p, p1, p2, p3⟩ := h0.2.cert (by omega) (Nat.le_of_lt hx) g
                        exact ⟨p, by omega, p1⟩
                    refine xj_aload_n C a_T_takes_318 rfl ?_
                    refine xj_iload_n C a_T_takes_319 rfl ?_
                    refine xn_callV1i C a_T_takes_320 (c_T_goodNew _ _ v S.1 hB hcp m hm) mv_T_goodNew lk_T_166 ⟨rfl, rfl, rfl⟩ xj_ok21 ⟨by decide, by decide⟩ rfl (Nat.le_of_ble_eq_true rfl) ⟨Nat.le_refl _, Nat.le_refl _⟩ ?_
                    refine xj_if_eq C a_T_takes_323 rfl (fun h323 => ?_) (fun h323 => ?_)
                    · rw [xp_b0] at h323
                      exact no (by rw [e6, h323]; simp)
                    · rw [xp_b0] at h323
                      have h323 : pg_gn S.1 m = true := by simpa using h323
                      have heok := h0.1.eok h0.2 (by omega) hm h323 h303
                      obtain ⟨w', w3, w4, w5⟩ := pg_gn_a h323
                      have e : pg_takes r S m = some (S.1, pg_ent S m) := by
                        rw [e6, h303, h323, ew, decide_eq_true h315.symm]; rfl
                      rw [e]
                      refine xj_aload_n C a_T_takes_326 rfl ?_
                      refine xj_iload_n C a_T_takes_327 rfl ?_
                      refine xj_iload_n C a_T_takes_328 rfl ?_
                      refine xj_callV2 C a_T_takes_329 (c_T_enters _ _ v r hr S hX (by omega) (by omega) m hm w' w4 w5 heok (h0.stm (by omega) hm h323)) mv_T_enters lk_T_169 ⟨rfl, rfl, rfl⟩ xj_ok21 ⟨by decide, by decide⟩ rfl (Nat.le_of_ble_eq_true rfl) ⟨Nat.le_refl _, Nat.le_refl _⟩ (fun a' w' hres => ?_)
                      obtain ⟨rfl, v2, rfl, hX2, hf2⟩ := hres
                      refine xj_if_eq C a_T_takes_332 rfl (fun h => absurd h (show ¬ xp_b true = 0 by decide)) (fun _ => ?_)
                      refine xj_iconst (v := nI 1) C a_T_takes_335 (by decide) ?_
                      refine xj_goto C a_T_takes_336 rfl ?_
                      exact xj_zret C a_T_takes_340 rfl ⟨rfl, v2, rfl, hX2, hf2⟩
            · rw [nI_eq (by omega) (by omega)] at h259
              have h259 : pg_k S.1 m = 5 := by simpa using h259
              have e5 : pg_takes r S m = if pg_later S m && pg_gc S.1 m then pg_tChg S m else none := ft 5 _ h259 rfl
              have no : ∀ v2, xt_S r S v2 → xf_T r v v2 → pg_takes r S m = none → xn_X E G (xj_R E G (xp_tr r v S (pg_takes r S m)) 0 0) 0 0 288 [some (.ref (xj_ad G (21, 0, 0))), some (.int (nI m)), some (.int (nI r)), some (.int (nI (pg_f S.1 m))), some (.int (xp_b (pg_same S m))), some (.int (xp_b (pg_later S m))), some (.int (xp_b (pg_f S.1 m == pg_vw S.2 % 4))), some (.int (xp_b b7))] [] v2 := by
                intro v2 hX2 hf2 h
                rw [h]
                refine xj_iconst (v := nI 0) C a_T_takes_288 (by decide) ?_
                exact xj_zret C a_T_takes_289 rfl ⟨rfl, v2, rfl, hX2, hf2⟩
              refine xj_iload C a_T_takes_262 rfl ?_
              refine xj_if_eq C a_T_takes_264 rfl (fun h264 => ?_) (fun h264 => ?_)
              · rw [xp_b0] at h264
                exact no v hX (xf_T.rf r v) (by rw [e5, h264]; rfl)
              · rw [xp_b0] at h264
                have h264 : pg_later S m = true := by simpa using h264
                refine xj_aload_n C a_T_takes_267 rfl ?_
                refine xj_iload_n C a_T_takes_268 rfl ?_
                refine xn_callV1i C a_T_takes_269 (c_T_goodChange _ _ v S.1 hB m hm) mv_T_goodChange lk_T_115 ⟨rfl, rfl, rfl⟩ xj_ok21 ⟨by decide, by decide⟩ rfl (Nat.le_of_ble_eq_true rfl) ⟨Nat.le_refl _, Nat.le_refl _⟩ ?_
                refine xj_if_eq C a_T_takes_272 rfl (fun h272 => ?_) (fun h272 => ?_)
                · rw [xp_b0] at h272
                  exact no v hX (xf_T.rf r v) (by rw [e5, h272]; simp)
                · rw [xp_b0] at h272
                  have h272 : pg_gc S.1 m = true := by simpa using h272
                  have e : pg_takes r S m = pg_tChg S m := by rw [e5, h264, h272]; rfl
                  refine xj_aload_n C a_T_takes_275 rfl ?_
                  refine xj_iload_n C a_T_takes_276 rfl ?_
                  refine xj_iload_n C a_T_takes_277 rfl ?_
                  refine xj_callV2 C a_T_takes_278 (c_T_takesChange _ _ v r hr S hX hvcu m hm h9) mv_T_takesChange lk_T_163 ⟨rfl, rfl, rfl⟩ xj_ok21 ⟨by decide, by decide⟩ rfl (Nat.le_of_ble_eq_true rfl) ⟨Nat.le_refl _, Nat.le_refl _⟩ (fun a' w' hres => ?_)
                  obtain ⟨rfl, v2, rfl, hX2, hf2⟩ := hres
                  cases q : pg_tChg S m with
                  | none =>
                    rw [q] at hX2
                    refine xj_if_eq C a_T_takes_281 rfl (fun _ => ?_) (fun h => absurd rfl h)
                    exact no v2 hX2 hf2 (by rw [e, q])
                  | some S' =>
                    rw [q] at hX2
                    rw [e, q]
                    refine xj_if_eq C a_T_takes_281 rfl (fun h => absurd h (show ¬ xp_b true = 0 by decide)) (fun _ => ?_)
                    refine xj_iconst (v := nI 1) C a_T_takes_284 (by decide) ?_
                    refine xj_goto C a_T_takes_285 rfl ?_
                    exact xj_zret C a_T_takes_289 rfl ⟨rfl, v2, rfl, hX2, hf2⟩
          have not23 : ¬ pg_k S.1 m = 2 → ¬ pg_k S.1 m = 3 → xn_X E G (xj_R E G (xp_tr r v S (pg_takes r S m)) 0 0) 0 0 252 [some (.ref (xj_ad G (21, 0, 0))), some (.int (nI m)), some (.int (nI r)), some (.int (nI (pg_f S.1 m))), some (.int (xp_b (pg_same S m))), some (.int (xp_b (pg_later S m))), some (.int (xp_b (pg_f S.1 m == pg_vw S.2 % 4))), some (.int (nI 0))] [] v := fun g2 g3 => later false (fun g => by omega) (fun _ => rfl)
          have is23 : (pg_k S.1 m = 2 ∨ pg_k S.1 m = 3) → xn_X E G (xj_R E G (xp_tr r v S (pg_takes r S m)) 0 0) 0 0 198 [some (.ref (xj_ad G (21, 0, 0))), some (.int (nI m)), some (.int (nI r)), some (.int (nI (pg_f S.1 m))), some (.int (xp_b (pg_same S m))), some (.int (xp_b (pg_later S m))), some (.int (xp_b (pg_f S.1 m == pg_vw S.2 % 4))), some (.int (nI 0))] [] v := by
            intro hk
            have et : pg_takes r S m = if pg_same S m && ((pg_k S.1 m == 3 || pg_f S.1 m != pg_vw S.2 % 4) && !pg_nts S (pg_k S.1 m) (pg_f S.1 m) (pg_a S.1 m) (pg_b S.1 m)) then some (S.1, pg_u S.2 9 m 1) else none := by
              rcases hk with hk | hk
              · rw [ft 2 _ hk rfl, hk]; simp
              · rw [ft 3 _ hk rfl, hk]; simp
            have no : (pg_same S m && ((pg_k S.1 m == 3 || pg_f S.1 m != pg_vw S.2 % 4) && !pg_nts S (pg_k S.1 m) (pg_f S.1 m) (pg_a S.1 m) (pg_b S.1 m))) = false → xn_X E G (xj_R E G (xp_tr r v S (pg_takes r S m)) 0 0) 0 0 249 [some (.ref (xj_ad G (21, 0, 0))), some (.int (nI m)), some (.int (nI r)), some (.int (nI (pg_f S.1 m))), some (.int (xp_b (pg_same S m))), some (.int (xp_b (pg_later S m))), some (.int (xp_b (pg_f S.1 m == pg_vw S.2 % 4))), some (.int (nI 0))] [] v := by
              intro h
              refine xj_iconst (v := nI 0) C a_T_takes_249 (by decide) ?_
              refine xj_istore7 C a_T_takes_250 rfl ?_
              exact later false (fun _ => by rw [et, h]) (fun _ => rfl)
            refine xj_iload C a_T_takes_198 rfl ?_
            refine xj_if_eq C a_T_takes_200 rfl (fun h200 => ?_) (fun h200 => ?_)
            · rw [xp_b0] at h200
              exact no (by rw [h200]; rfl)
            · rw [xp_b0] at h200
              have h200 : pg_same S m = true := by simpa using h200
              have ask : (pg_k S.1 m == 3 || pg_f S.1 m != pg_vw S.2 % 4) = true → xn_X E G (xj_R E G (xp_tr r v S (pg_takes r S m)) 0 0) 0 0 218 [some (.ref (xj_ad G (21, 0, 0))), some (.int (nI m)), some (.int (nI r)), some (.int (nI (pg_f S.1 m))), some (.int (xp_b (pg_same S m))), some (.int (xp_b (pg_later S m))), some (.int (xp_b (pg_f S.1 m == pg_vw S.2 % 4))), some (.int (nI 0))] [] v := by
                intro hp
                refine xj_aload_n C a_T_takes_218 rfl ?_
                refine xj_iload_n C a_T_takes_219 rfl ?_
                refine xj_aload_n C a_T_takes_220 rfl ?_
                refine xn_g_T_kind C a_T_takes_221 fl_T_7 ?_
                refine xj_iload_n C a_T_takes_224 rfl ?_
                refine xn_ld_22 C a_T_takes_225 (by first | assumption | omega) ?_
                refine xj_topi (hB.k hm) ?_
                refine xj_iload_n C a_T_takes_226 rfl ?_
                refine xj_aload_n C a_T_takes_227 rfl ?_
                refine xn_g_T_a C a_T_takes_228 fl_T_16 ?_
                refine xj_iload_n C a_T_takes_231 rfl ?_
                refine xn_ld_24 C a_T_takes_232 (by first | assumption | omega) ?_
                refine xj_topi (hB.a hm) ?_
                refine xj_aload_n C a_T_takes_233 rfl ?_
                refine xn_g_T_b C a_T_takes_234 fl_T_19 ?_
                refine xj_iload_n C a_T_takes_237 rfl ?_
                refine xn_ld_25 C a_T_takes_238 (by first | assumption | omega) ?_
                refine xj_topl (hB.b hm) ?_
                refine xn_callV5i C a_T_takes_239 (c_T_notes _ _ v r hr S hB hR (pg_k S.1 m) (pg_f S.1 m) (by omega) (by omega) (pg_a S.1 m) (pg_b S.1 m)) mv_T_notes lk_T_159 ⟨rfl, rfl, rfl⟩ xj_ok21 ⟨by decide, by decide⟩ rfl (Nat.le_of_ble_eq_true rfl) ⟨Nat.le_refl _, Nat.le_refl _⟩ ?_
                refine xj_if_ne C a_T_takes_242 rfl (fun h242 => ?_) (fun h242 => ?_)
                · rw [xp_b0] at h242
                  have h242 : pg_nts S (pg_k S.1 m) (pg_f S.1 m) (pg_a S.1 m) (pg_b S.1 m) = true := by simpa using h242
                  exact no (by rw [h242]; simp)
                · rw [xp_b0] at h242
                  have h242 : pg_nts S (pg_k S.1 m) (pg_f S.1 m) (pg_a S.1 m) (pg_b S.1 m) = false := by simpa using h242
                  refine xj_iconst (v := nI 1) C a_T_takes_245 (by decide) ?_
                  refine xj_goto C a_T_takes_246 rfl ?_
                  refine xj_istore7 C a_T_takes_250 rfl ?_
                  exact later true (fun _ => by rw [et, h200, hp, h242]; rfl) (fun g => absurd hk g)
              refine xj_aload_n C a_T_takes_203 rfl ?_
              refine xn_g_T_kind C a_T_takes_204 fl_T_7 ?_
              refine xj_iload_n C a_T_takes_207 rfl ?_
              refine xn_ld_22 C a_T_takes_208 (by first | assumption | omega) ?_
              refine xj_topi (hB.k hm) ?_
              refine xj_iconst (v := nI 3) C a_T_takes_209 (by decide) ?_
              refine xj_icmp_eq C a_T_takes_210 rfl (fun h210 => ?_) (fun h210 => ?_)
              · rw [nI_eq (by omega) (by omega)] at h210
                exact ask (by simp [h210])
              · rw [nI_eq (by omega) (by omega)] at h210
                refine xj_iload C a_T_takes_213 rfl ?_
                refine xj_if_ne C a_T_takes_215 rfl (fun h215 => ?_) (fun h215 => ?_)
                · rw [xp_b0] at h215
                  have h215 : pg_f S.1 m = pg_vw S.2 % 4 := by simpa using h215
                  exact no (by simp [h210, h215])
                · rw [xp_b0] at h215
                  have h215 : ¬ pg_f S.1 m = pg_vw S.2 % 4 := by simpa using h215
                  exact ask (by simp [h215])
          refine xj_aload_n C a_T_takes_178 rfl ?_
          refine xn_g_T_kind C a_T_takes_179 fl_T_7 ?_
          refine xj_iload_n C a_T_takes_182 rfl ?_
          refine xn_ld_22 C a_T_takes_183 (by first | assumption | omega) ?_
          refine xj_topi (hB.k hm) ?_
          refine xj_iconst (v := nI 2) C a_T_takes_184 (by decide) ?_
          refine xj_icmp_eq C a_T_takes_185 rfl (fun h185 => ?_) (fun h185 => ?_)
          · rw [nI_eq (by omega) (by omega)] at h185
            exact is23 (Or.inl h185)
          · rw [nI_eq (by omega) (by omega)] at h185
            refine xj_aload_n C a_T_takes_188 rfl ?_
            refine xn_g_T_kind C a_T_takes_189 fl_T_7 ?_
            refine xj_iload_n C a_T_takes_192 rfl ?_
            refine xn_ld_22 C a_T_takes_193 (by first | assumption | omega) ?_
            refine xj_topi (hB.k hm) ?_
            refine xj_iconst (v := nI 3) C a_T_takes_194 (by decide) ?_
            refine xj_icmp_ne C a_T_takes_195 rfl (fun h195 => ?_) (fun h195 => ?_)
            · rw [nI_eq (by omega) (by omega)] at h195
              exact not23 h185 h195
            · rw [nI_eq (by omega) (by omega)] at h195
              exact is23 (Or.inr (by simpa using h195))
        · rw [nI_eq (by omega) (by omega)] at h150
          have h150 : pg_k S.1 m = 1 := by simpa using h150
          have e1 : pg_takes r S m = if pg_same S m && pg_f S.1 m == pg_vw S.2 % 4 then pg_tOrd S m else none := ft 1 _ h150 rfl
          have no : ∀ v2, xt_S r S v2 → xf_T r v v2 → pg_takes r S m = none → xn_X E G (xj_R E G (xp_tr r v S (pg_takes r S m)) 0 0) 0 0 176 [some (.ref (xj_ad G (21, 0, 0))), some (.int (nI m)), some (.int (nI r)), some (.int (nI (pg_f S.1 m))), some (.int (xp_b (pg_same S m))), some (.int (xp_b (pg_later S m))), some (.int (xp_b (pg_f S.1 m == pg_vw S.2 % 4))), some (.int (nI 0))] [] v2 := by
            intro v2 hX2 hf2 h
            rw [h]
            refine xj_iconst (v := nI 0) C a_T_takes_176 (by decide) ?_
            exact xj_zret C a_T_takes_177 rfl ⟨rfl, v2, rfl, hX2, hf2⟩
          refine xj_iload C a_T_takes_153 rfl ?_
          refine xj_if_eq C a_T_takes_155 rfl (fun h155 => ?_) (fun h155 => ?_)
          · rw [xp_b0] at h155
            exact no v hX (xf_T.rf r v) (by rw [e1, h155]; rfl)
          · rw [xp_b0] at h155
            have h155 : pg_same S m = true := by simpa using h155
            refine xj_iload C a_T_takes_158 rfl ?_
            refine xj_if_eq C a_T_takes_160 rfl (fun h160 => ?_) (fun h160 => ?_)
            · rw [xp_b0] at h160
              exact no v hX (xf_T.rf r v) (by rw [e1, h160]; simp)
            · rw [xp_b0] at h160
              have h160 : (pg_f S.1 m == pg_vw S.2 % 4) = true := by simpa using h160
              obtain ⟨n, n1, n2⟩ := same h155
              have e : pg_takes r S m = pg_tOrd S m := by rw [e1, h155, h160]; rfl
              refine xj_aload_n C a_T_takes_163 rfl ?_
              refine xj_iload_n C a_T_takes_164 rfl ?_
              refine xj_iload_n C a_T_takes_165 rfl ?_
              refine xj_callV2 C a_T_takes_166 (c_T_takesOrder _ _ v r hr S hX hN m hm n n1 n2) mv_T_takesOrder lk_T_156 ⟨rfl, rfl, rfl⟩ xj_ok21 ⟨by decide, by decide⟩ rfl (Nat.le_of_ble_eq_true rfl) ⟨Nat.le_refl _, Nat.le_refl _⟩ (fun a' w' hres => ?_)
              obtain ⟨rfl, v2, rfl, hX2, hf2⟩ := hres
              cases q : pg_tOrd S m with
              | none =>
                rw [q] at hX2
                refine xj_if_eq C a_T_takes_169 rfl (fun _ => ?_) (fun h => absurd rfl h)
                exact no v2 hX2 hf2 (by rw [e, q])
              | some S' =>
                rw [q] at hX2
                rw [e, q]
                refine xj_if_eq C a_T_takes_169 rfl (fun h => absurd h (show ¬ xp_b true = 0 by decide)) (fun _ => ?_)
                refine xj_iconst (v := nI 1) C a_T_takes_172 (by decide) ?_
                refine xj_goto C a_T_takes_173 rfl ?_
                exact xj_zret C a_T_takes_177 rfl ⟨rfl, v2, rfl, hX2, hf2⟩
      · rw [xp_nz (by omega)] at h133
        have h133 : pg_k S.1 m = 0 := by simpa using h133
        have e0 : pg_takes r S m = pg_tReq S m := ft 0 _ h133 rfl
        refine xj_aload_n C a_T_takes_136 rfl ?_
        refine xj_iload_n C a_T_takes_137 rfl ?_
        refine xj_iload_n C a_T_takes_138 rfl ?_
        refine xj_callV2 C a_T_takes_139 (c_T_takesRequest _ _ v r hr S hX m hm) mv_T_takesRequest lk_T_153 ⟨rfl, rfl, rfl⟩ xj_ok21 ⟨by decide, by decide⟩ rfl (Nat.le_of_ble_eq_true rfl) ⟨Nat.le_refl _, Nat.le_refl _⟩ (fun a' w' hres => ?_)
        obtain ⟨rfl, v2, rfl, hX2, hf2⟩ := hres
        rw [e0]
        exact xj_zret C a_T_takes_142 (xp_bn _) ⟨rfl, v2, rfl, hX2, hf2⟩
    have prim : xn_X E G (xj_R E G (xp_tr r v S (pg_takes r S m)) 0 0) 0 0 105 [some (.ref (xj_ad G (21, 0, 0))), some (.int (nI m)), some (.int (nI r)), some (.int (nI (pg_f S.1 m))), some (.int (xp_b (pg_same S m))), some (.int (xp_b (pg_later S m))), none, none] [] v := by
      refine xj_iload_n C a_T_takes_105 rfl ?_
      refine xj_aload_n C a_T_takes_106 rfl ?_
      refine xn_g_T_view C a_T_takes_107 fl_T_36 ?_
      refine xj_iload_n C a_T_takes_110 rfl ?_
      refine xn_ld_30 C a_T_takes_111 (by first | assumption | omega) ?_
      refine xj_topi (hR.vw) ?_
      refine xj_iconst (v := nI 4) C a_T_takes_112 (by decide) ?_
      refine xj_irem C a_T_takes_113 (by decide) ?_
      refine xj_topi (y := nI (pg_vw S.2 % 4)) (pk_rem (d := 4) (by omega) (by omega) (by omega)) ?_
      refine xj_icmp_ne C a_T_takes_114 rfl (fun h114 => ?_) (fun h114 => ?_)
      · rw [nI_eq (by omega) (by omega)] at h114
        refine xj_iconst (v := nI 0) C a_T_takes_121 (by decide) ?_
        refine xj_istore6 C a_T_takes_122 rfl ?_
        have : (pg_f S.1 m == pg_vw S.2 % 4) = false := by simpa using h114
        rw [this] at rest
        exact rest
      · rw [nI_eq (by omega) (by omega)] at h114
        have h114 : pg_f S.1 m = pg_vw S.2 % 4 := by simpa using h114
        refine xj_iconst (v := nI 1) C a_T_takes_117 (by decide) ?_
        refine xj_goto C a_T_takes_118 rfl ?_
        refine xj_istore6 C a_T_takes_122 rfl ?_
        have : (pg_f S.1 m == pg_vw S.2 % 4) = true := by simpa using h114
        rw [this] at rest
        exact rest
    have ltr : xn_X E G (xj_R E G (xp_tr r v S (pg_takes r S m)) 0 0) 0 0 59 [some (.ref (xj_ad G (21, 0, 0))), some (.int (nI m)), some (.int (nI r)), some (.int (nI (pg_f S.1 m))), some (.int (xp_b (pg_same S m))), none, none, none] [] v := by
      have yes : pg_later S m = true → xn_X E G (xj_R E G (xp_tr r v S (pg_takes r S m)) 0 0) 0 0 98 [some (.ref (xj_ad G (21, 0, 0))), some (.int (nI m)), some (.int (nI r)), some (.int (nI (pg_f S.1 m))), some (.int (xp_b (pg_same S m))), none, none, none] [] v := by
        intro h
        refine xj_iconst (v := nI 1) C a_T_takes_98 (by decide) ?_
        refine xj_goto C a_T_takes_99 rfl ?_
        refine xj_istore5 C a_T_takes_103 rfl ?_
        rw [h] at prim
        exact prim
      have no : pg_later S m = false → xn_X E G (xj_R E G (xp_tr r v S (pg_takes r S m)) 0 0) 0 0 102 [some (.ref (xj_ad G (21, 0, 0))), some (.int (nI m)), some (.int (nI r)), some (.int (nI (pg_f S.1 m))), some (.int (xp_b (pg_same S m))), none, none, none] [] v := by
        intro h
        refine xj_iconst (v := nI 0) C a_T_takes_102 (by decide) ?_
        refine xj_istore5 C a_T_takes_103 rfl ?_
        rw [h] at prim
        exact prim
      refine xj_aload_n C a_T_takes_59 rfl ?_
      refine xn_g_T_a C a_T_takes_60 fl_T_16 ?_
      refine xj_iload_n C a_T_takes_63 rfl ?_
      refine xn_ld_24 C a_T_takes_64 (by first | assumption | omega) ?_
      refine xj_topi (hB.a hm) ?_
      refine xj_aload_n C a_T_takes_65 rfl ?_
      refine xn_g_T_view C a_T_takes_66 fl_T_36 ?_
      refine xj_iload_n C a_T_takes_69 rfl ?_
      refine xn_ld_30 C a_T_takes_70 (by first | assumption | omega) ?_
      refine xj_topi (hR.vw) ?_
      refine xj_icmp_gt C a_T_takes_71 rfl (fun h71 => ?_) (fun h71 => ?_)
      · exact yes (by unfold pg_later; rw [decide_eq_true h71]; rfl)
      · refine xj_aload_n C a_T_takes_74 rfl ?_
        refine xn_g_T_a C a_T_takes_75 fl_T_16 ?_
        refine xj_iload_n C a_T_takes_78 rfl ?_
        refine xn_ld_24 C a_T_takes_79 (by first | assumption | omega) ?_
        refine xj_topi (hB.a hm) ?_
        refine xj_aload_n C a_T_takes_80 rfl ?_
        refine xn_g_T_view C a_T_takes_81 fl_T_36 ?_
        refine xj_iload_n C a_T_takes_84 rfl ?_
        refine xn_ld_30 C a_T_takes_85 (by first | assumption | omega) ?_
        refine xj_topi (hR.vw) ?_
        refine xj_icmp_ne C a_T_takes_86 rfl (fun h86 => ?_) (fun h86 => ?_)
        · refine no ?_
          unfold pg_later
          rw [decide_eq_false h71]
          simp [h86]
        · have h86 : pg_a S.1 m = nI (pg_vw S.2) := by simpa using h86
          refine xj_aload_n C a_T_takes_89 rfl ?_
          refine xn_g_T_changing C a_T_takes_90 fl_T_39 ?_
          refine xj_iload_n C a_T_takes_93 rfl ?_
          refine xn_ld_31 C a_T_takes_94 (by first | assumption | omega) ?_
          refine xj_topi (hR.ch) ?_
          refine xj_if_eq C a_T_takes_95 rfl (fun h95 => ?_) (fun h95 => ?_)
          · rw [xp_nz (by omega)] at h95
            refine no ?_
            unfold pg_later
            rw [decide_eq_false h71, h95]
            simp
          · rw [xp_nz (by omega)] at h95
            have h95 : pg_ch S.2 = 1 := by omega
            refine yes ?_
            unfold pg_later
            rw [h95, h86]
            simp
    have yes : pg_same S m = true → xn_X E G (xj_R E G (xp_tr r v S (pg_takes r S m)) 0 0) 0 0 52 [some (.ref (xj_ad G (21, 0, 0))), some (.int (nI m)), some (.int (nI r)), some (.int (nI (pg_f S.1 m))), none, none, none, none] [] v := by
      intro h
      refine xj_iconst (v := nI 1) C a_T_takes_52 (by decide) ?_
      refine xj_goto C a_T_takes_53 rfl ?_
      refine xj_istore4 C a_T_takes_57 rfl ?_
      rw [h] at ltr
      exact ltr
    have no : pg_same S m = false → xn_X E G (xj_R E G (xp_tr r v S (pg_takes r S m)) 0 0) 0 0 56 [some (.ref (xj_ad G (21, 0, 0))), some (.int (nI m)), some (.int (nI r)), some (.int (nI (pg_f S.1 m))), none, none, none, none] [] v := by
      intro h
      refine xj_iconst (v := nI 0) C a_T_takes_56 (by decide) ?_
      refine xj_istore4 C a_T_takes_57 rfl ?_
      rw [h] at ltr
      exact ltr
    refine xj_aload_n C a_T_takes_14 rfl ?_
    refine xn_g_T_changing C a_T_takes_15 fl_T_39 ?_
    refine xj_iload_n C a_T_takes_18 rfl ?_
    refine xn_ld_31 C a_T_takes_19 (by first | assumption | omega) ?_
    refine xj_topi (hR.ch) ?_
    refine xj_if_ne C a_T_takes_20 rfl (fun h20 => ?_) (fun h20 => ?_)
    · rw [xp_nz (by omega)] at h20
      exact no (by unfold pg_same; rw [show (pg_ch S.2 == 0) = false by simp; omega]; rfl)
    · rw [xp_nz (by omega)] at h20
      have h20 : pg_ch S.2 = 0 := by simpa using h20
      refine xj_aload_n C a_T_takes_23 rfl ?_
      refine xn_g_T_a C a_T_takes_24 fl_T_16 ?_
      refine xj_iload_n C a_T_takes_27 rfl ?_
      refine xn_ld_24 C a_T_takes_28 (by first | assumption | omega) ?_
      refine xj_topi (hB.a hm) ?_
      refine xj_aload_n C a_T_takes_29 rfl ?_
      refine xn_g_T_view C a_T_takes_30 fl_T_36 ?_
      refine xj_iload_n C a_T_takes_33 rfl ?_
      refine xn_ld_30 C a_T_takes_34 (by first | assumption | omega) ?_
      refine xj_topi (hR.vw) ?_
      refine xj_icmp_ne C a_T_takes_35 rfl (fun h35 => ?_) (fun h35 => ?_)
      · exact no (by unfold pg_same; simp [h35])
      · have h35 : pg_a S.1 m = nI (pg_vw S.2) := by simpa using h35
        refine xj_aload_n C a_T_takes_38 rfl ?_
        refine xj_iload_n C a_T_takes_39 rfl ?_
        refine xj_aload_n C a_T_takes_40 rfl ?_
        refine xn_g_T_b C a_T_takes_41 fl_T_19 ?_
        refine xj_iload_n C a_T_takes_44 rfl ?_
        refine xn_ld_25 C a_T_takes_45 (by first | assumption | omega) ?_
        refine xj_topl (hB.b hm) ?_
        refine xn_callV2i C a_T_takes_46 (c_T_window _ _ v r hr S.2 hR (by omega) (pg_b S.1 m)) mv_T_window lk_T_149 ⟨rfl, rfl, rfl⟩ xj_ok21 ⟨by decide, by decide⟩ rfl (Nat.le_of_ble_eq_true rfl) ⟨Nat.le_refl _, Nat.le_refl _⟩ ?_
        refine xj_if_eq C a_T_takes_49 rfl (fun h49 => ?_) (fun h49 => ?_)
        · rw [xp_b0] at h49
          exact no (by unfold pg_same; simp [h49])
        · rw [xp_b0] at h49
          have h49 : pg_win S.2 (pg_b S.1 m) = true := by simpa using h49
          exact yes (by unfold pg_same; simp [h20, h35, h49])
  · rw [nI_eq (by omega) (by omega)] at h9
    have h9 : pg_f S.1 m = r := by simpa using h9
    have e : pg_takes r S m = none := by unfold pg_takes; rw [if_pos h9]
    rw [e]
    refine xj_iconst (v := nI 0) C a_T_takes_12 (by decide) ?_
    exact xj_zret C a_T_takes_13 rfl ⟨rfl, v, rfl, hX, xf_T.rf r v⟩
