/-! VALID, of a NEW-VIEW; what is judged -/
theorem xp_pc3 : ∀ a, a < 4 → ∀ b, b < 4 → ∀ c, c < 4 → (xn_pc (((0 ||| 2 ^ a) ||| 2 ^ b) ||| 2 ^ c) = 3 ↔ (¬ a = b ∧ ¬ a = c ∧ ¬ b = c)) := by decide +kernel
theorem xp_pc3lt : ∀ a, a < 4 → ∀ b, b < 4 → ∀ c, c < 4 → (((0 ||| 2 ^ a) ||| 2 ^ b) ||| 2 ^ c) < 16 ∧ xn_pc (((0 ||| 2 ^ a) ||| 2 ^ b) ||| 2 ^ c) < 5 := by decide +kernel
theorem xp_i64 (t : Int32) : t.toInt64.toInt32 = t := Int32.toInt32_toInt64 t
theorem xp_small (t : Int32) : t.toInt64.toBitVec.toNat ≤ 16777215 ↔ t.toBitVec.toNat / 2 ^ 24 = 0 := by
  obtain ⟨n, hn, rfl⟩ := wb_of32 t
  rw [xb_mask n hn]
  by_cases h : n < 2 ^ 31
  · rw [nI_l h, wb_tn (by omega)]
    omega
  · have e : (nI n).toInt64 = lN (n + (2 ^ 64 - 2 ^ 32)) := by
      apply Int64.toInt_inj.mp
      rw [Int32.toInt_toInt64]
      have h1 : (nI n).toInt = (n : Int) - 2 ^ 32 := by
        show (BitVec.ofNat 32 n).toInt = _
        rw [BitVec.toInt_ofNat']
        rw [Int.bmod_def]
        omega
      rw [h1]
      show _ = (BitVec.ofNat 64 (n + (2 ^ 64 - 2 ^ 32))).toInt
      rw [BitVec.toInt_ofNat', Int.bmod_def]
      omega
    rw [e, wb_tn (by omega)]
    omega
theorem pg_gc5 {B : pg_B} {m : Nat} (h : pg_gc B m = true) : pg_k B m = 5 := by
  unfold pg_gc at h
  simp only [Bool.and_eq_true] at h
  simpa using h.1
theorem pg_gn6 {B : pg_B} {m : Nat} (h : pg_gn B m = true) : pg_k B m = 6 := by
  unfold pg_gn at h
  simp only [Bool.and_eq_true] at h
  simpa using h.1
/-- the judgements below j -/
def xc_V (B : pg_B) (j : Nat) (v : xn_V) : Prop := v.1 1 0 0 7 = nI j ∧ j ≤ B.1 ∧ (∀ x, x < j → v.1 7 0 0 x = xp_b (pg_gc B x || pg_gn B x)) ∧ ∀ x, j ≤ x → x < 256 → v.1 7 0 0 x = 0
/-- votes lie as an int -/
def pg_b6 (B : pg_B) : Prop := ∀ m, m < B.1 → pg_k B m = 6 → ∃ t : Int32, pg_b B m = t.toInt64
theorem xp_all3 {P : Nat → Bool} : (List.range 3).all P = (P 0 && (P 1 && P 2)) := by
  rw [show List.range 3 = [0, 1, 2] from rfl]
  simp
theorem c_B_isValidNewView (l : Launch) (G : xj_G) (v : xn_V) (B : pg_B) (hB : xc_B B v) (hbk : pg_bke B) (hcp : pg_cps B) (h6 : pg_b6 B) (m : Nat) (hm : m < B.1) (hk : pg_k B m = 6) (hV : ∀ x, x < m → v.1 7 0 0 x = xp_b (pg_gc B x || pg_gn B x)) : xn_M l G 3 77 m_B_isValidNewView [.ref (xj_ad G (1, 0, 0)), .int (nI m)] v (some (.int (xp_b (pg_gn B m)))) v := by
  have hz := hB.2.1
  obtain ⟨t, ht⟩ := h6 m hm hk
  refine xn_M_of (by decide) (Nat.le_of_ble_eq_true rfl) (fun E hE C => ?_)
  subst hE
  replace C : xj_C E G prog_2_method_9_code "ThreePhaseGroup$Board" 6 3 77 0 0 (some .boolean) := C
  show xn_X E G _ 0 0 0 [some (.ref (xj_ad G (1, 0, 0))), some (.int (nI m)), none, none, none, none] [] v
  generalize hA : (some (Value.int (xp_b (pg_gn B m))) : Option Value) = A
  have htt : (pg_b B m).toInt32 = t := by rw [ht, xp_i64]
  refine xj_aload_n C a_B_isValidNewView_0 rfl ?_
  refine xn_g_B_b C a_B_isValidNewView_1 fl_B_21 ?_
  refine xj_iload_n C a_B_isValidNewView_4 rfl ?_
  refine xn_ld_5 C a_B_isValidNewView_5 (by first | assumption | omega) ?_
  refine xj_topl (hB.b (by omega)) ?_
  refine xj_l2i C a_B_isValidNewView_6 ?_
  have no : pg_gn B m = false → ∀ z1 z2 z3 z4 : Option Value, xn_X E G (xj_R E G (fun a' w' => a' = A ∧ w' = xn_W v) 0 0) 0 0 27 [some (.ref (xj_ad G (1, 0, 0))), some (.int (nI m)), z1, z2, z3, z4] [] v := by
    intro h z1 z2 z3 z4
    refine xj_iconst (v := nI 0) C a_B_isValidNewView_27 (by decide) ?_
    refine xj_zret C a_B_isValidNewView_28 rfl ?_
    exact ⟨by rw [← hA]; exact xp_f h, rfl⟩
  refine xj_istore2 C a_B_isValidNewView_7 rfl ?_
  refine xj_aload_n C a_B_isValidNewView_8 rfl ?_
  refine xn_g_B_a C a_B_isValidNewView_9 fl_B_18 ?_
  refine xj_iload_n C a_B_isValidNewView_12 rfl ?_
  refine xn_ld_4 C a_B_isValidNewView_13 (by first | assumption | omega) ?_
  refine xj_topi (hB.a (by omega)) ?_
  refine xn_callS1i C a_B_isValidNewView_14 (c_B_isChangedView _ _ v (pg_a B m)) ms_B_isChangedView lk_B_46 ⟨by decide, by decide⟩ rfl (Nat.le_of_ble_eq_true rfl) ⟨Nat.le_refl _, Nat.le_refl _⟩ ?_
  refine xj_if_eq C a_B_isValidNewView_17 rfl (fun h17 => ?_) (fun h17 => ?_)
  · rw [xp_b0] at h17
    refine no ?_ _ _ _ _
    simp only [decide_eq_false_iff_not] at h17
    unfold pg_gn
    by_cases e1 : pg_a B m < nI 1
    · have : decide ((1 : Int32) ≤ pg_a B m) = false := by
        rw [decide_eq_false_iff_not, Int32.not_le]; exact e1
      rw [this]; simp
    · have e2 : nI 15 < pg_a B m := by
        apply Classical.byContradiction
        intro e2; exact h17 ⟨e1, e2⟩
      have : decide (pg_a B m ≤ (15 : Int32)) = false := by
        rw [decide_eq_false_iff_not, Int32.not_le]; exact e2
      rw [this]; simp
  · rw [xp_b0] at h17
    have h17 : ¬ pg_a B m < nI 1 ∧ ¬ nI 15 < pg_a B m := by simpa using h17
    have a1 : (1 : Int32) ≤ pg_a B m := Int32.not_lt.mp h17.1
    have a2 : pg_a B m ≤ (15 : Int32) := Int32.not_lt.mp h17.2
    have hcd : (pg_b B m).toInt32.toBitVec.toNat / 2 ^ 24 < 2 ^ 31 := by
      have := (pg_b B m).toInt32.toBitVec.isLt
      omega
    refine xj_iload_n C a_B_isValidNewView_20 rfl ?_
    refine xj_bipush (v := nI 24) C a_B_isValidNewView_21 (by decide) ?_
    refine xj_iushr C a_B_isValidNewView_23 ?_
    refine xj_topi (xb_iush0 _ (by omega)) ?_
    refine xj_if_eq C a_B_isValidNewView_24 rfl (fun h24 => ?_) (fun h24 => ?_)
    · have h24 : t.toBitVec.toNat / 2 ^ 24 = 0 := by
        have e : nI ((pg_b B m).toInt32.toBitVec.toNat / 2 ^ 24) = nI 0 := h24
        rw [nI_eq hcd (by omega), htt] at e
        exact e
      have a3 : (pg_b B m).toBitVec.toNat ≤ 16777215 := by rw [ht]; exact (xp_small t).mpr h24
      have hgn : pg_gn B m = ((List.range 3).all (fun k => decide (pg_vt (pg_b B m) k < m) && (pg_a B (pg_vt (pg_b B m) k) == pg_a B m && (pg_gc B (pg_vt (pg_b B m) k) && (List.range k).all (fun i => pg_f B (pg_vt (pg_b B m) i) != pg_f B (pg_vt (pg_b B m) k))))) && pg_c B m == pg_od B (pg_b B m)) := by
        unfold pg_gn
        simp [hk, a1, a2, a3]
      rw [xp_all3] at hgn
      have bad : pg_gn B m = false → ∀ z1 z2 z3 z4 : Option Value, xn_X E G (xj_R E G (fun a' w' => a' = A ∧ w' = xn_W v) 0 0) 0 0 91 [some (.ref (xj_ad G (1, 0, 0))), some (.int (nI m)), z1, z2, z3, z4] [] v := by
        intro h z1 z2 z3 z4
        refine xj_iconst (v := nI 0) C a_B_isValidNewView_91 (by decide) ?_
        refine xj_zret C a_B_isValidNewView_92 rfl ?_
        exact ⟨by rw [← hA]; exact xp_f h, rfl⟩
      have body : ∀ (k M : Nat), k < 3 → ((decide (pg_vt (pg_b B m) k < m) && (pg_a B (pg_vt (pg_b B m) k) == pg_a B m && pg_gc B (pg_vt (pg_b B m) k))) = false → pg_gn B m = false) → ((decide (pg_vt (pg_b B m) k < m) && (pg_a B (pg_vt (pg_b B m) k) == pg_a B m && pg_gc B (pg_vt (pg_b B m) k))) = true → ∀ z : Option Value, xn_X E G (xj_R E G (fun a' w' => a' = A ∧ w' = xn_W v) 0 0) 0 0 34 [some (.ref (xj_ad G (1, 0, 0))), some (.int (nI m)), some (.int (pg_b B m).toInt32), some (.int (nI (M ||| 2 ^ pg_f B (pg_vt (pg_b B m) k)))), some (.int (nI (k + 1))), z] [] v) → ∀ z : Option Value, xn_X E G (xj_R E G (fun a' w' => a' = A ∧ w' = xn_W v) 0 0) 0 0 34 [some (.ref (xj_ad G (1, 0, 0))), some (.int (nI m)), some (.int (pg_b B m).toInt32), some (.int (nI M)), some (.int (nI k)), z] [] v := by
        intro k M hk3 hbad kk z
        refine xj_iload C a_B_isValidNewView_34 rfl ?_
        refine xj_iconst (v := nI 3) C a_B_isValidNewView_36 (by decide) ?_
        refine xj_icmp_ge C a_B_isValidNewView_37 rfl (fun h37 => ?_) (fun h37 => ?_)
        · rw [nI_leI (by omega) (by omega)] at h37
          omega
        · have hvt : pg_vt (pg_b B m) k < 256 := Nat.mod_lt _ (by decide)
          refine xj_iload_n C a_B_isValidNewView_40 rfl ?_
          refine xj_iload C a_B_isValidNewView_41 rfl ?_
          refine xn_callS2i C a_B_isValidNewView_43 (c_B_voteOf _ _ v (pg_b B m) k hk3) ms_B_voteOf lk_B_61 ⟨by decide, by decide⟩ rfl (Nat.le_of_ble_eq_true rfl) ⟨Nat.le_refl _, Nat.le_refl _⟩ ?_
          refine xj_istore5 C a_B_isValidNewView_46 rfl ?_
          refine xj_iload C a_B_isValidNewView_48 rfl ?_
          refine xj_iload_n C a_B_isValidNewView_50 rfl ?_
          refine xj_icmp_ge C a_B_isValidNewView_51 rfl (fun h51 => ?_) (fun h51 => ?_)
          · rw [nI_leI (by omega) (by omega)] at h51
            refine bad (hbad ?_) _ _ _ _
            have : ¬ pg_vt (pg_b B m) k < m := by omega
            simp [this]
          · rw [nI_leI (by omega) (by omega)] at h51
            have hfx := hB.2.2.1 (pg_vt (pg_b B m) k) (by omega)
            refine xj_aload_n C a_B_isValidNewView_54 rfl ?_
            refine xn_g_B_kind C a_B_isValidNewView_55 fl_B_9 ?_
            refine xj_iload C a_B_isValidNewView_58 rfl ?_
            refine xn_ld_2 C a_B_isValidNewView_60 (by first | assumption | omega) ?_
            refine xj_topi (hB.k (by omega)) ?_
            refine xj_iconst (v := nI 5) C a_B_isValidNewView_61 (by decide) ?_
            refine xj_icmp_ne C a_B_isValidNewView_62 rfl (fun h62 => ?_) (fun h62 => ?_)
            · rw [nI_eq (by omega) (by omega)] at h62
              refine bad (hbad ?_) _ _ _ _
              have : pg_gc B (pg_vt (pg_b B m) k) = false := by
                cases e : pg_gc B (pg_vt (pg_b B m) k) with
                | false => rfl
                | true => exact absurd (pg_gc5 e) h62
              simp [this]
            · rw [nI_eq (by omega) (by omega)] at h62
              have hgn0 : pg_gn B (pg_vt (pg_b B m) k) = false := by
                cases e : pg_gn B (pg_vt (pg_b B m) k) with
                | false => rfl
                | true => have := pg_gn6 e; omega
              refine xj_aload_n C a_B_isValidNewView_65 rfl ?_
              refine xn_g_B_valid C a_B_isValidNewView_66 fl_B_28 ?_
              refine xj_iload C a_B_isValidNewView_69 rfl ?_
              refine xn_ld_7 C a_B_isValidNewView_71 (by first | assumption | omega) ?_
              refine xj_topi (hV _ (by omega)) ?_
              rw [hgn0, Bool.or_false]
              refine xj_if_eq C a_B_isValidNewView_72 rfl (fun h72 => ?_) (fun h72 => ?_)
              · rw [xp_b0] at h72
                refine bad (hbad ?_) _ _ _ _
                simp [h72]
              · rw [xp_b0] at h72
                have h72 : pg_gc B (pg_vt (pg_b B m) k) = true := by simpa using h72
                refine xj_aload_n C a_B_isValidNewView_75 rfl ?_
                refine xn_g_B_a C a_B_isValidNewView_76 fl_B_18 ?_
                refine xj_iload C a_B_isValidNewView_79 rfl ?_
                refine xn_ld_4 C a_B_isValidNewView_81 (by first | assumption | omega) ?_
                refine xj_topi (hB.a (by omega)) ?_
                refine xj_aload_n C a_B_isValidNewView_82 rfl ?_
                refine xn_g_B_a C a_B_isValidNewView_83 fl_B_18 ?_
                refine xj_iload_n C a_B_isValidNewView_86 rfl ?_
                refine xn_ld_4 C a_B_isValidNewView_87 (by first | assumption | omega) ?_
                refine xj_topi (hB.a (by omega)) ?_
                refine xj_icmp_eq C a_B_isValidNewView_88 rfl (fun h88 => ?_) (fun h88 => ?_)
                · refine xj_iload_n C a_B_isValidNewView_93 rfl ?_
                  refine xj_iconst (v := nI 1) C a_B_isValidNewView_94 (by decide) ?_
                  refine xj_aload_n C a_B_isValidNewView_95 rfl ?_
                  refine xn_g_B_sender C a_B_isValidNewView_96 fl_B_15 ?_
                  refine xj_iload C a_B_isValidNewView_99 rfl ?_
                  refine xn_ld_3 C a_B_isValidNewView_101 (by first | assumption | omega) ?_
                  refine xj_topi (hB.f (by omega)) ?_
                  refine xj_ishl C a_B_isValidNewView_102 ?_
                  refine xj_topi (xp_bit4 _ hfx.2.1) ?_
                  refine xj_ior C a_B_isValidNewView_103 ?_
                  refine xj_topi (xp_or _ _) ?_
                  refine xj_istore3 C a_B_isValidNewView_104 rfl ?_
                  refine xj_iincN4 C a_B_isValidNewView_105 rfl ?_
                  refine xj_goto C a_B_isValidNewView_108 rfl ?_
                  refine kk ?_ _
                  have : pg_vt (pg_b B m) k < m := by omega
                  simp [this, h88, h72]
                · refine bad (hbad ?_) _ _ _ _
                  simp [h88]
      refine xj_iconst (v := nI 0) C a_B_isValidNewView_29 (by decide) ?_
      refine xj_istore3 C a_B_isValidNewView_30 rfl ?_
      refine xj_iconst (v := nI 0) C a_B_isValidNewView_31 (by decide) ?_
      refine xj_istore4 C a_B_isValidNewView_32 rfl ?_
      have hgn2 : pg_gn B m = ((decide (pg_vt (pg_b B m) 0 < m) && (pg_a B (pg_vt (pg_b B m) 0) == pg_a B m && pg_gc B (pg_vt (pg_b B m) 0))) && ((decide (pg_vt (pg_b B m) 1 < m) && (pg_a B (pg_vt (pg_b B m) 1) == pg_a B m && pg_gc B (pg_vt (pg_b B m) 1))) && ((decide (pg_vt (pg_b B m) 2 < m) && (pg_a B (pg_vt (pg_b B m) 2) == pg_a B m && pg_gc B (pg_vt (pg_b B m) 2))) && ((pg_f B (pg_vt (pg_b B m) 0) != pg_f B (pg_vt (pg_b B m) 1) && (pg_f B (pg_vt (pg_b B m) 0) != pg_f B (pg_vt (pg_b B m) 2) && pg_f B (pg_vt (pg_b B m) 1) != pg_f B (pg_vt (pg_b B m) 2))) && pg_c B m == pg_od B (pg_b B m))))) := by
        rw [hgn]
        simp only [show List.range 0 = [] from rfl, show List.range 1 = [0] from rfl, show List.range 2 = [0, 1] from rfl, List.all_nil, List.all_cons, Bool.and_true]
        ac_rfl
      refine body 0 0 (by omega) (fun h => by rw [hgn2, h]; rfl) (fun p0 => ?_) none
      refine body 1 _ (by omega) (fun h => by rw [hgn2, h]; simp) (fun p1 => ?_)
      refine body 2 _ (by omega) (fun h => by rw [hgn2, h]; simp) (fun p2 => ?_)
      intro z
      have v0 : pg_vt (pg_b B m) 0 < m ∧ pg_gc B (pg_vt (pg_b B m) 0) = true := by simp at p0; exact ⟨p0.1, p0.2.2⟩
      have v1 : pg_vt (pg_b B m) 1 < m ∧ pg_gc B (pg_vt (pg_b B m) 1) = true := by simp at p1; exact ⟨p1.1, p1.2.2⟩
      have v2 : pg_vt (pg_b B m) 2 < m ∧ pg_gc B (pg_vt (pg_b B m) 2) = true := by simp at p2; exact ⟨p2.1, p2.2.2⟩
      have f0 : pg_f B (pg_vt (pg_b B m) 0) < 4 := pg_wf4 hB.2.2.1 (by omega) (by rw [pg_gc5 v0.2]; decide)
      have f1 : pg_f B (pg_vt (pg_b B m) 1) < 4 := pg_wf4 hB.2.2.1 (by omega) (by rw [pg_gc5 v1.2]; decide)
      have f2 : pg_f B (pg_vt (pg_b B m) 2) < 4 := pg_wf4 hB.2.2.1 (by omega) (by rw [pg_gc5 v2.2]; decide)
      have hlt := xp_pc3lt _ f0 _ f1 _ f2
      have hd := xp_pc3 _ f0 _ f1 _ f2
      rw [p0, p1, p2, Bool.true_and, Bool.true_and, Bool.true_and] at hgn2
      have hy : ∀ k, k < 3 → pg_vt (pg_b B m) k < B.1 ∧ ∃ p, p < 900 ∧ pg_b B (pg_vt (pg_b B m) k) = lN p := by
        intro k hk3
        rcases (show k = 0 ∨ k = 1 ∨ k = 2 by omega) with rfl | rfl | rfl
        · exact ⟨by omega, pg_gc_p hcp (by omega) v0.2⟩
        · exact ⟨by omega, pg_gc_p hcp (by omega) v1.2⟩
        · exact ⟨by omega, pg_gc_p hcp (by omega) v2.2⟩
      have no2 : pg_gn B m = false → ∀ z1 z2 z3 z4 : Option Value, xn_X E G (xj_R E G (fun a' w' => a' = A ∧ w' = xn_W v) 0 0) 0 0 137 [some (.ref (xj_ad G (1, 0, 0))), some (.int (nI m)), z1, z2, z3, z4] [] v := by
        intro h z1 z2 z3 z4
        refine xj_iconst (v := nI 0) C a_B_isValidNewView_137 (by decide) ?_
        refine xj_zret C a_B_isValidNewView_138 rfl ?_
        exact ⟨by rw [← hA]; exact xp_f h, rfl⟩
      refine xj_iload C a_B_isValidNewView_34 rfl ?_
      refine xj_iconst (v := nI 3) C a_B_isValidNewView_36 (by decide) ?_
      refine xj_icmp_ge C a_B_isValidNewView_37 rfl (fun h37 => ?_) (fun h37 => ?_)
      · refine xj_iload_n C a_B_isValidNewView_111 rfl ?_
        refine xn_callS1i C a_B_isValidNewView_112 (c_JI_bitCount _ _ v _) ms_JI_bitCount lk_B_64 ⟨by decide, by decide⟩ rfl (Nat.le_of_ble_eq_true rfl) ⟨Nat.le_refl _, Nat.le_refl _⟩ ?_
        refine xj_topi (xn_bc_64 _ (by omega)) ?_
        refine xj_iconst (v := nI 3) C a_B_isValidNewView_115 (by decide) ?_
        refine xj_icmp_ne C a_B_isValidNewView_116 rfl (fun h116 => ?_) (fun h116 => ?_)
        · rw [nI_eq (by omega) (by omega), hd] at h116
          refine no2 ?_ _ _ _ _
          rw [hgn2]
          by_cases e1 : pg_f B (pg_vt (pg_b B m) 0) = pg_f B (pg_vt (pg_b B m) 1)
          · simp [e1]
          · by_cases e2 : pg_f B (pg_vt (pg_b B m) 0) = pg_f B (pg_vt (pg_b B m) 2)
            · simp [e2]
            · by_cases e3 : pg_f B (pg_vt (pg_b B m) 1) = pg_f B (pg_vt (pg_b B m) 2)
              · simp [e3]
              · exact absurd ⟨e1, e2, e3⟩ h116
        · rw [nI_eq (by omega) (by omega), hd] at h116
          refine xj_aload_n C a_B_isValidNewView_119 rfl ?_
          refine xj_iload_n C a_B_isValidNewView_120 rfl ?_
          refine xn_callV1i C a_B_isValidNewView_121 (c_B_ordersDue _ _ v B hB hbk (pg_b B m) hy) mv_B_ordersDue lk_B_70 ⟨rfl, rfl, rfl⟩ xj_ok1 ⟨by decide, by decide⟩ rfl (Nat.le_of_ble_eq_true rfl) ⟨Nat.le_refl _, Nat.le_refl _⟩ ?_
          refine xj_aload_n C a_B_isValidNewView_124 rfl ?_
          refine xn_g_B_c C a_B_isValidNewView_125 fl_B_25 ?_
          refine xj_iload_n C a_B_isValidNewView_128 rfl ?_
          refine xn_ld_6 C a_B_isValidNewView_129 (by first | assumption | omega) ?_
          refine xj_topi (hB.c (by omega)) ?_
          refine xj_icmp_ne C a_B_isValidNewView_130 rfl (fun h130 => ?_) (fun h130 => ?_)
          · refine no2 ?_ _ _ _ _
            rw [hgn2]
            have : ¬ pg_c B m = pg_od B (pg_b B m) := fun e => h130 e.symm
            simp [this]
          · refine xj_iconst (v := nI 1) C a_B_isValidNewView_133 (by decide) ?_
            refine xj_goto C a_B_isValidNewView_134 rfl ?_
            refine xj_zret C a_B_isValidNewView_138 rfl ?_
            refine ⟨?_, rfl⟩
            rw [← hA]
            refine xp_t ?_
            rw [hgn2]
            simp [h116, h130]
      · exact absurd (Int32.le_refl _) h37
    · refine no ?_ _ _ _ _
      have : ¬ (pg_b B m).toBitVec.toNat ≤ 16777215 := by
        rw [ht, xp_small]
        intro e
        exact h24 (by rw [htt, e]; rfl)
      unfold pg_gn
      simp [this]
