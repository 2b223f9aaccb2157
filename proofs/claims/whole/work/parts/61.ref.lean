/-! the reference: votes, VIEW-CHANGEs -/
theorem xb_ash (st : Int64) {s j : Nat} (hs : s < 64) (h : s + j ≤ 64) : st >>> ((nI s).toInt64 &&& 63) &&& lN (2 ^ j - 1) = lN (st.toBitVec.toNat / 2 ^ s % 2 ^ j) := by
  rw [wb_c s hs]
  apply wb_inj
  rw [Int64.toBitVec_and, Int64.toBitVec_shiftRight, wb_tb, wb_tb, wb_tb, wb_sm s hs]
  apply BitVec.eq_of_getLsbD_eq
  intro i hi
  have e : (BitVec.ofNat 64 s).toNat = s := by rw [BitVec.toNat_ofNat, Nat.mod_eq_of_lt (by omega)]
  rw [BitVec.getLsbD_and, BitVec.sshiftRight_eq', e, BitVec.getLsbD_sshiftRight, BitVec.getLsbD_ofNat, BitVec.getLsbD_ofNat, Nat.testBit_two_pow_sub_one, Nat.testBit_mod_two_pow, Nat.testBit_div_two_pow]
  by_cases hj : i < j
  · have h1 : s + i < 64 := by omega
    rw [if_pos h1]
    simp [hi, hj, BitVec.getLsbD, Nat.add_comm]
  · simp [hj]
theorem xp_255 : (255 : Int64) = lN (2 ^ 8 - 1) := by decide
theorem xp_15 : (15 : Int64) = lN (2 ^ 4 - 1) := by decide
theorem c_T_vote (l : Launch) (G : xj_G) (v : xn_V) (B : pg_B) (hB : xt_B B v) (m : Nat) (hm : m < B.1) (k : Nat) (hk : k < 3) : xn_M l G 0 0 m_T_vote [.ref (xj_ad G (21, 0, 0)), .int (nI m), .int (nI k)] v (some (.int (nI (pg_vt (pg_b B m) k)))) v := by
  have hz := hB.2.1
  refine xn_M_of (by decide) (Nat.le_of_ble_eq_true rfl) (fun E hE C => ?_)
  subst hE
  replace C : xj_C E G prog_9_method_8_code "ThreePhaseGroupModel" 3 0 0 0 0 (some .int) := C
  show xn_X E G _ 0 0 0 [some (.ref (xj_ad G (21, 0, 0))), some (.int (nI m)), some (.int (nI k))] [] v
  refine xj_aload_n C a_T_vote_0 rfl ?_
  refine xn_g_T_b C a_T_vote_1 fl_T_19 ?_
  refine xj_iload_n C a_T_vote_4 rfl ?_
  refine xn_ld_25 C a_T_vote_5 (by first | assumption | omega) ?_
  refine xj_topl (hB.b (by omega)) ?_
  refine xj_bipush (v := nI 8) C a_T_vote_6 (by decide) ?_
  refine xj_iload_n C a_T_vote_8 rfl ?_
  refine xj_imulN C a_T_vote_9 ?_
  refine xj_lshr C a_T_vote_10 ?_
  refine xj_ldc2 C a_T_vote_11 kl_T_107 ?_
  refine xj_land C a_T_vote_14 ?_
  refine xj_topl (y := lN (pg_vt (pg_b B m) k)) ?_ ?_
  · show pg_b B m >>> ((nI (8 * k)).toInt64 &&& 63) &&& 255 = _
    rw [xp_255, xb_ash _ (by omega) (by omega)]
    rfl
  refine xj_l2i C a_T_vote_15 ?_
  refine xj_topi (lN_i _) ?_
  refine xj_iret C a_T_vote_16 ?_
  exact ⟨rfl, rfl⟩
theorem xp_cl1 : ∀ c, c < 32 → (nI c - nI 1 < 0 ↔ c = 0) ∧ ∀ v, v < 16 → 1 ≤ v → (nI v ≤ nI c - nI 1 ↔ v < c) := by decide +kernel
theorem pg_cl_lt (c : Int32) (j : Nat) : pg_cl c j < 32 := Nat.mod_lt _ (by decide)
theorem xp_v15 {a : Int32} (h1 : 1 ≤ a) (h2 : a ≤ 15) : ∃ w, 1 ≤ w ∧ w ≤ 15 ∧ a = nI w := by
  have h3 := Int32.le_iff_toInt_le.mp h1
  have h4 := Int32.le_iff_toInt_le.mp h2
  have e1 : (1 : Int32).toInt = 1 := by decide
  have e2 : (15 : Int32).toInt = 15 := by decide
  rw [e1] at h3
  rw [e2] at h4
  refine ⟨a.toInt.toNat, by omega, by omega, ?_⟩
  apply Int32.toInt_inj.mp
  rw [nI_toInt (by omega)]
  omega
theorem xp_out15 (a : Int32) : decide (a < nI 1 ∨ ¬ a ≤ nI 15) = false ↔ (1 ≤ a ∧ a ≤ 15) := by
  rw [decide_eq_false_iff_not, not_or, Classical.not_not, Int32.not_lt]
  exact Iff.rfl
theorem c_T_goodChange (l : Launch) (G : xj_G) (v : xn_V) (B : pg_B) (hB : xt_B B v) (m : Nat) (hm : m < B.1) : xn_M l G 2 56 m_T_goodChange [.ref (xj_ad G (21, 0, 0)), .int (nI m)] v (some (.int (xp_b (pg_gc B m)))) v := by
  have hz := hB.2.1
  have hw := hB.2.2.1 m hm
  refine xn_M_of (by decide) (Nat.le_of_ble_eq_true rfl) (fun E hE C => ?_)
  subst hE
  replace C : xj_C E G prog_9_method_7_code "ThreePhaseGroupModel" 7 2 56 0 0 (some .boolean) := C
  show xn_X E G _ 0 0 0 [some (.ref (xj_ad G (21, 0, 0))), some (.int (nI m)), none, none, none, none, none] [] v
  have no : pg_gc B m = false → ∀ z1 z2 z3 z4 z5 : Option Value, xn_X E G (xj_R E G (fun a' w' => a' = some (.int (xp_b (pg_gc B m))) ∧ w' = xn_W v) 0 0) 0 0 61 [some (.ref (xj_ad G (21, 0, 0))), some (.int (nI m)), z1, z2, z3, z4, z5] [] v := by
    intro h z1 z2 z3 z4 z5
    refine xj_iconst (v := nI 0) C a_T_goodChange_61 (by decide) ?_
    exact xj_zret C a_T_goodChange_62 rfl ⟨xp_f h, rfl⟩
  refine xj_aload_n C a_T_goodChange_0 rfl ?_
  refine xn_g_T_a C a_T_goodChange_1 fl_T_16 ?_
  refine xj_iload_n C a_T_goodChange_4 rfl ?_
  refine xn_ld_24 C a_T_goodChange_5 (by first | assumption | omega) ?_
  refine xj_topi (hB.a (by omega)) ?_
  refine xj_istore2 C a_T_goodChange_6 rfl ?_
  refine xj_aload_n C a_T_goodChange_7 rfl ?_
  refine xn_g_T_b C a_T_goodChange_8 fl_T_19 ?_
  refine xj_iload_n C a_T_goodChange_11 rfl ?_
  refine xn_ld_25 C a_T_goodChange_12 (by first | assumption | omega) ?_
  refine xj_topl (hB.b (by omega)) ?_
  refine xj_lstore3 C a_T_goodChange_13 rfl ?_
  refine xj_aload_n C a_T_goodChange_14 rfl ?_
  refine xn_g_T_kind C a_T_goodChange_15 fl_T_7 ?_
  refine xj_iload_n C a_T_goodChange_18 rfl ?_
  refine xn_ld_22 C a_T_goodChange_19 (by first | assumption | omega) ?_
  refine xj_topi (hB.k (by omega)) ?_
  refine xj_iconst (v := nI 5) C a_T_goodChange_20 (by decide) ?_
  refine xj_icmp_ne C a_T_goodChange_21 rfl (fun h21 => ?_) (fun h21 => ?_)
  · rw [nI_eq (by omega) (by omega)] at h21
    exact no (pg_gc_k h21) _ _ _ _ _
  · rw [nI_eq (by omega) (by omega)] at h21
    have h21 : pg_k B m = 5 := by simpa using h21
    refine xj_iload_n C a_T_goodChange_24 rfl ?_
    refine xj_iconst (v := nI 1) C a_T_goodChange_25 (by decide) ?_
    refine xj_bipush (v := nI 15) C a_T_goodChange_26 (by decide) ?_
    refine xn_callS3i C a_T_goodChange_28 (c_T_outside _ _ v (pg_a B m) (nI 1) (nI 15)) ms_T_outside lk_T_95 ⟨by decide, by decide⟩ rfl (Nat.le_of_ble_eq_true rfl) ⟨Nat.le_refl _, Nat.le_refl _⟩ ?_
    refine xj_if_ne C a_T_goodChange_31 rfl (fun h31 => ?_) (fun h31 => ?_)
    · rw [xp_b0, xp_out15] at h31
      refine no ?_ _ _ _ _ _
      unfold pg_gc
      rw [Bool.eq_false_iff]
      intro h
      simp only [Bool.and_eq_true, decide_eq_true_eq] at h
      exact h31 ⟨h.2.1, h.2.2.1⟩
    · rw [xp_b0] at h31
      have h31 : decide (pg_a B m < nI 1 ∨ ¬ pg_a B m ≤ nI 15) = false := by simpa using h31
      rw [xp_out15] at h31
      obtain ⟨w, w1, w2, w3⟩ := xp_v15 h31.1 h31.2
      have at49 : (pg_b B m == 0 || (pg_proof B (pg_b B m) m).isSome) = true → xn_X E G (xj_R E G (fun a' w' => a' = some (.int (xp_b (pg_gc B m))) ∧ w' = xn_W v) 0 0) 0 0 49 [some (.ref (xj_ad G (21, 0, 0))), some (.int (nI m)), some (.int (pg_a B m)), some (.long (pg_b B m)), none, none, none] [] v := by
        intro hp
        have hus : ((pg_c B m).toUInt32 >>> ((nI 20).toUInt32 &&& Int32.toUInt32 31)).toInt32 = nI ((pg_c B m).toBitVec.toNat / 2 ^ 20) := xb_iush0 _ (by decide)
        have hcl := (pg_c B m).toBitVec.isLt
        refine xj_aload_n C a_T_goodChange_49 rfl ?_
        refine xn_g_T_c C a_T_goodChange_50 fl_T_23 ?_
        refine xj_iload_n C a_T_goodChange_53 rfl ?_
        refine xn_ld_26 C a_T_goodChange_54 (by first | assumption | omega) ?_
        refine xj_topi (hB.c (by omega)) ?_
        refine xj_bipush (v := nI 20) C a_T_goodChange_55 (by decide) ?_
        refine xj_iushr C a_T_goodChange_57 ?_
        refine xj_topi hus ?_
        refine xj_if_eq C a_T_goodChange_58 rfl (fun h58 => ?_) (fun h58 => ?_)
        · have h58 : nI ((pg_c B m).toBitVec.toNat / 2 ^ 20) = nI 0 := h58
          rw [nI_eq (by omega) (by omega)] at h58
          have hc20 : (pg_c B m).toBitVec.toNat < 2 ^ 20 := by omega
          have egc : pg_gc B m = (List.range 4).all (fun j => pg_cl (pg_c B m) j == 0 || (decide (nI (pg_cl (pg_c B m) j) ≤ pg_a B m) && pg_back B (pg_cl (pg_c B m) j - 1) (pg_b B m + 1 + lN j) m != -2)) := by
            unfold pg_gc
            rw [h21, hp, decide_eq_true h31.1, decide_eq_true h31.2, decide_eq_true hc20]
            rfl
          generalize hP : (fun j => pg_cl (pg_c B m) j == 0 || (decide (nI (pg_cl (pg_c B m) j) ≤ pg_a B m) && pg_back B (pg_cl (pg_c B m) j - 1) (pg_b B m + 1 + lN j) m != -2)) = P at egc
          refine xj_iconst (v := nI 0) C a_T_goodChange_63 (by decide) ?_
          refine xj_istore5 C a_T_goodChange_64 rfl ?_
          have loop : ∀ N j : Nat, j ≤ 4 → 4 - j < N → (∀ k, k < j → P k = true) → ∀ z : Option Value, xn_X E G (xj_R E G (fun a' w' => a' = some (.int (xp_b (pg_gc B m))) ∧ w' = xn_W v) 0 0) 0 0 66 [some (.ref (xj_ad G (21, 0, 0))), some (.int (nI m)), some (.int (pg_a B m)), some (.long (pg_b B m)), none, some (.int (nI j)), z] [] v := by
            intro N
            induction N with
            | zero => intro j _ h; omega
            | succ N ih =>
              intro j hj hN hall z
              refine xj_iload C a_T_goodChange_66 rfl ?_
              refine xj_iconst (v := nI 4) C a_T_goodChange_68 (by decide) ?_
              refine xj_icmp_ge C a_T_goodChange_69 rfl (fun h69 => ?_) (fun h69 => ?_)
              · rw [nI_leI (by omega) (by omega)] at h69
                refine xj_iconst (v := nI 1) C a_T_goodChange_128 (by decide) ?_
                refine xj_zret C a_T_goodChange_129 rfl ⟨xp_t ?_, rfl⟩
                rw [egc, List.all_eq_true]
                intro k hk
                exact hall k (by have := List.mem_range.mp hk; omega)
              · rw [nI_leI (by omega) (by omega)] at h69
                have hcl2 := pg_cl_lt (pg_c B m) j
                have hsh : ((pg_c B m).toUInt32 >>> ((nI (5 * j)).toUInt32 &&& Int32.toUInt32 31)).toInt32 &&& nI 31 = nI (pg_cl (pg_c B m) j) := xb_iush (pg_c B m) (s := 5 * j) (j := 5) (by omega) (by omega)
                obtain ⟨x1, x2⟩ := xp_cl1 _ hcl2
                have bad : P j = false → ∀ z : Option Value, xn_X E G (xj_R E G (fun a' w' => a' = some (.int (xp_b (pg_gc B m))) ∧ w' = xn_W v) 0 0) 0 0 120 [some (.ref (xj_ad G (21, 0, 0))), some (.int (nI m)), some (.int (pg_a B m)), some (.long (pg_b B m)), none, some (.int (nI j)), z] [] v := by
                  intro h z
                  refine xj_iconst (v := nI 0) C a_T_goodChange_120 (by decide) ?_
                  refine xj_zret C a_T_goodChange_121 rfl ⟨xp_f ?_, rfl⟩
                  rw [egc, Bool.eq_false_iff]
                  intro h2
                  rw [List.all_eq_true] at h2
                  have := h2 j (List.mem_range.mpr (by omega))
                  rw [h] at this
                  cases this
                have good : P j = true → ∀ z : Option Value, xn_X E G (xj_R E G (fun a' w' => a' = some (.int (xp_b (pg_gc B m))) ∧ w' = xn_W v) 0 0) 0 0 122 [some (.ref (xj_ad G (21, 0, 0))), some (.int (nI m)), some (.int (pg_a B m)), some (.long (pg_b B m)), none, some (.int (nI j)), z] [] v := by
                  intro h z
                  refine xj_iincN5 C a_T_goodChange_122 rfl ?_
                  refine xj_goto C a_T_goodChange_125 rfl ?_
                  refine ih (j + 1) (by omega) (by omega) (fun k hk => ?_) _
                  by_cases e : k = j
                  · subst e; exact h
                  · exact hall k (by omega)
                refine xj_aload_n C a_T_goodChange_72 rfl ?_
                refine xn_g_T_c C a_T_goodChange_73 fl_T_23 ?_
                refine xj_iload_n C a_T_goodChange_76 rfl ?_
                refine xn_ld_26 C a_T_goodChange_77 (by first | assumption | omega) ?_
                refine xj_topi (hB.c (by omega)) ?_
                refine xj_iconst (v := nI 5) C a_T_goodChange_78 (by decide) ?_
                refine xj_iload C a_T_goodChange_79 rfl ?_
                refine xj_imulN C a_T_goodChange_81 ?_
                refine xj_iushr C a_T_goodChange_82 ?_
                refine xj_bipush (v := nI 31) C a_T_goodChange_83 (by decide) ?_
                refine xj_iand C a_T_goodChange_85 ?_
                refine xj_topi hsh ?_
                refine xj_iconst (v := nI 1) C a_T_goodChange_86 (by decide) ?_
                refine xj_isub C a_T_goodChange_87 ?_
                refine xj_istore6 C a_T_goodChange_88 rfl ?_
                refine xj_iload C a_T_goodChange_90 rfl ?_
                refine xj_iload_n C a_T_goodChange_92 rfl ?_
                refine xj_icmp_ge C a_T_goodChange_93 rfl (fun h93 => ?_) (fun h93 => ?_)
                · rw [w3, x2 w (by omega) w1] at h93
                  refine bad ?_ _
                  rw [← hP]
                  have a1 : (pg_cl (pg_c B m) j == 0) = false := by simp; omega
                  have a2 : decide (nI (pg_cl (pg_c B m) j) ≤ pg_a B m) = false := decide_eq_false (by rw [w3, nI_leI (by omega) (by omega)]; omega)
                  dsimp only
                  rw [a1, a2]
                  rfl
                · rw [w3, x2 w (by omega) w1] at h93
                  have a2 : decide (nI (pg_cl (pg_c B m) j) ≤ pg_a B m) = true := decide_eq_true (by rw [w3, nI_leI (by omega) (by omega)]; omega)
                  refine xj_iload C a_T_goodChange_96 rfl ?_
                  refine xj_if_lt C a_T_goodChange_98 rfl (fun h98 => ?_) (fun h98 => ?_)
                  · rw [x1] at h98
                    exact good (by rw [← hP]; simp [h98]) _
                  · rw [x1] at h98
                    have a1 : (pg_cl (pg_c B m) j == 0) = false := by simpa using h98
                    have hlj : (nI j).toInt64 = lN j := nI_l (by omega)
                    rw [show nI (pg_cl (pg_c B m) j) - nI 1 = nI (pg_cl (pg_c B m) j - 1) from pk_sub (by omega)]
                    refine xj_aload_n C a_T_goodChange_101 rfl ?_
                    refine xj_iload C a_T_goodChange_102 rfl ?_
                    refine xj_lload_n C a_T_goodChange_104 rfl ?_
                    refine xj_lconst (v := lN 1) C a_T_goodChange_105 (by decide) ?_
                    refine xj_ladd C a_T_goodChange_106 ?_
                    refine xj_iload C a_T_goodChange_107 rfl ?_
                    refine xj_i2l C a_T_goodChange_109 ?_
                    refine xj_topl hlj ?_
                    refine xj_ladd C a_T_goodChange_110 ?_
                    refine xj_iload_n C a_T_goodChange_111 rfl ?_
                    refine xn_callV3i C a_T_goodChange_112 (c_T_backing _ _ v B hB (pg_cl (pg_c B m) j - 1) (by omega) _ m (by omega)) mv_T_backing lk_T_103 ⟨rfl, rfl, rfl⟩ xj_ok21 ⟨by decide, by decide⟩ rfl (Nat.le_of_ble_eq_true rfl) ⟨Nat.le_refl _, Nat.le_refl _⟩ ?_
                    refine xj_bipush (v := -2) C a_T_goodChange_115 (by decide) ?_
                    refine xj_icmp_ne C a_T_goodChange_117 rfl (fun h117 => ?_) (fun h117 => ?_)
                    · refine good ?_ _
                      rw [← hP]
                      dsimp only
                      rw [a1, a2]
                      have h117 : ¬ pg_back B (pg_cl (pg_c B m) j - 1) (pg_b B m + 1 + lN j) m = -2 := h117
                      simp [h117]
                    · refine bad ?_ _
                      rw [← hP]
                      dsimp only
                      rw [a1, a2]
                      have h117 : pg_back B (pg_cl (pg_c B m) j - 1) (pg_b B m + 1 + lN j) m = -2 := (by simpa using h117 : pg_back B (pg_cl (pg_c B m) j - 1) (pg_b B m + lN 1 + lN j) m = -2)
                      simp [h117]
          exact loop 5 0 (by omega) (by omega) (fun k hk => absurd hk (Nat.not_lt_zero k)) none
        · have h58 : ¬ nI ((pg_c B m).toBitVec.toNat / 2 ^ 20) = nI 0 := h58
          rw [nI_eq (by omega) (by omega)] at h58
          refine no ?_ _ _ _ _ _
          unfold pg_gc
          rw [decide_eq_false (show ¬ (pg_c B m).toBitVec.toNat < 2 ^ 20 by omega), Bool.false_and, Bool.and_false, Bool.and_false, Bool.and_false, Bool.and_false]
      refine xj_lload_n C a_T_goodChange_34 rfl ?_
      refine xj_lconst (v := lN 0) C a_T_goodChange_35 (by decide) ?_
      refine xj_lcmp C a_T_goodChange_36 ?_
      refine xj_if_eq C a_T_goodChange_37 rfl (fun h37 => ?_) (fun h37 => ?_)
      · rw [xp_cmp_eq] at h37
        exact at49 (by rw [h37]; rfl)
      · rw [xp_cmp_eq] at h37
        refine xj_aload_n C a_T_goodChange_40 rfl ?_
        refine xj_lload_n C a_T_goodChange_41 rfl ?_
        refine xj_iload_n C a_T_goodChange_42 rfl ?_
        refine xn_callV2i C a_T_goodChange_43 (c_T_proof _ _ v B hB (pg_b B m) m (by omega)) mv_T_proof lk_T_99 ⟨rfl, rfl, rfl⟩ xj_ok21 ⟨by decide, by decide⟩ rfl (Nat.le_of_ble_eq_true rfl) ⟨Nat.le_refl _, Nat.le_refl _⟩ ?_
        cases ep : pg_proof B (pg_b B m) m with
        | none =>
          refine xj_if_lt C a_T_goodChange_46 rfl (fun _ => ?_) (fun h46 => absurd (show (-1 : Int32) < 0 by decide) h46)
          refine no ?_ _ _ _ _ _
          unfold pg_gc
          have h37 : ¬ pg_b B m = 0 := h37
          have h0 : (pg_b B m == 0) = false := by simpa using h37
          rw [ep, h0]
          simp
        | some i =>
          have hi := List.mem_range.mp (List.mem_of_find?_eq_some ep)
          refine xj_if_lt (x := nI i) C a_T_goodChange_46 rfl (fun h46 => absurd h46 ?_) (fun _ => ?_)
          · intro h
            have h : nI i < nI 0 := h
            rw [nI_ltI (by omega) (by omega)] at h
            omega
          · exact at49 (by rw [ep]; simp)
/-- the votes of m lie on the board, with small numbers -/
def xt_vk (B : pg_B) (m : Nat) : Prop := ∀ k, k < 3 → pg_vt (pg_b B m) k < B.1 ∧ ∃ p, p < 390 ∧ pg_b B (pg_vt (pg_b B m) k) = lN p
theorem xt_vk.nb {B : pg_B} {m : Nat} (h : xt_vk B m) {k : Nat} (hk : k < 3) : pg_nb B (pg_vt (pg_b B m) k) < 390 ∧ pg_b B (pg_vt (pg_b B m) k) = lN (pg_nb B (pg_vt (pg_b B m) k)) := by
  obtain ⟨h1, p, h2, h3⟩ := h k hk
  have := pg_nb_n h3 (by omega)
  rw [this]
  exact ⟨h2, h3⟩
def xp_mx (B : pg_B) (y : Int64) : Nat → Nat
  | 0 => 0
  | k + 1 => max (xp_mx B y k) (pg_nb B (pg_vt y k))
theorem xp_mx_3 (B : pg_B) (y : Int64) : xp_mx B y 3 = pg_st B y := by
  show max (max (max 0 (pg_nb B (pg_vt y 0))) (pg_nb B (pg_vt y 1))) (pg_nb B (pg_vt y 2)) = _
  unfold pg_st
  rw [Nat.zero_max]
theorem c_T_start (l : Launch) (G : xj_G) (v : xn_V) (B : pg_B) (hB : xt_B B v) (m : Nat) (hm : m < B.1) (hy : xt_vk B m) : xn_M l G 1 22 m_T_start [.ref (xj_ad G (21, 0, 0)), .int (nI m)] v (some (.int (nI (pg_st B (pg_b B m))))) v := by
  have hz := hB.2.1
  refine xn_M_of (by decide) (Nat.le_of_ble_eq_true rfl) (fun E hE C => ?_)
  subst hE
  replace C : xj_C E G prog_9_method_10_code "ThreePhaseGroupModel" 6 1 22 0 0 (some .int) := C
  show xn_X E G _ 0 0 0 [some (.ref (xj_ad G (21, 0, 0))), some (.int (nI m)), none, none, none, none] [] v
  refine xj_lconst (v := lN 0) C a_T_start_0 (by decide) ?_
  refine xj_lstore2 C a_T_start_1 rfl ?_
  refine xj_iconst (v := nI 0) C a_T_start_2 (by decide) ?_
  refine xj_istore4 C a_T_start_3 rfl ?_
  have loop : ∀ n k : Nat, k ≤ 3 → 3 - k < n → xp_mx B (pg_b B m) k < 390 → ∀ z : Option Value, xn_X E G (xj_R E G (fun a' w' => a' = some (.int (nI (pg_st B (pg_b B m)))) ∧ w' = xn_W v) 0 0) 0 0 5 [some (.ref (xj_ad G (21, 0, 0))), some (.int (nI m)), some (.long (lN (xp_mx B (pg_b B m) k))), none, some (.int (nI k)), z] [] v := by
    intro n
    induction n with
    | zero => intro k _ h; omega
    | succ n ih =>
      intro k hk hn hmx z
      refine xj_iload C a_T_start_5 rfl ?_
      refine xj_iconst (v := nI 3) C a_T_start_7 (by decide) ?_
      refine xj_icmp_ge C a_T_start_8 rfl (fun h8 => ?_) (fun h8 => ?_)
      · rw [nI_leI (by omega) (by omega)] at h8
        have : k = 3 := by omega
        subst this
        rw [xp_mx_3]
        refine xj_lload_n C a_T_start_46 rfl ?_
        refine xj_l2i C a_T_start_47 ?_
        refine xj_topi (lN_i _) ?_
        refine xj_iret C a_T_start_48 ?_
        exact ⟨rfl, rfl⟩
      · rw [nI_leI (by omega) (by omega)] at h8
        obtain ⟨n1, n2⟩ := hy.nb (show k < 3 by omega)
        have hv := (hy k (by omega)).1
        have e : xp_mx B (pg_b B m) (k + 1) = max (xp_mx B (pg_b B m) k) (pg_nb B (pg_vt (pg_b B m) k)) := rfl
        have nxt := ih (k + 1) (by omega) (by omega) (by rw [e]; omega)
        refine xj_aload_n C a_T_start_11 rfl ?_
        refine xj_iload_n C a_T_start_12 rfl ?_
        refine xj_iload C a_T_start_13 rfl ?_
        refine xn_callV2i C a_T_start_15 (c_T_vote _ _ v B hB m hm k (by omega)) mv_T_vote lk_T_111 ⟨rfl, rfl, rfl⟩ xj_ok21 ⟨by decide, by decide⟩ rfl (Nat.le_of_ble_eq_true rfl) ⟨Nat.le_refl _, Nat.le_refl _⟩ ?_
        refine xj_istore5 C a_T_start_18 rfl ?_
        refine xj_aload_n C a_T_start_20 rfl ?_
        refine xn_g_T_b C a_T_start_21 fl_T_19 ?_
        refine xj_iload C a_T_start_24 rfl ?_
        refine xn_ld_25 C a_T_start_26 (by first | assumption | omega) ?_
        refine xj_topl ((hB.b hv).trans n2) ?_
        refine xj_lload_n C a_T_start_27 rfl ?_
        refine xj_lcmp C a_T_start_28 ?_
        refine xj_if_le C a_T_start_29 rfl (fun h29 => ?_) (fun h29 => ?_)
        · rw [xp_cmp_le, pk_lLE (by omega) (by omega)] at h29
          rw [e, Nat.max_eq_left h29] at nxt
          refine xj_iincN4 C a_T_start_40 rfl ?_
          refine xj_goto C a_T_start_43 rfl ?_
          exact nxt _
        · rw [xp_cmp_le, pk_lLE (by omega) (by omega)] at h29
          rw [e, Nat.max_eq_right (by omega)] at nxt
          refine xj_aload_n C a_T_start_32 rfl ?_
          refine xn_g_T_b C a_T_start_33 fl_T_19 ?_
          refine xj_iload C a_T_start_36 rfl ?_
          refine xn_ld_25 C a_T_start_38 (by first | assumption | omega) ?_
          refine xj_topl ((hB.b hv).trans n2) ?_
          refine xj_lstore2 C a_T_start_39 rfl ?_
          refine xj_iincN4 C a_T_start_40 rfl ?_
          refine xj_goto C a_T_start_43 rfl ?_
          exact nxt _
  exact loop 4 0 (by omega) (by omega) (show 0 < 390 by decide) none
theorem xp_lsub (n p : Nat) (hn : n < 1000) (hp : p < 1000) : (lN n - lN p - lN 1).toInt = (n : Int) - p - 1 := by
  rw [Int64.toInt_sub, Int64.toInt_sub, pk_lT (by omega), pk_lT (by omega), pk_lT (by omega), Int.bmod_def, Int.bmod_def]
  omega
theorem c_T_claim (l : Launch) (G : xj_G) (v : xn_V) (B : pg_B) (hB : xt_B B v) (x n p : Nat) (hx : x < B.1) (hn : n < 1000) (hp : p < 1000) (hb : pg_b B x = lN p) : xn_M l G 0 0 m_T_claim [.ref (xj_ad G (21, 0, 0)), .int (nI x), .int (nI n)] v (some (.int (nI (pg_cm B x n)))) v := by
  have hz := hB.2.1
  have hl : (nI n).toInt64 = lN n := nI_l (by omega)
  have hsub := xp_lsub n p hn hp
  have hnb : pg_nb B x = p := pg_nb_n hb (by omega)
  refine xn_M_of (by decide) (Nat.le_of_ble_eq_true rfl) (fun E hE C => ?_)
  subst hE
  replace C : xj_C E G prog_9_method_11_code "ThreePhaseGroupModel" 5 0 0 0 0 (some .int) := C
  show xn_X E G _ 0 0 0 [some (.ref (xj_ad G (21, 0, 0))), some (.int (nI x)), some (.int (nI n)), none, none] [] v
  have no : ¬ (p < n ∧ n ≤ p + 4) → ∀ z1 : Option Value, xn_X E G (xj_R E G (fun a' w' => a' = some (.int (nI (pg_cm B x n))) ∧ w' = xn_W v) 0 0) 0 0 26 [some (.ref (xj_ad G (21, 0, 0))), some (.int (nI x)), some (.int (nI n)), z1, none] [] v := by
    intro h z1
    refine xj_iconst (v := nI 0) C a_T_claim_26 (by decide) ?_
    refine xj_goto C a_T_claim_27 rfl ?_
    refine xj_iret C a_T_claim_44 ?_
    refine ⟨?_, rfl⟩
    unfold pg_cm
    rw [hnb, if_neg h]
  refine xj_iload_n C a_T_claim_0 rfl ?_
  refine xj_i2l C a_T_claim_1 ?_
  refine xj_topl hl ?_
  refine xj_aload_n C a_T_claim_2 rfl ?_
  refine xn_g_T_b C a_T_claim_3 fl_T_19 ?_
  refine xj_iload_n C a_T_claim_6 rfl ?_
  refine xn_ld_25 C a_T_claim_7 (by first | assumption | omega) ?_
  refine xj_topl ((hB.b hx).trans hb) ?_
  refine xj_lsub C a_T_claim_8 ?_
  refine xj_lconst (v := lN 1) C a_T_claim_9 (by decide) ?_
  refine xj_lsub C a_T_claim_10 ?_
  refine xj_lstore3 C a_T_claim_11 rfl ?_
  refine xj_lload_n C a_T_claim_12 rfl ?_
  refine xj_lconst (v := lN 0) C a_T_claim_13 (by decide) ?_
  refine xj_lcmp C a_T_claim_14 ?_
  refine xj_if_lt C a_T_claim_15 rfl (fun h15 => ?_) (fun h15 => ?_)
  · rw [xp_cmp_lt] at h15
    have h15 := Int64.lt_iff_toInt_lt.mp h15
    rw [hsub, pk_lT (by omega)] at h15
    exact no (by omega) _
  · rw [xp_cmp_lt] at h15
    have h15 : ¬ (lN n - lN p - lN 1).toInt < (lN 0).toInt := fun h => h15 (Int64.lt_iff_toInt_lt.mpr h)
    rw [hsub, pk_lT (by omega)] at h15
    have h3 : (3 : Int64).toInt = 3 := by decide
    refine xj_lload_n C a_T_claim_18 rfl ?_
    refine xj_ldc2 C a_T_claim_19 kl_T_123 ?_
    refine xj_lcmp C a_T_claim_22 ?_
    refine xj_if_le C a_T_claim_23 rfl (fun h23 => ?_) (fun h23 => ?_)
    · rw [xp_cmp_le] at h23
      have h23 := Int64.le_iff_toInt_le.mp h23
      rw [hsub, h3] at h23
      have hj : lN n - lN p - lN 1 = lN (n - 1 - p) := by
        apply Int64.toInt_inj.mp
        rw [hsub, pk_lT (by omega)]
        omega
      rw [hj]
      refine xj_aload_n C a_T_claim_30 rfl ?_
      refine xn_g_T_c C a_T_claim_31 fl_T_23 ?_
      refine xj_iload_n C a_T_claim_34 rfl ?_
      refine xn_ld_26 C a_T_claim_35 (by first | assumption | omega) ?_
      refine xj_topi (hB.c hx) ?_
      refine xj_iconst (v := nI 5) C a_T_claim_36 (by decide) ?_
      refine xj_lload_n C a_T_claim_37 rfl ?_
      refine xj_l2i C a_T_claim_38 ?_
      refine xj_topi (lN_i _) ?_
      refine xj_imulN C a_T_claim_39 ?_
      refine xj_iushr C a_T_claim_40 ?_
      refine xj_bipush (v := nI 31) C a_T_claim_41 (by decide) ?_
      refine xj_iand C a_T_claim_43 ?_
      refine xj_topi (y := nI (pg_cl (pg_c B x) (n - 1 - p))) (xb_iush (pg_c B x) (s := 5 * (n - 1 - p)) (j := 5) (by omega) (by omega)) ?_
      refine xj_iret C a_T_claim_44 ?_
      refine ⟨?_, rfl⟩
      unfold pg_cm
      rw [hnb, if_pos (by omega)]
    · rw [xp_cmp_le] at h23
      have h23 : ¬ (lN n - lN p - lN 1).toInt ≤ (3 : Int64).toInt := fun h => h23 (Int64.le_iff_toInt_le.mpr h)
      rw [hsub, h3] at h23
      exact no (by omega) _
theorem pg_tp_lt (B : pg_B) (y : Int64) (n : Nat) : ∀ k, (pg_tp B y n k).1 < 32
  | 0 => by show 0 < 32; decide
  | k + 1 => by
    have ih := pg_tp_lt B y n k
    show (if (pg_tp B y n k).1 < pg_cm B (pg_vt y k) n then (pg_cm B (pg_vt y k) n, pg_vt y k) else pg_tp B y n k).1 < 32
    split
    · exact pg_cm_lt _ _ _
    · exact ih
theorem pg_tp_by0 {B : pg_B} {y : Int64} {n z : Nat} (hz : 0 < z) : ∀ j, (∀ k, k < j → pg_vt y k < z) → (pg_tp B y n j).2 < z
  | 0, _ => hz
  | j + 1, hv => by
    have ih := pg_tp_by0 (B := B) (n := n) hz j (fun k hk => hv k (by omega))
    show (if (pg_tp B y n j).1 < pg_cm B (pg_vt y j) n then (pg_cm B (pg_vt y j) n, pg_vt y j) else pg_tp B y n j).2 < z
    split
    · exact hv j (by omega)
    · exact ih
/-- the greatest claim for the order j -/
def xp_tj (B : pg_B) (y : Int64) (j : Nat) : Nat := (pg_tp B y (pg_st B y + 1 + j) 3).1
/-- a later order is due, from t on -/
def xp_lt (B : pg_B) (y : Int64) (t : Nat) : Bool := (List.range 4).any (fun i => decide (t ≤ i) && decide (0 < xp_tj B y i))
theorem xp_lt_s (B : pg_B) (y : Int64) (t : Nat) (ht : t < 4) : xp_lt B y t = (xp_lt B y (t + 1) || decide (0 < xp_tj B y t)) := by
  unfold xp_lt
  rw [Bool.eq_iff_iff, Bool.or_eq_true, List.any_eq_true, List.any_eq_true]
  constructor
  · rintro ⟨i, h1, h2⟩
    simp only [Bool.and_eq_true, decide_eq_true_eq] at h2
    by_cases e : i = t
    · subst e; exact Or.inr (decide_eq_true h2.2)
    · exact Or.inl ⟨i, h1, by simp only [Bool.and_eq_true, decide_eq_true_eq]; exact ⟨by omega, h2.2⟩⟩
  · rintro (⟨i, h1, h2⟩ | h)
    · simp only [Bool.and_eq_true, decide_eq_true_eq] at h2
      exact ⟨i, h1, by simp only [Bool.and_eq_true, decide_eq_true_eq]; exact ⟨by omega, h2.2⟩⟩
    · exact ⟨t, List.mem_range.mpr ht, by simp only [Bool.and_eq_true, decide_eq_true_eq]; exact ⟨Nat.le_refl _, of_decide_eq_true h⟩⟩
theorem pg_cd_lt (B : pg_B) (y : Int64) (j : Nat) : pg_cd B y j = if 0 < xp_tj B y j then pg_back B (xp_tj B y j - 1) (lN (pg_st B y + 1 + j)) (pg_tp B y (pg_st B y + 1 + j) 3).2 + 2 else if xp_lt B y (j + 1) then 1 else 0 := rfl
def xp_al (B : pg_B) (y : Int64) : Nat → Int32
  | 0 => ((0 ||| pg_cd B y 3 <<< (24 : Int32)) ||| pg_cd B y 2 <<< (16 : Int32)) ||| pg_cd B y 1 <<< (8 : Int32) ||| pg_cd B y 0 <<< (0 : Int32)
  | 1 => ((0 ||| pg_cd B y 3 <<< (24 : Int32)) ||| pg_cd B y 2 <<< (16 : Int32)) ||| pg_cd B y 1 <<< (8 : Int32)
  | 2 => (0 ||| pg_cd B y 3 <<< (24 : Int32)) ||| pg_cd B y 2 <<< (16 : Int32)
  | 3 => 0 ||| pg_cd B y 3 <<< (24 : Int32)
  | _ => 0
theorem xp_al_s (B : pg_B) (y : Int64) (t : Nat) (ht : t < 4) : xp_al B y t = xp_al B y (t + 1) ||| pg_cd B y t <<< (nI (8 * t) &&& 31) := by
  rcases (show t = 0 ∨ t = 1 ∨ t = 2 ∨ t = 3 by omega) with rfl | rfl | rfl | rfl
  · rw [show nI (8 * 0) &&& 31 = 0 by decide]; rfl
  · rw [show nI (8 * 1) &&& 31 = 8 by decide]; rfl
  · rw [show nI (8 * 2) &&& 31 = 16 by decide]; rfl
  · rw [show nI (8 * 3) &&& 31 = 24 by decide]; rfl
theorem c_T_orders (l : Launch) (G : xj_G) (v : xn_V) (B : pg_B) (hB : xt_B B v) (m : Nat) (hm : m < B.1) (hy : xt_vk B m) : xn_M l G 2 56 m_T_orders [.ref (xj_ad G (21, 0, 0)), .int (nI m)] v (some (.int (pg_od B (pg_b B m)))) v := by
  have hz := hB.2.1
  have hst : pg_st B (pg_b B m) < 390 := pg_st_lt (by decide) (fun k hk => (hy k hk).2)
  obtain ⟨y, hyy⟩ : ∃ y, y = pg_b B m := ⟨_, rfl⟩
  have hod : pg_od B (pg_b B m) = xp_al B y 0 := by rw [hyy]; rfl
  rw [hod]
  refine xn_M_of (by decide) (Nat.le_of_ble_eq_true rfl) (fun E hE C => ?_)
  subst hE
  replace C : xj_C E G prog_9_method_12_code "ThreePhaseGroupModel" 11 2 56 0 0 (some .int) := C
  show xn_X E G _ 0 0 0 [some (.ref (xj_ad G (21, 0, 0))), some (.int (nI m)), none, none, none, none, none, none, none, none, none] [] v
  refine xj_iconst (v := nI 0) C a_T_orders_0 (by decide) ?_
  refine xj_istore2 C a_T_orders_1 rfl ?_
  refine xj_iconst (v := nI 0) C a_T_orders_2 (by decide) ?_
  refine xj_istore3 C a_T_orders_3 rfl ?_
  refine xj_iconst (v := nI 3) C a_T_orders_4 (by decide) ?_
  refine xj_istore4 C a_T_orders_5 rfl ?_
  have loop : ∀ t : Nat, t ≤ 4 → ∀ x4 : Int32, x4 = (if t = 0 then -1 else nI (t - 1)) → ∀ z1 z2 z3 z4 z5 z6 : Option Value, xn_X E G (xj_R E G (fun a' w' => a' = some (.int (xp_al B y 0)) ∧ w' = xn_W v) 0 0) 0 0 7 [some (.ref (xj_ad G (21, 0, 0))), some (.int (nI m)), some (.int (xp_al B y t)), some (.int (xp_b (xp_lt B y t))), some (.int x4), z1, z2, z3, z4, z5, z6] [] v := by
    intro t
    induction t with
    | zero =>
      intro _ x4 hx4 z1 z2 z3 z4 z5 z6
      rw [if_pos rfl] at hx4
      subst hx4
      refine xj_iload C a_T_orders_7 rfl ?_
      refine xj_if_lt C a_T_orders_9 rfl (fun _ => ?_) (fun h => absurd (by decide) h)
      refine xj_iload_n C a_T_orders_152 rfl ?_
      refine xj_iret C a_T_orders_153 ?_
      exact ⟨rfl, rfl⟩
    | succ t ih =>
      intro ht x4 hx4 z1 z2 z3 z4 z5 z6
      rw [if_neg (by omega), Nat.add_sub_cancel] at hx4
      subst hx4
      have t32 := pg_tp_lt B y (pg_st B y + 1 + t) 3
      have hby := pg_tp_by0 (B := B) (y := y) (n := pg_st B y + 1 + t) (z := B.1) (by omega) 3 (fun k hk => by rw [hyy]; exact (hy k hk).1)
      have hst2 : pg_st B y < 390 := by rw [hyy]; exact hst
      have ht4 : t < 4 := by omega
      refine xj_iload C a_T_orders_7 rfl ?_
      refine xj_if_lt C a_T_orders_9 rfl (fun h9 => absurd h9 (by intro h; have h : nI t < nI 0 := h; rw [nI_ltI (by omega) (by omega)] at h; omega)) (fun _ => ?_)
      refine xj_aload_n C a_T_orders_12 rfl ?_
      refine xj_iload_n C a_T_orders_13 rfl ?_
      refine xn_callV1i C a_T_orders_14 (c_T_start _ _ v B hB m hm hy) mv_T_start lk_T_125 ⟨rfl, rfl, rfl⟩ xj_ok21 ⟨by decide, by decide⟩ rfl (Nat.le_of_ble_eq_true rfl) ⟨Nat.le_refl _, Nat.le_refl _⟩ ?_
      rw [← hyy]
      refine xj_iconst (v := nI 1) C a_T_orders_17 (by decide) ?_
      refine xj_iaddN C a_T_orders_18 ?_
      refine xj_iload C a_T_orders_19 rfl ?_
      refine xj_iaddN C a_T_orders_21 ?_
      refine xj_istore5 C a_T_orders_22 rfl ?_
      refine xj_iconst (v := nI 0) C a_T_orders_24 (by decide) ?_
      refine xj_istore6 C a_T_orders_25 rfl ?_
      refine xj_iconst (v := nI 0) C a_T_orders_27 (by decide) ?_
      refine xj_istore7 C a_T_orders_28 rfl ?_
      refine xj_iconst (v := nI 0) C a_T_orders_30 (by decide) ?_
      refine xj_istore8 C a_T_orders_31 rfl ?_
      have inner : ∀ n k : Nat, k ≤ 3 → 3 - k < n → ∀ z5 z6 : Option Value, xn_X E G (xj_R E G (fun a' w' => a' = some (.int (xp_al B y 0)) ∧ w' = xn_W v) 0 0) 0 0 33 [some (.ref (xj_ad G (21, 0, 0))), some (.int (nI m)), some (.int (xp_al B y (t + 1))), some (.int (xp_b (xp_lt B y (t + 1)))), some (.int (nI t)), some (.int (nI (pg_st B y + 1 + t))), some (.int (nI (pg_tp B y (pg_st B y + 1 + t) k).1)), some (.int (nI (pg_tp B y (pg_st B y + 1 + t) k).2)), some (.int (nI k)), z5, z6] [] v := by
        intro n
        induction n with
        | zero => intro k _ h; omega
        | succ n ih2 =>
          intro k hk hn z5 z6
          have t32k := pg_tp_lt B y (pg_st B y + 1 + t) k
          refine xj_iload C a_T_orders_33 rfl ?_
          refine xj_iconst (v := nI 3) C a_T_orders_35 (by decide) ?_
          refine xj_icmp_ge C a_T_orders_36 rfl (fun h36 => ?_) (fun h36 => ?_)
          · rw [nI_leI (by omega) (by omega)] at h36
            have : k = 3 := by omega
            subst this
            have fin : ∀ cd, cd = pg_cd B y t → xn_X E G (xj_R E G (fun a' w' => a' = some (.int (xp_al B y 0)) ∧ w' = xn_W v) 0 0) 0 0 118 [some (.ref (xj_ad G (21, 0, 0))), some (.int (nI m)), some (.int (xp_al B y (t + 1))), some (.int (xp_b (xp_lt B y (t + 1)))), some (.int (nI t)), some (.int (nI (pg_st B y + 1 + t))), some (.int (nI (pg_tp B y (pg_st B y + 1 + t) 3).1)), some (.int (nI (pg_tp B y (pg_st B y + 1 + t) 3).2)), some (.int (nI 3)), z5, z6] [.int cd] v := by
              rintro cd rfl
              have nxt := ih (by omega)
              rw [xp_al_s B y t ht4, xp_lt_s B y t ht4] at nxt
              have dec : ∀ x : Int32, x = nI t + (-1) → x = (if t = 0 then -1 else nI (t - 1)) := by
                rintro x rfl
                by_cases e : t = 0
                · rw [if_pos e, e]; decide
                · rw [if_neg e]
                  obtain ⟨u, rfl⟩ : ∃ u, t = u + 1 := ⟨t - 1, by omega⟩
                  rw [pk_m1]
                  rfl
              refine xj_istore8 C a_T_orders_118 rfl ?_
              refine xj_iload_n C a_T_orders_120 rfl ?_
              refine xj_iload C a_T_orders_121 rfl ?_
              refine xj_bipush (v := nI 8) C a_T_orders_123 (by decide) ?_
              refine xj_iload C a_T_orders_125 rfl ?_
              refine xj_imulN C a_T_orders_127 ?_
              refine xj_ishl C a_T_orders_128 ?_
              refine xj_ior C a_T_orders_129 ?_
              refine xj_istore2 C a_T_orders_130 rfl ?_
              refine xj_iload_n C a_T_orders_131 rfl ?_
              refine xj_if_ne C a_T_orders_132 rfl (fun h132 => ?_) (fun h132 => ?_)
              · rw [xp_b0] at h132
                have h132 : xp_lt B y (t + 1) = true := by rw [← Bool.not_eq_false]; exact h132
                rw [h132, Bool.true_or] at nxt
                refine xj_iconst (v := nI 1) C a_T_orders_140 (by decide) ?_
                refine xj_goto C a_T_orders_141 rfl ?_
                refine xj_istore3 C a_T_orders_145 rfl ?_
                refine xj_iinc4 (v := -1) C a_T_orders_146 (by decide) rfl ?_
                refine xj_goto C a_T_orders_149 rfl ?_
                exact nxt _ (dec _ rfl) _ _ _ _ _ _
              · rw [xp_b0] at h132
                have h132 : xp_lt B y (t + 1) = false := by simpa using h132
                refine xj_iload C a_T_orders_135 rfl ?_
                refine xj_if_le C a_T_orders_137 rfl (fun h137 => ?_) (fun h137 => ?_)
                · have h137 : nI (pg_tp B y (pg_st B y + 1 + t) 3).1 ≤ nI 0 := h137
                  rw [nI_leI (by omega) (by omega)] at h137
                  rw [h132, decide_eq_false (show ¬ 0 < xp_tj B y t by unfold xp_tj; omega), Bool.false_or] at nxt
                  refine xj_iconst (v := nI 0) C a_T_orders_144 (by decide) ?_
                  refine xj_istore3 C a_T_orders_145 rfl ?_
                  refine xj_iinc4 (v := -1) C a_T_orders_146 (by decide) rfl ?_
                  refine xj_goto C a_T_orders_149 rfl ?_
                  exact nxt _ (dec _ rfl) _ _ _ _ _ _
                · have h137 : ¬ nI (pg_tp B y (pg_st B y + 1 + t) 3).1 ≤ nI 0 := h137
                  rw [nI_leI (by omega) (by omega)] at h137
                  rw [h132, decide_eq_true (show 0 < xp_tj B y t by unfold xp_tj; omega), Bool.false_or] at nxt
                  refine xj_iconst (v := nI 1) C a_T_orders_140 (by decide) ?_
                  refine xj_goto C a_T_orders_141 rfl ?_
                  refine xj_istore3 C a_T_orders_145 rfl ?_
                  refine xj_iinc4 (v := -1) C a_T_orders_146 (by decide) rfl ?_
                  refine xj_goto C a_T_orders_149 rfl ?_
                  exact nxt _ (dec _ rfl) _ _ _ _ _ _
            refine xj_iload C a_T_orders_86 rfl ?_
            refine xj_if_le C a_T_orders_88 rfl (fun h88 => ?_) (fun h88 => ?_)
            · have h88 : nI (pg_tp B y (pg_st B y + 1 + t) 3).1 ≤ nI 0 := h88
              rw [nI_leI (by omega) (by omega)] at h88
              have ecd : pg_cd B y t = if xp_lt B y (t + 1) then 1 else 0 := by
                rw [pg_cd_lt, if_neg (show ¬ 0 < xp_tj B y t by unfold xp_tj; omega)]
              refine xj_iload_n C a_T_orders_109 rfl ?_
              refine xj_if_eq C a_T_orders_110 rfl (fun h110 => ?_) (fun h110 => ?_)
              · rw [xp_b0] at h110
                refine xj_iconst (v := nI 0) C a_T_orders_117 (by decide) ?_
                exact fin _ (by rw [ecd, h110]; rfl)
              · rw [xp_b0] at h110
                have h110 : xp_lt B y (t + 1) = true := by rw [← Bool.not_eq_false]; exact h110
                refine xj_iconst (v := nI 1) C a_T_orders_113 (by decide) ?_
                refine xj_goto C a_T_orders_114 rfl ?_
                exact fin _ (by rw [ecd, h110]; rfl)
            · have h88 : ¬ nI (pg_tp B y (pg_st B y + 1 + t) 3).1 ≤ nI 0 := h88
              rw [nI_leI (by omega) (by omega)] at h88
              have hl : (nI (pg_st B y + 1 + t)).toInt64 = lN (pg_st B y + 1 + t) := nI_l (by omega)
              refine xj_aload_n C a_T_orders_91 rfl ?_
              refine xj_iload C a_T_orders_92 rfl ?_
              refine xj_iconst (v := nI 1) C a_T_orders_94 (by decide) ?_
              refine xj_isub C a_T_orders_95 ?_
              refine xj_topi (y := nI ((pg_tp B y (pg_st B y + 1 + t) 3).1 - 1)) (pk_sub (by omega)) ?_
              refine xj_iload C a_T_orders_96 rfl ?_
              refine xj_i2l C a_T_orders_98 ?_
              refine xj_topl hl ?_
              refine xj_iload C a_T_orders_99 rfl ?_
              refine xn_callV3i C a_T_orders_101 (c_T_backing _ _ v B hB _ (by omega) _ _ (by omega)) mv_T_backing lk_T_103 ⟨rfl, rfl, rfl⟩ xj_ok21 ⟨by decide, by decide⟩ rfl (Nat.le_of_ble_eq_true rfl) ⟨Nat.le_refl _, Nat.le_refl _⟩ ?_
              refine xj_iconst (v := nI 2) C a_T_orders_104 (by decide) ?_
              refine xj_iadd C a_T_orders_105 ?_
              refine xj_goto C a_T_orders_106 rfl ?_
              refine fin _ ?_
              rw [pg_cd_lt, if_pos (show 0 < xp_tj B y t by unfold xp_tj; omega)]
              rfl
          · rw [nI_leI (by omega) (by omega)] at h36
            have hv := (hy k (by omega)).1
            obtain ⟨n1, n2⟩ := hy.nb (show k < 3 by omega)
            have nxt := ih2 (k + 1) (by omega) (by omega)
            have hcm := pg_cm_lt B (pg_vt y k) (pg_st B y + 1 + t)
            have e : pg_tp B y (pg_st B y + 1 + t) (k + 1) = if (pg_tp B y (pg_st B y + 1 + t) k).1 < pg_cm B (pg_vt y k) (pg_st B y + 1 + t) then (pg_cm B (pg_vt y k) (pg_st B y + 1 + t), pg_vt y k) else pg_tp B y (pg_st B y + 1 + t) k := rfl
            rw [e] at nxt
            refine xj_aload_n C a_T_orders_39 rfl ?_
            refine xj_iload_n C a_T_orders_40 rfl ?_
            refine xj_iload C a_T_orders_41 rfl ?_
            refine xn_callV2i C a_T_orders_43 (c_T_vote _ _ v B hB m hm k (by omega)) mv_T_vote lk_T_111 ⟨rfl, rfl, rfl⟩ xj_ok21 ⟨by decide, by decide⟩ rfl (Nat.le_of_ble_eq_true rfl) ⟨Nat.le_refl _, Nat.le_refl _⟩ ?_
            rw [← hyy] at hv n1 n2 ⊢
            refine xj_istore9 C a_T_orders_46 rfl ?_
            refine xj_aload_n C a_T_orders_48 rfl ?_
            refine xj_iload C a_T_orders_49 rfl ?_
            refine xj_iload C a_T_orders_51 rfl ?_
            refine xn_callV2i C a_T_orders_53 (c_T_claim _ _ v B hB (pg_vt y k) (pg_st B y + 1 + t) _ hv (by omega) (by omega) n2) mv_T_claim lk_T_128 ⟨rfl, rfl, rfl⟩ xj_ok21 ⟨by decide, by decide⟩ rfl (Nat.le_of_ble_eq_true rfl) ⟨Nat.le_refl _, Nat.le_refl _⟩ ?_
            refine xj_istore10 C a_T_orders_56 rfl ?_
            refine xj_iload C a_T_orders_58 rfl ?_
            refine xj_iload C a_T_orders_60 rfl ?_
            refine xj_icmp_le C a_T_orders_62 rfl (fun h62 => ?_) (fun h62 => ?_)
            · rw [nI_leI (by omega) (by omega)] at h62
              rw [if_neg (by omega)] at nxt
              refine xj_iload C a_T_orders_69 rfl ?_
              refine xj_iload C a_T_orders_71 rfl ?_
              refine xj_icmp_le C a_T_orders_73 rfl (fun _ => ?_) (fun h => absurd ((nI_leI (by omega) (by omega)).mpr h62) h)
              refine xj_iincN8 C a_T_orders_80 rfl ?_
              refine xj_goto C a_T_orders_83 rfl ?_
              exact nxt _ _
            · rw [nI_leI (by omega) (by omega)] at h62
              rw [if_pos (by omega)] at nxt
              refine xj_iload C a_T_orders_65 rfl ?_
              refine xj_istore7 C a_T_orders_67 rfl ?_
              refine xj_iload C a_T_orders_69 rfl ?_
              refine xj_iload C a_T_orders_71 rfl ?_
              refine xj_icmp_le C a_T_orders_73 rfl (fun h => absurd ((nI_leI (by omega) (by omega)).mp h) h62) (fun _ => ?_)
              refine xj_iload C a_T_orders_76 rfl ?_
              refine xj_istore6 C a_T_orders_78 rfl ?_
              refine xj_iincN8 C a_T_orders_80 rfl ?_
              refine xj_goto C a_T_orders_83 rfl ?_
              exact nxt _ _
      exact inner 4 0 (by omega) (by omega) _ _
  exact loop 4 (by omega) (nI 3) (by decide) none none none none none none
theorem c_T_goodNew (l : Launch) (G : xj_G) (v : xn_V) (B : pg_B) (hB : xt_B B v) (hcp : ∀ x, x < B.1 → pg_gc B x = true → ∃ p, p < 390 ∧ pg_b B x = lN p) (m : Nat) (hm : m < B.1) : xn_M l G 3 86 m_T_goodNew [.ref (xj_ad G (21, 0, 0)), .int (nI m)] v (some (.int (xp_b (pg_gn B m)))) v := by
  have hz := hB.2.1
  have hw := hB.2.2.1 m hm
  refine xn_M_of (by decide) (Nat.le_of_ble_eq_true rfl) (fun E hE C => ?_)
  subst hE
  replace C : xj_C E G prog_9_method_9_code "ThreePhaseGroupModel" 6 3 86 0 0 (some .boolean) := C
  show xn_X E G _ 0 0 0 [some (.ref (xj_ad G (21, 0, 0))), some (.int (nI m)), none, none, none, none] [] v
  have no : pg_gn B m = false → xn_X E G (xj_R E G (fun a' w' => a' = some (.int (xp_b (pg_gn B m))) ∧ w' = xn_W v) 0 0) 0 0 50 [some (.ref (xj_ad G (21, 0, 0))), some (.int (nI m)), none, none, none, none] [] v := by
    intro h
    refine xj_iconst (v := nI 0) C a_T_goodNew_50 (by decide) ?_
    exact xj_zret C a_T_goodNew_51 rfl ⟨xp_f h, rfl⟩
  refine xj_aload_n C a_T_goodNew_0 rfl ?_
  refine xn_g_T_kind C a_T_goodNew_1 fl_T_7 ?_
  refine xj_iload_n C a_T_goodNew_4 rfl ?_
  refine xn_ld_22 C a_T_goodNew_5 (by first | assumption | omega) ?_
  refine xj_topi (hB.k (by omega)) ?_
  refine xj_bipush (v := nI 6) C a_T_goodNew_6 (by decide) ?_
  refine xj_icmp_ne C a_T_goodNew_8 rfl (fun h8 => ?_) (fun h8 => ?_)
  · rw [nI_eq (by omega) (by omega)] at h8
    exact no (pg_gn_k h8)
  · rw [nI_eq (by omega) (by omega)] at h8
    have h8 : pg_k B m = 6 := by simpa using h8
    refine xj_aload_n C a_T_goodNew_11 rfl ?_
    refine xn_g_T_a C a_T_goodNew_12 fl_T_16 ?_
    refine xj_iload_n C a_T_goodNew_15 rfl ?_
    refine xn_ld_24 C a_T_goodNew_16 (by first | assumption | omega) ?_
    refine xj_topi (hB.a (by omega)) ?_
    refine xj_iconst (v := nI 1) C a_T_goodNew_17 (by decide) ?_
    refine xj_bipush (v := nI 15) C a_T_goodNew_18 (by decide) ?_
    refine xn_callS3i C a_T_goodNew_20 (c_T_outside _ _ v (pg_a B m) (nI 1) (nI 15)) ms_T_outside lk_T_95 ⟨by decide, by decide⟩ rfl (Nat.le_of_ble_eq_true rfl) ⟨Nat.le_refl _, Nat.le_refl _⟩ ?_
    refine xj_if_ne C a_T_goodNew_23 rfl (fun h23 => ?_) (fun h23 => ?_)
    · rw [xp_b0, xp_out15] at h23
      refine no ?_
      unfold pg_gn
      rw [Bool.eq_false_iff]
      intro h
      simp only [Bool.and_eq_true, decide_eq_true_eq] at h
      exact h23 ⟨h.2.1, h.2.2.1⟩
    · rw [xp_b0] at h23
      have h23 : decide (pg_a B m < nI 1 ∨ ¬ pg_a B m ≤ nI 15) = false := by simpa using h23
      rw [xp_out15] at h23
      have hcv : ((pg_b B m).toBitVec.toNat ≤ 16777215) ↔ (¬ pg_b B m < 0 ∧ pg_b B m ≤ 16777215) := by
        have e0 : (0 : Int64).toInt = 0 := by decide
        have e1 : (16777215 : Int64).toInt = 16777215 := by decide
        rw [Int64.lt_iff_toInt_lt, Int64.le_iff_toInt_le, e0, e1]
        have h1 : (pg_b B m).toInt = (pg_b B m).toBitVec.toInt := rfl
        have h2 := (pg_b B m).toBitVec.isLt
        rw [h1, BitVec.toInt_eq_toNat_cond]
        split <;> omega
      refine xj_aload_n C a_T_goodNew_26 rfl ?_
      refine xn_g_T_b C a_T_goodNew_27 fl_T_19 ?_
      refine xj_iload_n C a_T_goodNew_30 rfl ?_
      refine xn_ld_25 C a_T_goodNew_31 (by first | assumption | omega) ?_
      refine xj_topl (hB.b (by omega)) ?_
      refine xj_lconst (v := lN 0) C a_T_goodNew_32 (by decide) ?_
      refine xj_lcmp C a_T_goodNew_33 ?_
      refine xj_if_lt C a_T_goodNew_34 rfl (fun h34 => ?_) (fun h34 => ?_)
      · rw [xp_cmp_lt] at h34
        refine no ?_
        unfold pg_gn
        rw [decide_eq_false (fun h => (hcv.mp h).1 h34), Bool.false_and, Bool.and_false, Bool.and_false, Bool.and_false]
      · rw [xp_cmp_lt] at h34
        refine xj_aload_n C a_T_goodNew_37 rfl ?_
        refine xn_g_T_b C a_T_goodNew_38 fl_T_19 ?_
        refine xj_iload_n C a_T_goodNew_41 rfl ?_
        refine xn_ld_25 C a_T_goodNew_42 (by first | assumption | omega) ?_
        refine xj_topl (hB.b (by omega)) ?_
        refine xj_ldc2 C a_T_goodNew_43 kl_T_109 ?_
        refine xj_lcmp C a_T_goodNew_46 ?_
        refine xj_if_le C a_T_goodNew_47 rfl (fun h47 => ?_) (fun h47 => ?_)
        · rw [xp_cmp_le] at h47
          have hb24 : (pg_b B m).toBitVec.toNat ≤ 16777215 := hcv.mpr ⟨h34, h47⟩
          obtain ⟨P, hP⟩ : ∃ P : Nat → Bool, P = fun k => decide (pg_vt (pg_b B m) k < m) && (pg_a B (pg_vt (pg_b B m) k) == pg_a B m && (pg_gc B (pg_vt (pg_b B m) k) && (List.range k).all (fun i => pg_f B (pg_vt (pg_b B m) i) != pg_f B (pg_vt (pg_b B m) k)))) := ⟨_, rfl⟩
          have egn : pg_gn B m = ((List.range 3).all P && pg_c B m == pg_od B (pg_b B m)) := by
            unfold pg_gn
            rw [h8, decide_eq_true h23.1, decide_eq_true h23.2, decide_eq_true hb24, hP]
            rfl
          have bad : ∀ pc k, pc = 94 ∨ pc = 130 → k < 3 → P k = false → ∀ z1 z2 z3 z4 : Option Value, xn_X E G (xj_R E G (fun a' w' => a' = some (.int (xp_b (pg_gn B m))) ∧ w' = xn_W v) 0 0) 0 0 pc [some (.ref (xj_ad G (21, 0, 0))), some (.int (nI m)), z1, z2, z3, z4] [] v := by
            intro pc k hpc hk h z1 z2 z3 z4
            have hf : pg_gn B m = false := by
              rw [egn, Bool.eq_false_iff]
              intro h2
              rw [Bool.and_eq_true, List.all_eq_true] at h2
              have := h2.1 k (List.mem_range.mpr hk)
              rw [h] at this
              cases this
            rcases hpc with rfl | rfl
            · refine xj_iconst (v := nI 0) C a_T_goodNew_94 (by decide) ?_
              exact xj_zret C a_T_goodNew_95 rfl ⟨xp_f hf, rfl⟩
            · refine xj_iconst (v := nI 0) C a_T_goodNew_130 (by decide) ?_
              exact xj_zret C a_T_goodNew_131 rfl ⟨xp_f hf, rfl⟩
          refine xj_iconst (v := nI 0) C a_T_goodNew_52 (by decide) ?_
          refine xj_istore2 C a_T_goodNew_53 rfl ?_
          have loop : ∀ N k : Nat, k ≤ 3 → 3 - k < N → (∀ i, i < k → P i = true) → ∀ z2 z3 z4 : Option Value, xn_X E G (xj_R E G (fun a' w' => a' = some (.int (xp_b (pg_gn B m))) ∧ w' = xn_W v) 0 0) 0 0 54 [some (.ref (xj_ad G (21, 0, 0))), some (.int (nI m)), some (.int (nI k)), z2, z3, z4] [] v := by
            intro N
            induction N with
            | zero => intro k _ h; omega
            | succ N ih =>
              intro k hk hN hall z2 z3 z4
              have hvl : ∀ i, i < k → pg_vt (pg_b B m) i < m := by
                intro i hi
                have := hall i hi
                rw [hP] at this
                dsimp only at this
                rw [Bool.and_eq_true] at this
                exact of_decide_eq_true this.1
              refine xj_iload_n C a_T_goodNew_54 rfl ?_
              refine xj_iconst (v := nI 3) C a_T_goodNew_55 (by decide) ?_
              refine xj_icmp_ge C a_T_goodNew_56 rfl (fun h56 => ?_) (fun h56 => ?_)
              · rw [nI_leI (by omega) (by omega)] at h56
                have : k = 3 := by omega
                subst this
                have hy : xt_vk B m := by
                  intro i hi
                  have h1 := hvl i hi
                  have := hall i hi
                  rw [hP] at this
                  dsimp only at this
                  simp only [Bool.and_eq_true] at this
                  exact ⟨by omega, hcp _ (by omega) this.2.2.1⟩
                have h3 : (List.range 3).all P = true := by
                  rw [List.all_eq_true]
                  exact fun i hi => hall i (List.mem_range.mp hi)
                rw [h3, Bool.true_and] at egn
                refine xj_aload_n C a_T_goodNew_144 rfl ?_
                refine xn_g_T_c C a_T_goodNew_145 fl_T_23 ?_
                refine xj_iload_n C a_T_goodNew_148 rfl ?_
                refine xn_ld_26 C a_T_goodNew_149 (by first | assumption | omega) ?_
                refine xj_topi (hB.c (by omega)) ?_
                refine xj_aload_n C a_T_goodNew_150 rfl ?_
                refine xj_iload_n C a_T_goodNew_151 rfl ?_
                refine xn_callV1i C a_T_goodNew_152 (c_T_orders _ _ v B hB m hm hy) mv_T_orders lk_T_119 ⟨rfl, rfl, rfl⟩ xj_ok21 ⟨by decide, by decide⟩ rfl (Nat.le_of_ble_eq_true rfl) ⟨Nat.le_refl _, Nat.le_refl _⟩ ?_
                refine xj_icmp_ne C a_T_goodNew_155 rfl (fun h155 => ?_) (fun h155 => ?_)
                · refine xj_iconst (v := nI 0) C a_T_goodNew_162 (by decide) ?_
                  refine xj_zret C a_T_goodNew_163 rfl ⟨xp_f ?_, rfl⟩
                  rw [egn]
                  simpa using h155
                · refine xj_iconst (v := nI 1) C a_T_goodNew_158 (by decide) ?_
                  refine xj_goto C a_T_goodNew_159 rfl ?_
                  refine xj_zret C a_T_goodNew_163 rfl ⟨xp_t ?_, rfl⟩
                  rw [egn]
                  simpa using h155
              · rw [nI_leI (by omega) (by omega)] at h56
                have hv256 : pg_vt (pg_b B m) k < 256 := Nat.mod_lt _ (by decide)
                refine xj_aload_n C a_T_goodNew_59 rfl ?_
                refine xj_iload_n C a_T_goodNew_60 rfl ?_
                refine xj_iload_n C a_T_goodNew_61 rfl ?_
                refine xn_callV2i C a_T_goodNew_62 (c_T_vote _ _ v B hB m hm k (by omega)) mv_T_vote lk_T_111 ⟨rfl, rfl, rfl⟩ xj_ok21 ⟨by decide, by decide⟩ rfl (Nat.le_of_ble_eq_true rfl) ⟨Nat.le_refl _, Nat.le_refl _⟩ ?_
                refine xj_istore3 C a_T_goodNew_65 rfl ?_
                refine xj_iload_n C a_T_goodNew_66 rfl ?_
                refine xj_iload_n C a_T_goodNew_67 rfl ?_
                refine xj_icmp_ge C a_T_goodNew_68 rfl (fun h68 => ?_) (fun h68 => ?_)
                · rw [nI_leI (by omega) (by omega)] at h68
                  refine bad 94 k (Or.inl rfl) (by omega) ?_ _ _ _ _
                  rw [hP]
                  dsimp only
                  rw [decide_eq_false (by omega), Bool.false_and]
                · rw [nI_leI (by omega) (by omega)] at h68
                  refine xj_aload_n C a_T_goodNew_71 rfl ?_
                  refine xn_g_T_a C a_T_goodNew_72 fl_T_16 ?_
                  refine xj_iload_n C a_T_goodNew_75 rfl ?_
                  refine xn_ld_24 C a_T_goodNew_76 (by first | assumption | omega) ?_
                  refine xj_topi (hB.a (by omega)) ?_
                  refine xj_aload_n C a_T_goodNew_77 rfl ?_
                  refine xn_g_T_a C a_T_goodNew_78 fl_T_16 ?_
                  refine xj_iload_n C a_T_goodNew_81 rfl ?_
                  refine xn_ld_24 C a_T_goodNew_82 (by first | assumption | omega) ?_
                  refine xj_topi (hB.a (by omega)) ?_
                  refine xj_icmp_ne C a_T_goodNew_83 rfl (fun h83 => ?_) (fun h83 => ?_)
                  · refine bad 94 k (Or.inl rfl) (by omega) ?_ _ _ _ _
                    rw [hP]
                    simp [h83]
                  · have h83 : pg_a B (pg_vt (pg_b B m) k) = pg_a B m := by simpa using h83
                    refine xj_aload_n C a_T_goodNew_86 rfl ?_
                    refine xj_iload_n C a_T_goodNew_87 rfl ?_
                    refine xn_callV1i C a_T_goodNew_88 (c_T_goodChange _ _ v B hB (pg_vt (pg_b B m) k) (by omega)) mv_T_goodChange lk_T_115 ⟨rfl, rfl, rfl⟩ xj_ok21 ⟨by decide, by decide⟩ rfl (Nat.le_of_ble_eq_true rfl) ⟨Nat.le_refl _, Nat.le_refl _⟩ ?_
                    refine xj_if_ne C a_T_goodNew_91 rfl (fun h91 => ?_) (fun h91 => ?_)
                    · rw [xp_b0] at h91
                      have h91 : pg_gc B (pg_vt (pg_b B m) k) = true := by rw [← Bool.not_eq_false]; exact h91
                      refine xj_iconst (v := nI 0) C a_T_goodNew_96 (by decide) ?_
                      refine xj_istore4 C a_T_goodNew_97 rfl ?_
                      have inner : ∀ N2 i : Nat, i ≤ k → k - i < N2 → (∀ j, j < i → ¬ pg_f B (pg_vt (pg_b B m) j) = pg_f B (pg_vt (pg_b B m) k)) → ∀ z4 : Option Value, xn_X E G (xj_R E G (fun a' w' => a' = some (.int (xp_b (pg_gn B m))) ∧ w' = xn_W v) 0 0) 0 0 99 [some (.ref (xj_ad G (21, 0, 0))), some (.int (nI m)), some (.int (nI k)), some (.int (nI (pg_vt (pg_b B m) k))), some (.int (nI i)), z4] [] v := by
                        intro N2
                        induction N2 with
                        | zero => intro i _ h; omega
                        | succ N2 ih2 =>
                          intro i hi hN2 hne z4
                          refine xj_iload C a_T_goodNew_99 rfl ?_
                          refine xj_iload_n C a_T_goodNew_101 rfl ?_
                          refine xj_icmp_ge C a_T_goodNew_102 rfl (fun h102 => ?_) (fun h102 => ?_)
                          · rw [nI_leI (by omega) (by omega)] at h102
                            have : i = k := by omega
                            subst this
                            refine xj_iincN2 C a_T_goodNew_138 rfl ?_
                            refine xj_goto C a_T_goodNew_141 rfl ?_
                            refine ih (i + 1) (by omega) (by omega) (fun j hj => ?_) _ _ _
                            by_cases e : j = i
                            · subst e
                              rw [hP]
                              dsimp only
                              rw [decide_eq_true (show pg_vt (pg_b B m) j < m by omega), h91]
                              have : (List.range j).all (fun q => pg_f B (pg_vt (pg_b B m) q) != pg_f B (pg_vt (pg_b B m) j)) = true := by
                                rw [List.all_eq_true]
                                intro q hq
                                have := hne q (List.mem_range.mp hq)
                                simpa using this
                              rw [this]
                              simp [h83]
                            · exact hall j (by omega)
                          · rw [nI_leI (by omega) (by omega)] at h102
                            have hvi := hvl i (by omega)
                            have f1 := hB.2.2.1 (pg_vt (pg_b B m) i) (by omega)
                            have f2 := hB.2.2.1 (pg_vt (pg_b B m) k) (by omega)
                            refine xj_aload_n C a_T_goodNew_105 rfl ?_
                            refine xj_iload_n C a_T_goodNew_106 rfl ?_
                            refine xj_iload C a_T_goodNew_107 rfl ?_
                            refine xn_callV2i C a_T_goodNew_109 (c_T_vote _ _ v B hB m hm i (by omega)) mv_T_vote lk_T_111 ⟨rfl, rfl, rfl⟩ xj_ok21 ⟨by decide, by decide⟩ rfl (Nat.le_of_ble_eq_true rfl) ⟨Nat.le_refl _, Nat.le_refl _⟩ ?_
                            refine xj_istore5 C a_T_goodNew_112 rfl ?_
                            refine xj_aload_n C a_T_goodNew_114 rfl ?_
                            refine xn_g_T_from C a_T_goodNew_115 fl_T_13 ?_
                            refine xj_iload C a_T_goodNew_118 rfl ?_
                            refine xn_ld_23 C a_T_goodNew_120 (by first | assumption | omega) ?_
                            refine xj_topi (hB.f (by omega)) ?_
                            refine xj_aload_n C a_T_goodNew_121 rfl ?_
                            refine xn_g_T_from C a_T_goodNew_122 fl_T_13 ?_
                            refine xj_iload_n C a_T_goodNew_125 rfl ?_
                            refine xn_ld_23 C a_T_goodNew_126 (by first | assumption | omega) ?_
                            refine xj_topi (hB.f (by omega)) ?_
                            refine xj_icmp_ne C a_T_goodNew_127 rfl (fun h127 => ?_) (fun h127 => ?_)
                            · rw [nI_eq (by omega) (by omega)] at h127
                              refine xj_iincN4 C a_T_goodNew_132 rfl ?_
                              refine xj_goto C a_T_goodNew_135 rfl ?_
                              refine ih2 (i + 1) (by omega) (by omega) (fun j hj => ?_) _
                              by_cases e : j = i
                              · subst e; exact h127
                              · exact hne j (by omega)
                            · rw [nI_eq (by omega) (by omega)] at h127
                              have h127 : pg_f B (pg_vt (pg_b B m) i) = pg_f B (pg_vt (pg_b B m) k) := by simpa using h127
                              refine bad 130 k (Or.inr rfl) (by omega) ?_ _ _ _ _
                              rw [hP]
                              dsimp only
                              have : (List.range k).all (fun q => pg_f B (pg_vt (pg_b B m) q) != pg_f B (pg_vt (pg_b B m) k)) = false := by
                                rw [Bool.eq_false_iff]
                                intro h
                                rw [List.all_eq_true] at h
                                have := h i (List.mem_range.mpr (by omega))
                                rw [h127] at this
                                simp at this
                              rw [this, Bool.and_false, Bool.and_false, Bool.and_false]
                      exact inner (k + 1) 0 (by omega) (by omega) (fun j hj => absurd hj (Nat.not_lt_zero j)) _
                    · rw [xp_b0] at h91
                      have h91 : pg_gc B (pg_vt (pg_b B m) k) = false := by simpa using h91
                      refine bad 94 k (Or.inl rfl) (by omega) ?_ _ _ _ _
                      rw [hP]
                      simp [h91]
          exact loop 4 0 (by omega) (by omega) (fun i hi => absurd hi (Nat.not_lt_zero i)) none none none
        · rw [xp_cmp_le] at h47
          refine no ?_
          unfold pg_gn
          rw [decide_eq_false (fun h => h47 (hcv.mp h).2), Bool.false_and, Bool.and_false, Bool.and_false, Bool.and_false]
