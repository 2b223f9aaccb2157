/-! VALID -/
/-- a certified number is small -/
def pg_cps (B : pg_B) : Prop := ∀ (x : Int64) (m : Nat), m ≤ B.1 → (pg_proof B x m).isSome = true → ∃ p, p < 900 ∧ x = lN p
theorem pg_gc_p {B : pg_B} (h : pg_cps B) {m : Nat} (hm : m ≤ B.1) (hg : pg_gc B m = true) : ∃ p, p < 900 ∧ pg_b B m = lN p := by
  unfold pg_gc at hg
  simp only [Bool.and_eq_true, Bool.or_eq_true] at hg
  rcases hg.2.2.2.1 with e | e
  · refine ⟨0, by omega, ?_⟩
    simp at e
    exact e
  · exact h _ m hm e
theorem xp_all4 {P : Nat → Bool} : (List.range 4).all P = true ↔ ∀ j, j < 4 → P j = true := by
  rw [List.all_eq_true]
  exact ⟨fun h j hj => h j (List.mem_range.mpr hj), fun h j hj => h j (List.mem_range.mp hj)⟩
theorem xp_all4f {P : Nat → Bool} {j : Nat} (hj : j < 4) (h : P j = false) : (List.range 4).all P = false := by
  rw [List.all_eq_false]
  exact ⟨j, List.mem_range.mpr hj, by rw [h]; decide⟩
theorem c_B_isValidViewChange (l : Launch) (G : xj_G) (v : xn_V) (B : pg_B) (hB : xc_B B v) (hbk : pg_bke B) (hcp : pg_cps B) (m : Nat) (hm : m < B.1) (hk : pg_k B m = 5) : xn_M l G 3 68 m_B_isValidViewChange [.ref (xj_ad G (1, 0, 0)), .int (nI m)] v (some (.int (xp_b (pg_gc B m)))) v := by
  have hz := hB.2.1
  refine xn_M_of (by decide) (Nat.le_of_ble_eq_true rfl) (fun E hE C => ?_)
  subst hE
  replace C : xj_C E G prog_2_method_8_code "ThreePhaseGroup$Board" 5 3 68 0 0 (some .boolean) := C
  show xn_X E G _ 0 0 0 [some (.ref (xj_ad G (1, 0, 0))), some (.int (nI m)), none, none, none] [] v
  generalize hA : (some (Value.int (xp_b (pg_gc B m))) : Option Value) = A
  have no : pg_gc B m = false → ∀ z1 z2 z3 : Option Value, xn_X E G (xj_R E G (fun a' w' => a' = A ∧ w' = xn_W v) 0 0) 0 0 51 [some (.ref (xj_ad G (1, 0, 0))), some (.int (nI m)), z1, z2, z3] [] v := by
    intro h z1 z2 z3
    refine xj_iconst (v := nI 0) C a_B_isValidViewChange_51 (by decide) ?_
    refine xj_zret C a_B_isValidViewChange_52 rfl ?_
    exact ⟨by rw [← hA]; exact xp_f h, rfl⟩
  refine xj_aload_n C a_B_isValidViewChange_0 rfl ?_
  refine xn_g_B_a C a_B_isValidViewChange_1 fl_B_18 ?_
  refine xj_iload_n C a_B_isValidViewChange_4 rfl ?_
  refine xn_ld_4 C a_B_isValidViewChange_5 (by first | assumption | omega) ?_
  refine xj_topi (hB.a (by omega)) ?_
  refine xn_callS1i C a_B_isValidViewChange_6 (c_B_isChangedView _ _ v (pg_a B m)) ms_B_isChangedView lk_B_46 ⟨by decide, by decide⟩ rfl (Nat.le_of_ble_eq_true rfl) ⟨Nat.le_refl _, Nat.le_refl _⟩ ?_
  refine xj_if_eq C a_B_isValidViewChange_9 rfl (fun h9 => ?_) (fun h9 => ?_)
  · rw [xp_b0] at h9
    refine no ?_ _ _ _
    simp only [decide_eq_false_iff_not] at h9
    unfold pg_gc
    by_cases e1 : pg_a B m < nI 1
    · have : decide ((1 : Int32) ≤ pg_a B m) = false := by
        rw [decide_eq_false_iff_not, Int32.not_le]; exact e1
      rw [this]; simp
    · have e2 : nI 15 < pg_a B m := by
        apply Classical.byContradiction
        intro e2; exact h9 ⟨e1, e2⟩
      have : decide (pg_a B m ≤ (15 : Int32)) = false := by
        rw [decide_eq_false_iff_not, Int32.not_le]; exact e2
      rw [this]; simp
  · rw [xp_b0] at h9
    have h9 : ¬ pg_a B m < nI 1 ∧ ¬ nI 15 < pg_a B m := by simpa using h9
    have a1 : (1 : Int32) ≤ pg_a B m := Int32.not_lt.mp h9.1
    have a2 : pg_a B m ≤ (15 : Int32) := Int32.not_lt.mp h9.2
    refine xj_aload_n C a_B_isValidViewChange_12 rfl ?_
    refine xn_g_B_c C a_B_isValidViewChange_13 fl_B_25 ?_
    refine xj_iload_n C a_B_isValidViewChange_16 rfl ?_
    refine xn_ld_6 C a_B_isValidViewChange_17 (by first | assumption | omega) ?_
    refine xj_topi (hB.c (by omega)) ?_
    refine xj_bipush (v := nI 20) C a_B_isValidViewChange_18 (by decide) ?_
    refine xj_iushr C a_B_isValidViewChange_20 ?_
    refine xj_topi (xb_iush0 _ (by omega)) ?_
    have hcd : (pg_c B m).toBitVec.toNat / 2 ^ 20 < 2 ^ 31 := by
      have := (pg_c B m).toBitVec.isLt
      omega
    refine xj_if_ne C a_B_isValidViewChange_21 rfl (fun h21 => ?_) (fun h21 => ?_)
    · refine no ?_ _ _ _
      have : ¬ (pg_c B m).toBitVec.toNat < 2 ^ 20 := by
        intro e
        exact h21 (by rw [Nat.div_eq_of_lt e]; rfl)
      unfold pg_gc
      simp [this]
    · have h21 : (pg_c B m).toBitVec.toNat / 2 ^ 20 = 0 := by
        have e : nI ((pg_c B m).toBitVec.toNat / 2 ^ 20) = nI 0 := h21
        rw [nI_eq hcd (by omega)] at e
        exact e
      have a3 : (pg_c B m).toBitVec.toNat < 2 ^ 20 := by omega
      have main : ∀ p, p < 900 → pg_b B m = lN p → (pg_b B m == 0 || (pg_proof B (pg_b B m) m).isSome) = true → xn_X E G (xj_R E G (fun a' w' => a' = A ∧ w' = xn_W v) 0 0) 0 0 53 [some (.ref (xj_ad G (1, 0, 0))), some (.int (nI m)), none, none, none] [] v := by
        intro p hp hbp hcert
        have hnb : pg_nb B m = p := by unfold pg_nb; rw [hbp, pk_lT (by omega)]; rfl
        have hgc : pg_gc B m = (List.range 4).all (fun j => pg_cl (pg_c B m) j == 0 || (decide (nI (pg_cl (pg_c B m) j) ≤ pg_a B m) && pg_back B (pg_cl (pg_c B m) j - 1) (pg_b B m + 1 + lN j) m != -2)) := by
          unfold pg_gc
          rw [hcert]
          simp [hk, a1, a2, a3]
        refine xj_aload_n C a_B_isValidViewChange_53 rfl ?_
        refine xn_g_B_b C a_B_isValidViewChange_54 fl_B_21 ?_
        refine xj_iload_n C a_B_isValidViewChange_57 rfl ?_
        refine xn_ld_5 C a_B_isValidViewChange_58 (by first | assumption | omega) ?_
        refine xj_topl (hB.b (by omega)) ?_
        refine xj_topl hbp ?_
        refine xj_l2i C a_B_isValidViewChange_59 ?_
        refine xj_topi (lN_i p) ?_
        refine xj_istore2 C a_B_isValidViewChange_60 rfl ?_
        refine xj_iload_n C a_B_isValidViewChange_61 rfl ?_
        refine xj_iconst (v := nI 1) C a_B_isValidViewChange_62 (by decide) ?_
        refine xj_iadd C a_B_isValidViewChange_63 ?_
        refine xj_topi (nI_add p 1) ?_
        refine xj_istore3 C a_B_isValidViewChange_64 rfl ?_
        have loop : ∀ n j : Nat, j ≤ 4 → 4 - j < n → (∀ i, i < j → (pg_cl (pg_c B m) i == 0 || (decide (nI (pg_cl (pg_c B m) i) ≤ pg_a B m) && pg_back B (pg_cl (pg_c B m) i - 1) (pg_b B m + 1 + lN i) m != -2)) = true) → ∀ z : Option Value, xn_X E G (xj_R E G (fun a' w' => a' = A ∧ w' = xn_W v) 0 0) 0 0 65 [some (.ref (xj_ad G (1, 0, 0))), some (.int (nI m)), some (.int (nI p)), some (.int (nI (p + 1 + j))), z] [] v := by
          intro n
          induction n with
          | zero => intro j _ h; omega
          | succ n ih =>
            intro j hj hn hi z
            refine xj_iload_n C a_B_isValidViewChange_65 rfl ?_
            refine xj_iload_n C a_B_isValidViewChange_66 rfl ?_
            refine xj_iconst (v := nI 4) C a_B_isValidViewChange_67 (by decide) ?_
            refine xj_iadd C a_B_isValidViewChange_68 ?_
            refine xj_topi (nI_add p 4) ?_
            refine xj_icmp_gt C a_B_isValidViewChange_69 rfl (fun h69 => ?_) (fun h69 => ?_)
            · rw [nI_ltI (by omega) (by omega)] at h69
              refine xj_iconst (v := nI 1) C a_B_isValidViewChange_119 (by decide) ?_
              refine xj_zret C a_B_isValidViewChange_120 rfl ?_
              refine ⟨?_, rfl⟩
              rw [← hA]
              refine xp_t ?_
              rw [hgc, xp_all4]
              intro i hi4
              exact hi i (by omega)
            · rw [nI_ltI (by omega) (by omega)] at h69
              have hcm : pg_cm B m (p + 1 + j) = pg_cl (pg_c B m) j := by
                unfold pg_cm
                rw [hnb, if_pos (by omega)]
                congr 1
                omega
              have hcl : pg_cl (pg_c B m) j < 32 := Nat.mod_lt _ (by decide)
              have hln : pg_b B m + 1 + lN j = lN (p + 1 + j) := by
                rw [hbp, lN_1, lN_add]
              have bad : (pg_cl (pg_c B m) j == 0 || (decide (nI (pg_cl (pg_c B m) j) ≤ pg_a B m) && pg_back B (pg_cl (pg_c B m) j - 1) (pg_b B m + 1 + lN j) m != -2)) = false → ∀ z : Option Value, xn_X E G (xj_R E G (fun a' w' => a' = A ∧ w' = xn_W v) 0 0) 0 0 111 [some (.ref (xj_ad G (1, 0, 0))), some (.int (nI m)), some (.int (nI p)), some (.int (nI (p + 1 + j))), z] [] v := by
                intro h z
                refine xj_iconst (v := nI 0) C a_B_isValidViewChange_111 (by decide) ?_
                refine xj_zret C a_B_isValidViewChange_112 rfl ?_
                refine ⟨?_, rfl⟩
                rw [← hA]
                refine xp_f ?_
                rw [hgc]
                exact xp_all4f (by omega) h
              have good : (pg_cl (pg_c B m) j == 0 || (decide (nI (pg_cl (pg_c B m) j) ≤ pg_a B m) && pg_back B (pg_cl (pg_c B m) j - 1) (pg_b B m + 1 + lN j) m != -2)) = true → ∀ z : Option Value, xn_X E G (xj_R E G (fun a' w' => a' = A ∧ w' = xn_W v) 0 0) 0 0 113 [some (.ref (xj_ad G (1, 0, 0))), some (.int (nI m)), some (.int (nI p)), some (.int (nI (p + 1 + j))), z] [] v := by
                intro h z
                refine xj_iincN3 C a_B_isValidViewChange_113 rfl ?_
                refine xj_goto C a_B_isValidViewChange_116 rfl ?_
                exact ih (j + 1) (by omega) (by omega) (lt_s hi h) z
              refine xj_aload_n C a_B_isValidViewChange_72 rfl ?_
              refine xj_iload_n C a_B_isValidViewChange_73 rfl ?_
              refine xj_iload_n C a_B_isValidViewChange_74 rfl ?_
              refine xn_callV2i C a_B_isValidViewChange_75 (c_B_claimFor _ _ v B hB m (p + 1 + j) p hm hbp (by omega) (by omega) (by omega)) mv_B_claimFor lk_B_53 ⟨rfl, rfl, rfl⟩ xj_ok1 ⟨by decide, by decide⟩ rfl (Nat.le_of_ble_eq_true rfl) ⟨Nat.le_refl _, Nat.le_refl _⟩ ?_
              refine xj_topi (y := nI (pg_cl (pg_c B m) j)) (by rw [hcm]) ?_
              refine xj_istore4 C a_B_isValidViewChange_78 rfl ?_
              refine xj_iload C a_B_isValidViewChange_80 rfl ?_
              refine xj_aload_n C a_B_isValidViewChange_82 rfl ?_
              refine xn_g_B_a C a_B_isValidViewChange_83 fl_B_18 ?_
              refine xj_iload_n C a_B_isValidViewChange_86 rfl ?_
              refine xn_ld_4 C a_B_isValidViewChange_87 (by first | assumption | omega) ?_
              refine xj_topi (hB.a (by omega)) ?_
              refine xj_icmp_gt C a_B_isValidViewChange_88 rfl (fun h88 => ?_) (fun h88 => ?_)
              · refine bad ?_ _
                have e1 : ¬ nI (pg_cl (pg_c B m) j) ≤ pg_a B m := Int32.not_le.mpr h88
                have e2 : ¬ pg_cl (pg_c B m) j = 0 := by
                  intro e
                  rw [e] at h88
                  exact absurd (Int32.lt_of_lt_of_le (b := nI 0) (by exact h88) (by decide)) (Int32.not_lt.mpr a1)
                simp [e1, e2]
              · have e1 : nI (pg_cl (pg_c B m) j) ≤ pg_a B m := Int32.not_lt.mp h88
                refine xj_iload C a_B_isValidViewChange_91 rfl ?_
                refine xj_if_eq C a_B_isValidViewChange_93 rfl (fun h93 => ?_) (fun h93 => ?_)
                · refine good ?_ _
                  have e : nI (pg_cl (pg_c B m) j) = nI 0 := h93
                  rw [nI_eq (by omega) (by omega)] at e
                  simp [e]
                · have e2 : ¬ pg_cl (pg_c B m) j = 0 := fun e => h93 (by rw [e]; rfl)
                  refine xj_aload_n C a_B_isValidViewChange_96 rfl ?_
                  refine xj_iload C a_B_isValidViewChange_97 rfl ?_
                  refine xj_iconst (v := nI 1) C a_B_isValidViewChange_99 (by decide) ?_
                  refine xj_isub C a_B_isValidViewChange_100 ?_
                  refine xj_topi (y := nI (pg_cl (pg_c B m) j - 1)) (pk_sub (by omega)) ?_
                  refine xj_iload_n C a_B_isValidViewChange_101 rfl ?_
                  refine xj_iload_n C a_B_isValidViewChange_102 rfl ?_
                  refine xn_callV3i C a_B_isValidViewChange_103 (c_B_backing _ _ v B hB (pg_cl (pg_c B m) j - 1) (p + 1 + j) m (by omega) (by omega) (by omega)) mv_B_backing lk_B_57 ⟨rfl, rfl, rfl⟩ xj_ok1 ⟨by decide, by decide⟩ rfl (Nat.le_of_ble_eq_true rfl) ⟨Nat.le_refl _, Nat.le_refl _⟩ ?_
                  refine xj_bipush (v := -2) C a_B_isValidViewChange_106 (by decide) ?_
                  refine xj_icmp_ne C a_B_isValidViewChange_108 rfl (fun h108 => ?_) (fun h108 => ?_)
                  · refine good ?_ _
                    rw [hbk _ _ _ (by omega)] at h108
                    rw [hln]
                    simp [e1, h108]
                  · refine bad ?_ _
                    rw [hbk _ _ _ (by omega)] at h108
                    rw [hln]
                    simp [e2, h108]
        exact loop 5 0 (by omega) (by omega) (fun i h => absurd h (Nat.not_lt_zero i)) none
      refine xj_aload_n C a_B_isValidViewChange_24 rfl ?_
      refine xn_g_B_b C a_B_isValidViewChange_25 fl_B_21 ?_
      refine xj_iload_n C a_B_isValidViewChange_28 rfl ?_
      refine xn_ld_5 C a_B_isValidViewChange_29 (by first | assumption | omega) ?_
      refine xj_topl (hB.b (by omega)) ?_
      refine xj_lconst (v := lN 0) C a_B_isValidViewChange_30 (by decide) ?_
      refine xj_lcmp C a_B_isValidViewChange_31 ?_
      refine xj_if_eq C a_B_isValidViewChange_32 rfl (fun h32 => ?_) (fun h32 => ?_)
      · rw [xp_cmp_eq] at h32
        exact main 0 (by omega) h32 (by rw [h32]; rfl)
      · rw [xp_cmp_eq] at h32
        refine xj_aload_n C a_B_isValidViewChange_35 rfl ?_
        refine xj_aload_n C a_B_isValidViewChange_36 rfl ?_
        refine xn_g_B_b C a_B_isValidViewChange_37 fl_B_21 ?_
        refine xj_iload_n C a_B_isValidViewChange_40 rfl ?_
        refine xn_ld_5 C a_B_isValidViewChange_41 (by first | assumption | omega) ?_
        refine xj_topl (hB.b (by omega)) ?_
        refine xj_iload_n C a_B_isValidViewChange_42 rfl ?_
        refine xn_callV2i C a_B_isValidViewChange_43 (c_B_certificate _ _ v B hB (pg_b B m) m (by omega)) mv_B_certificate lk_B_49 ⟨rfl, rfl, rfl⟩ xj_ok1 ⟨by decide, by decide⟩ rfl (Nat.le_of_ble_eq_true rfl) ⟨Nat.le_refl _, Nat.le_refl _⟩ ?_
        refine xj_bipush (v := -2) C a_B_isValidViewChange_46 (by decide) ?_
        refine xj_icmp_ne C a_B_isValidViewChange_48 rfl (fun h48 => ?_) (fun h48 => ?_)
        · have hs : (pg_proof B (pg_b B m) m).isSome = true := by
            cases e : pg_proof B (pg_b B m) m with
            | none => rw [e] at h48; exact absurd rfl h48
            | some x => rfl
          obtain ⟨p, hp, hbp⟩ := hcp _ m (by omega) hs
          exact main p hp hbp (by rw [hs]; simp)
        · refine no ?_ _ _ _
          have hs : (pg_proof B (pg_b B m) m).isSome = false := by
            cases e : pg_proof B (pg_b B m) m with
            | none => rfl
            | some x =>
              rw [e] at h48
              have hx := List.mem_of_find?_eq_some e
              have := List.mem_range.mp hx
              exact absurd h48 (xp_ne2 (by omega))
          have h33 : ¬ pg_b B m = 0 := h32
          have h32 : (pg_b B m == 0) = false := by simpa using h33
          unfold pg_gc
          rw [hs, h32]
          simp
