/-! the reference: the rules 1 to 3 -/
/-- rule k at the number n -/
def pg_phs (k r : Nat) (S : pg_S) (n : Nat) : Option pg_S :=
  if k = 1 then (if pg_ch S.2 = 1 ∨ pg_vw S.2 % 4 = r ∨ pg_sent S.1 r 2 (pg_vw S.2) n = true then none else some (pg_own r S 2 (nI (pg_vw S.2)) (lN n) (nI (pg_ac S.2 n) - 2)))
  else if k = 2 then (if pg_sent S.1 r 3 (pg_vw S.2) n = true ∨ pg_hr S 2 (nI (pg_vw S.2)) (lN n) (nI (pg_ac S.2 n) - 2) < 2 then none else some (pg_own r (S.1, pg_u S.2 8 n (1 + pg_vw S.2)) 3 (nI (pg_vw S.2)) (lN n) (nI (pg_ac S.2 n) - 2)))
  else (if ¬ pg_de S.2 n = 0 ∨ pg_sent S.1 r 3 (pg_vw S.2) n = false ∨ pg_hr S 3 (nI (pg_vw S.2)) (lN n) (nI (pg_ac S.2 n) - 2) < 3 then none else some (S.1, pg_u S.2 7 n (pg_ac S.2 n)))
def pg_rk (k r : Nat) (S : pg_S) : Option pg_S := if k = 1 then pg_r1 r S else if k = 2 then pg_r2 r S else pg_r3 r S
theorem pg_rk_none {k r : Nat} {S : pg_S} (h : ∀ n, pg_h S.2 < n → n ≤ pg_h S.2 + 4 → pg_ac S.2 n = 0 ∨ pg_phs k r S n = none) : pg_rk k r S = none := by
  unfold pg_rk
  unfold pg_phs at h
  by_cases h1 : k = 1
  · rw [if_pos h1]
    simp only [if_pos h1] at h
    unfold pg_r1
    split
    · rfl
    · rename_i hn
      rw [xp_fst_none]
      intro m m1 m2
      rcases h m m1 m2 with g | g
      · simp [g]
      · split at g
        · rename_i g2
          rcases g2 with g2 | g2 | g2
          · exact absurd (Or.inl g2) hn
          · exact absurd (Or.inr g2) hn
          · simp [g2]
        · cases g
  rw [if_neg h1]
  simp only [if_neg h1] at h
  by_cases h2 : k = 2
  · rw [if_pos h2]
    simp only [if_pos h2] at h
    unfold pg_r2
    rw [xp_fst_none]
    intro m m1 m2
    rcases h m m1 m2 with g | g
    · simp [g]
    · split at g
      · rename_i g2
        rcases g2 with g2 | g2
        · simp [g2]
        · rw [decide_eq_false (by omega), Bool.and_false, Bool.and_false]
      · cases g
  rw [if_neg h2]
  simp only [if_neg h2] at h
  unfold pg_r3
  rw [xp_fst_none]
  intro m m1 m2
  rcases h m m1 m2 with g | g
  · simp [g]
  · split at g
    · rename_i g2
      rcases g2 with g2 | g2 | g2
      · simp [g2]
      · simp [g2]
      · rw [decide_eq_false (by omega)]
        simp
    · cases g
theorem pg_rk_some {k r : Nat} {S S' : pg_S} {n : Nat} (hn : pg_h S.2 < n) (hn2 : n ≤ pg_h S.2 + 4) (ha : ¬ pg_ac S.2 n = 0) (hs : pg_phs k r S n = some S') (h : ∀ m, pg_h S.2 < m → m < n → pg_ac S.2 m = 0 ∨ pg_phs k r S m = none) : pg_rk k r S = some S' := by
  unfold pg_rk
  unfold pg_phs at h hs
  by_cases h1 : k = 1
  · rw [if_pos h1]
    rw [if_pos h1] at hs
    simp only [if_pos h1] at h
    split at hs
    · cases hs
    · rename_i hx
      rw [not_or, not_or] at hx
      unfold pg_r1
      rw [if_neg (by rintro (g | g); exact hx.1 g; exact hx.2.1 g), xp_fst_some (n := n) hn hn2 (by simp [ha, hx.2.2])]
      · exact hs
      · intro m m1 m2
        rcases h m m1 m2 with g | g
        · simp [g]
        · split at g
          · rename_i g2
            rcases g2 with g2 | g2 | g2
            · exact absurd g2 hx.1
            · exact absurd g2 hx.2.1
            · simp [g2]
          · cases g
  rw [if_neg h1]
  rw [if_neg h1] at hs
  simp only [if_neg h1] at h
  by_cases h2 : k = 2
  · rw [if_pos h2]
    rw [if_pos h2] at hs
    simp only [if_pos h2] at h
    split at hs
    · cases hs
    · rename_i hx
      rw [not_or] at hx
      unfold pg_r2
      rw [xp_fst_some (n := n) hn hn2 (by simp [ha, hx.1]; omega)]
      · exact hs
      · intro m m1 m2
        rcases h m m1 m2 with g | g
        · simp [g]
        · split at g
          · rename_i g2
            rcases g2 with g2 | g2
            · simp [g2]
            · rw [decide_eq_false (by omega), Bool.and_false, Bool.and_false]
          · cases g
  rw [if_neg h2]
  rw [if_neg h2] at hs
  simp only [if_neg h2] at h
  split at hs
  · cases hs
  · rename_i hx
    rw [not_or, not_or] at hx
    have x1 : pg_de S.2 n = 0 := Classical.byContradiction hx.1
    have x2 : pg_sent S.1 r 3 (pg_vw S.2) n = true := by simpa using hx.2.1
    unfold pg_r3
    rw [xp_fst_some (n := n) hn hn2 (by simp [ha, x1, x2]; omega)]
    · exact hs
    · intro m m1 m2
      rcases h m m1 m2 with g | g
      · simp [g]
      · split at g
        · rename_i g2
          rcases g2 with g2 | g2 | g2
          · simp [g2]
          · simp [g2]
          · rw [decide_eq_false (by omega)]
            simp
        · cases g
theorem c_T_phase (l : Launch) (G : xj_G) (v : xn_V) (r : Nat) (hr : r < 4) (S : pg_S) (hS : xt_S r S v) (hN : pg_num S.2) (hz : S.1.1 < 200) (n : Nat) (hn : n < 200) (ha : ¬ pg_ac S.2 n = 0) (k : Nat) (hk : 1 ≤ k ∧ k ≤ 3) : xj_Mx l G 1 30 0 0 m_T_phase [.ref (xj_ad G (21, 0, 0)), .int (nI r), .int (nI n), .int (nI k), .int (nI (pg_ac S.2 n) - 2)] (xn_W v) (xp_tr r v S (pg_phs k r S n)) := by
  obtain ⟨hB, hR, hA⟩ := hS
  have hvw := hN.1
  have hch := hN.2.1
  have hac := (hN.2.2.2.2.2.2.2 n).1
  have hde := (hN.2.2.2.2.2.2.2 n).2.1
  have hq2 : nI (pg_ac S.2 n) - 2 + 2 = nI (pg_ac S.2 n) := Int32.sub_add_cancel _ _
  refine xj_Mx_of (by decide) (Nat.le_of_ble_eq_true rfl) (fun E hE C _ => ?_)
  subst hE
  replace C : xj_C E G prog_9_method_30_code "ThreePhaseGroupModel" 6 1 30 0 0 (some .boolean) := C
  show xn_X E G _ 0 0 0 [some (.ref (xj_ad G (21, 0, 0))), some (.int (nI r)), some (.int (nI n)), some (.int (nI k)), some (.int (nI (pg_ac S.2 n) - 2)), none] [] v
  have no : ∀ pc, pc = 40 ∨ pc = 88 ∨ pc = 178 → pg_phs k r S n = none → xn_X E G (xj_R E G (xp_tr r v S (pg_phs k r S n)) 0 0) 0 0 pc [some (.ref (xj_ad G (21, 0, 0))), some (.int (nI r)), some (.int (nI n)), some (.int (nI k)), some (.int (nI (pg_ac S.2 n) - 2)), some (.int (nI (pg_vw S.2)))] [] v := by
    intro pc hpc h
    rw [h]
    rcases hpc with rfl | rfl | rfl
    · refine xj_iconst (v := nI 0) C a_T_phase_40 (by decide) ?_
      exact xj_zret C a_T_phase_41 rfl ⟨rfl, v, rfl, ⟨hB, hR, hA⟩, xf_T.rf r v⟩
    · refine xj_iconst (v := nI 0) C a_T_phase_88 (by decide) ?_
      exact xj_zret C a_T_phase_89 rfl ⟨rfl, v, rfl, ⟨hB, hR, hA⟩, xf_T.rf r v⟩
    · refine xj_iconst (v := nI 0) C a_T_phase_178 (by decide) ?_
      exact xj_zret C a_T_phase_179 rfl ⟨rfl, v, rfl, ⟨hB, hR, hA⟩, xf_T.rf r v⟩
  refine xj_aload_n C a_T_phase_0 rfl ?_
  refine xn_g_T_view C a_T_phase_1 fl_T_36 ?_
  refine xj_iload_n C a_T_phase_4 rfl ?_
  refine xn_ld_30 C a_T_phase_5 (by first | assumption | omega) ?_
  refine xj_topi hR.vw ?_
  refine xj_istore5 C a_T_phase_6 rfl ?_
  refine xj_iload_n C a_T_phase_8 rfl ?_
  refine xj_iconst (v := nI 1) C a_T_phase_9 (by decide) ?_
  refine xj_icmp_ne C a_T_phase_10 rfl (fun h10 => ?_) (fun h10 => ?_)
  · rw [nI_eq (by omega) (by omega)] at h10
    refine xj_iload_n C a_T_phase_57 rfl ?_
    refine xj_iconst (v := nI 2) C a_T_phase_58 (by decide) ?_
    refine xj_icmp_ne C a_T_phase_59 rfl (fun h59 => ?_) (fun h59 => ?_)
    · rw [nI_eq (by omega) (by omega)] at h59
      have hno : ∀ h : (¬ pg_de S.2 n = 0 ∨ pg_sent S.1 r 3 (pg_vw S.2) n = false ∨ pg_hr S 3 (nI (pg_vw S.2)) (lN n) (nI (pg_ac S.2 n) - 2) < 3), pg_phs k r S n = none := fun h => by
        unfold pg_phs
        rw [if_neg h10, if_neg h59, if_pos h]
      refine xj_aload_n C a_T_phase_137 rfl ?_
      refine xn_g_T_decided C a_T_phase_138 fl_T_60 ?_
      refine xj_sipush (v := nI 200) C a_T_phase_141 (by decide) ?_
      refine xj_iload_n C a_T_phase_144 rfl ?_
      refine xj_imulN C a_T_phase_145 ?_
      refine xj_iload_n C a_T_phase_146 rfl ?_
      refine xj_iaddN C a_T_phase_147 ?_
      refine xn_ld_38 C a_T_phase_148 (by first | assumption | omega) ?_
      refine xj_topi (hR.de hn) ?_
      refine xj_if_ne C a_T_phase_149 rfl (fun h149 => ?_) (fun h149 => ?_)
      · rw [xp_nz (by omega)] at h149
        exact no 178 (by omega) (hno (Or.inl h149))
      · rw [xp_nz (by omega)] at h149
        have h149 : pg_de S.2 n = 0 := by simpa using h149
        refine xj_aload_n C a_T_phase_152 rfl ?_
        refine xj_iload_n C a_T_phase_153 rfl ?_
        refine xj_iconst (v := nI 3) C a_T_phase_154 (by decide) ?_
        refine xj_iload_n C a_T_phase_155 rfl ?_
        refine xn_callV3i C a_T_phase_156 (c_T_sent _ _ v r hr S hB hR 3 n (by omega) (by omega)) mv_T_sent lk_T_208 ⟨rfl, rfl, rfl⟩ xj_ok21 ⟨by decide, by decide⟩ rfl (Nat.le_of_ble_eq_true rfl) ⟨Nat.le_refl _, Nat.le_refl _⟩ ?_
        refine xj_if_eq C a_T_phase_159 rfl (fun h159 => ?_) (fun h159 => ?_)
        · rw [xp_b0] at h159
          exact no 178 (by omega) (hno (Or.inr (Or.inl h159)))
        · rw [xp_b0] at h159
          have hhr := pg_hr_le S 3 (nI (pg_vw S.2)) (lN n) (nI (pg_ac S.2 n) - 2)
          refine xj_aload_n C a_T_phase_162 rfl ?_
          refine xj_iload_n C a_T_phase_163 rfl ?_
          refine xj_iconst (v := nI 3) C a_T_phase_164 (by decide) ?_
          refine xj_iload C a_T_phase_165 rfl ?_
          refine xj_iload_n C a_T_phase_167 rfl ?_
          refine xj_i2l C a_T_phase_168 ?_
          refine xj_topl (nI_l (show n < 2 ^ 31 by omega)) ?_
          refine xj_iload C a_T_phase_169 rfl ?_
          refine xn_callV5i C a_T_phase_171 (c_T_heard _ _ v r hr S hB hR 3 (by omega) (nI (pg_vw S.2)) (lN n) (nI (pg_ac S.2 n) - 2)) mv_T_heard lk_T_211 ⟨rfl, rfl, rfl⟩ xj_ok21 ⟨by decide, by decide⟩ rfl (Nat.le_of_ble_eq_true rfl) ⟨Nat.le_refl _, Nat.le_refl _⟩ ?_
          refine xj_iconst (v := nI 3) C a_T_phase_174 (by decide) ?_
          refine xj_icmp_ge C a_T_phase_175 rfl (fun h175 => ?_) (fun h175 => ?_)
          · rw [nI_leI (by omega) (by omega)] at h175
            have e : pg_phs k r S n = some (S.1, pg_u S.2 7 n (pg_ac S.2 n)) := by
              unfold pg_phs
              rw [if_neg h10, if_neg h59, if_neg]
              rintro (g | g | g)
              · exact g h149
              · exact h159 g
              · omega
            rw [e]
            refine xj_aload_n C a_T_phase_180 rfl ?_
            refine xn_g_T_decided C a_T_phase_181 fl_T_60 ?_
            refine xj_sipush (v := nI 200) C a_T_phase_184 (by decide) ?_
            refine xj_iload_n C a_T_phase_187 rfl ?_
            refine xj_imulN C a_T_phase_188 ?_
            refine xj_iload_n C a_T_phase_189 rfl ?_
            refine xj_iaddN C a_T_phase_190 ?_
            refine xj_iload C a_T_phase_191 rfl ?_
            refine xj_iconst (v := nI 2) C a_T_phase_193 (by decide) ?_
            refine xj_iadd C a_T_phase_194 ?_
            refine xj_topi (y := nI (pg_ac S.2 n)) hq2 ?_
            refine xn_st_38 C a_T_phase_195 (by first | assumption | omega) ?_
            refine xj_iconst (v := nI 1) C a_T_phase_196 (by decide) ?_
            exact xj_zret C a_T_phase_197 rfl ⟨rfl, _, rfl, ⟨hB.uI (by omega), hR.uA (t := 7) (K := 38) (by decide) (by omega) rfl, by show _ = nI (pg_af S.2); simpa [xn_uI] using hA⟩, (xf_T.rf r v).uI (by omega)⟩
          · rw [nI_leI (by omega) (by omega)] at h175
            exact no 178 (by omega) (hno (Or.inr (Or.inr (by omega))))
    · rw [nI_eq (by omega) (by omega)] at h59
      have h59 : k = 2 := by simpa using h59
      have hno : ∀ h : (pg_sent S.1 r 3 (pg_vw S.2) n = true ∨ pg_hr S 2 (nI (pg_vw S.2)) (lN n) (nI (pg_ac S.2 n) - 2) < 2), pg_phs k r S n = none := fun h => by
        unfold pg_phs
        rw [if_neg h10, if_pos h59, if_pos h]
      refine xj_aload_n C a_T_phase_62 rfl ?_
      refine xj_iload_n C a_T_phase_63 rfl ?_
      refine xj_iconst (v := nI 3) C a_T_phase_64 (by decide) ?_
      refine xj_iload_n C a_T_phase_65 rfl ?_
      refine xn_callV3i C a_T_phase_66 (c_T_sent _ _ v r hr S hB hR 3 n (by omega) (by omega)) mv_T_sent lk_T_208 ⟨rfl, rfl, rfl⟩ xj_ok21 ⟨by decide, by decide⟩ rfl (Nat.le_of_ble_eq_true rfl) ⟨Nat.le_refl _, Nat.le_refl _⟩ ?_
      refine xj_if_ne C a_T_phase_69 rfl (fun h69 => ?_) (fun h69 => ?_)
      · rw [xp_b0] at h69
        exact no 88 (by omega) (hno (Or.inl (by simpa using h69)))
      · rw [xp_b0] at h69
        have h69 : pg_sent S.1 r 3 (pg_vw S.2) n = false := by simpa using h69
        have hhr := pg_hr_le S 2 (nI (pg_vw S.2)) (lN n) (nI (pg_ac S.2 n) - 2)
        refine xj_aload_n C a_T_phase_72 rfl ?_
        refine xj_iload_n C a_T_phase_73 rfl ?_
        refine xj_iconst (v := nI 2) C a_T_phase_74 (by decide) ?_
        refine xj_iload C a_T_phase_75 rfl ?_
        refine xj_iload_n C a_T_phase_77 rfl ?_
        refine xj_i2l C a_T_phase_78 ?_
        refine xj_topl (nI_l (show n < 2 ^ 31 by omega)) ?_
        refine xj_iload C a_T_phase_79 rfl ?_
        refine xn_callV5i C a_T_phase_81 (c_T_heard _ _ v r hr S hB hR 2 (by omega) (nI (pg_vw S.2)) (lN n) (nI (pg_ac S.2 n) - 2)) mv_T_heard lk_T_211 ⟨rfl, rfl, rfl⟩ xj_ok21 ⟨by decide, by decide⟩ rfl (Nat.le_of_ble_eq_true rfl) ⟨Nat.le_refl _, Nat.le_refl _⟩ ?_
        refine xj_iconst (v := nI 2) C a_T_phase_84 (by decide) ?_
        refine xj_icmp_ge C a_T_phase_85 rfl (fun h85 => ?_) (fun h85 => ?_)
        · rw [nI_leI (by omega) (by omega)] at h85
          have e : pg_phs k r S n = some (pg_own r (S.1, pg_u S.2 8 n (1 + pg_vw S.2)) 3 (nI (pg_vw S.2)) (lN n) (nI (pg_ac S.2 n) - 2)) := by
            unfold pg_phs
            rw [if_neg h10, if_pos h59, if_neg]
            rintro (g | g)
            · rw [h69] at g; cases g
            · omega
          rw [e]
          refine xj_aload_n C a_T_phase_90 rfl ?_
          refine xn_g_T_certView C a_T_phase_91 fl_T_66 ?_
          refine xj_sipush (v := nI 200) C a_T_phase_94 (by decide) ?_
          refine xj_iload_n C a_T_phase_97 rfl ?_
          refine xj_imulN C a_T_phase_98 ?_
          refine xj_iload_n C a_T_phase_99 rfl ?_
          refine xj_iaddN C a_T_phase_100 ?_
          refine xj_iconst (v := nI 1) C a_T_phase_101 (by decide) ?_
          refine xj_iload C a_T_phase_102 rfl ?_
          refine xj_iaddN C a_T_phase_104 ?_
          refine xn_st_40 C a_T_phase_105 (by first | assumption | omega) ?_
          refine xj_aload_n C a_T_phase_106 rfl ?_
          refine xn_g_T_certified C a_T_phase_107 fl_T_63 ?_
          refine xj_sipush (v := nI 200) C a_T_phase_110 (by decide) ?_
          refine xj_iload_n C a_T_phase_113 rfl ?_
          refine xj_imulN C a_T_phase_114 ?_
          refine xj_iload_n C a_T_phase_115 rfl ?_
          refine xj_iaddN C a_T_phase_116 ?_
          refine xj_iload C a_T_phase_117 rfl ?_
          refine xj_iconst (v := nI 2) C a_T_phase_119 (by decide) ?_
          refine xj_iadd C a_T_phase_120 ?_
          refine xj_topi (y := nI (pg_ac S.2 n)) hq2 ?_
          have hR1 := (hR.uA (t := 8) (q := n) (x := 1 + pg_vw S.2) (K := 40) (by decide) (by omega) rfl).oth (k := 39) (i := 0) (x := 200 * r + n) (y := nI (pg_ac S.2 n)) (by omega)
          have hB1 : xt_B S.1 (xn_uI (xn_uI v 40 0 0 (200 * r + n) (nI (1 + pg_vw S.2))) 39 0 0 (200 * r + n) (nI (pg_ac S.2 n))) := (hB.uI (by omega)).uI (by omega)
          have hF1 : xf_T r v (xn_uI (xn_uI v 40 0 0 (200 * r + n) (nI (1 + pg_vw S.2))) 39 0 0 (200 * r + n) (nI (pg_ac S.2 n))) := ((xf_T.rf r v).uI (by omega)).uI (by omega)
          refine xn_st_39 C a_T_phase_121 (by first | assumption | omega) ?_
          refine xj_aload_n C a_T_phase_122 rfl ?_
          refine xj_iconst (v := nI 3) C a_T_phase_123 (by decide) ?_
          refine xj_iload_n C a_T_phase_124 rfl ?_
          refine xj_iload C a_T_phase_125 rfl ?_
          refine xj_iload_n C a_T_phase_127 rfl ?_
          refine xj_i2l C a_T_phase_128 ?_
          refine xj_topl (nI_l (show n < 2 ^ 31 by omega)) ?_
          refine xj_iload C a_T_phase_129 rfl ?_
          refine xn_callV5i C a_T_phase_131 (c_T_send _ _ _ S.1.1 r hB1.z hz (by omega) (nI 3) (nI (pg_vw S.2)) (lN n) (nI (pg_ac S.2 n) - 2)) mv_T_send lk_T_179 ⟨rfl, rfl, rfl⟩ xj_ok21 ⟨by decide, by decide⟩ rfl (Nat.le_of_ble_eq_true rfl) ⟨Nat.le_refl _, Nat.le_refl _⟩ ?_
          refine xj_pop C a_T_phase_134 rfl ?_
          refine xj_iconst (v := nI 1) C a_T_phase_135 (by decide) ?_
          exact xj_zret C a_T_phase_136 rfl ⟨rfl, _, rfl, xt_S.own (S := (S.1, pg_u S.2 8 n (1 + pg_vw S.2))) ⟨hB1, hR1, by show _ = nI (pg_af S.2); simpa [xn_uI] using hA⟩ hr hz 3 (by decide) _ _ _, hF1.ts hz⟩
        · rw [nI_leI (by omega) (by omega)] at h85
          exact no 88 (by omega) (hno (Or.inr (by omega)))
  · rw [nI_eq (by omega) (by omega)] at h10
    have h10 : k = 1 := by simpa using h10
    have hno : ∀ h : (pg_ch S.2 = 1 ∨ pg_vw S.2 % 4 = r ∨ pg_sent S.1 r 2 (pg_vw S.2) n = true), pg_phs k r S n = none := fun h => by
      unfold pg_phs
      rw [if_pos h10, if_pos h]
    refine xj_aload_n C a_T_phase_13 rfl ?_
    refine xn_g_T_changing C a_T_phase_14 fl_T_39 ?_
    refine xj_iload_n C a_T_phase_17 rfl ?_
    refine xn_ld_31 C a_T_phase_18 (by first | assumption | omega) ?_
    refine xj_topi hR.ch ?_
    refine xj_if_ne C a_T_phase_19 rfl (fun h19 => ?_) (fun h19 => ?_)
    · rw [xp_nz (by omega)] at h19
      exact no 40 (by omega) (hno (Or.inl (by omega)))
    · rw [xp_nz (by omega)] at h19
      have h19 : pg_ch S.2 = 0 := by simpa using h19
      refine xj_iload C a_T_phase_22 rfl ?_
      refine xj_iconst (v := nI 4) C a_T_phase_24 (by decide) ?_
      refine xj_irem C a_T_phase_25 (by decide) ?_
      refine xj_topi (y := nI (pg_vw S.2 % 4)) ?_ ?_
      · exact pk_rem (d := 4) (by omega) (by omega) (by omega)
      refine xj_iload_n C a_T_phase_26 rfl ?_
      refine xj_icmp_eq C a_T_phase_27 rfl (fun h27 => ?_) (fun h27 => ?_)
      · rw [nI_eq (by omega) (by omega)] at h27
        exact no 40 (by omega) (hno (Or.inr (Or.inl h27)))
      · rw [nI_eq (by omega) (by omega)] at h27
        refine xj_aload_n C a_T_phase_30 rfl ?_
        refine xj_iload_n C a_T_phase_31 rfl ?_
        refine xj_iconst (v := nI 2) C a_T_phase_32 (by decide) ?_
        refine xj_iload_n C a_T_phase_33 rfl ?_
        refine xn_callV3i C a_T_phase_34 (c_T_sent _ _ v r hr S hB hR 2 n (by omega) (by omega)) mv_T_sent lk_T_208 ⟨rfl, rfl, rfl⟩ xj_ok21 ⟨by decide, by decide⟩ rfl (Nat.le_of_ble_eq_true rfl) ⟨Nat.le_refl _, Nat.le_refl _⟩ ?_
        refine xj_if_eq C a_T_phase_37 rfl (fun h37 => ?_) (fun h37 => ?_)
        · rw [xp_b0] at h37
          have e : pg_phs k r S n = some (pg_own r S 2 (nI (pg_vw S.2)) (lN n) (nI (pg_ac S.2 n) - 2)) := by
            unfold pg_phs
            rw [if_pos h10, if_neg]
            rintro (g | g | g)
            · omega
            · exact h27 g
            · rw [h37] at g; cases g
          rw [e]
          refine xj_aload_n C a_T_phase_42 rfl ?_
          refine xj_iconst (v := nI 2) C a_T_phase_43 (by decide) ?_
          refine xj_iload_n C a_T_phase_44 rfl ?_
          refine xj_iload C a_T_phase_45 rfl ?_
          refine xj_iload_n C a_T_phase_47 rfl ?_
          refine xj_i2l C a_T_phase_48 ?_
          refine xj_topl (nI_l (show n < 2 ^ 31 by omega)) ?_
          refine xj_iload C a_T_phase_49 rfl ?_
          refine xn_callV5i C a_T_phase_51 (c_T_send _ _ _ S.1.1 r hB.z hz (by omega) (nI 2) (nI (pg_vw S.2)) (lN n) (nI (pg_ac S.2 n) - 2)) mv_T_send lk_T_179 ⟨rfl, rfl, rfl⟩ xj_ok21 ⟨by decide, by decide⟩ rfl (Nat.le_of_ble_eq_true rfl) ⟨Nat.le_refl _, Nat.le_refl _⟩ ?_
          refine xj_pop C a_T_phase_54 rfl ?_
          refine xj_iconst (v := nI 1) C a_T_phase_55 (by decide) ?_
          exact xj_zret C a_T_phase_56 rfl ⟨rfl, _, rfl, xt_S.own ⟨hB, hR, hA⟩ hr hz 2 (by decide) _ _ _, (xf_T.rf r v).ts hz⟩
        · rw [xp_b0] at h37
          exact no 40 (by omega) (hno (Or.inr (Or.inr (by simpa using h37))))
