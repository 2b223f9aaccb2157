/-! the class's way to the request that backs a view and a number -/
def pg_bkQ (B : pg_B) (w : Nat) (n : Int64) (i o : Nat) : Bool := pg_pr B (nI w) n o && (pg_f B o != w % 4 && (pg_f B o != pg_f B i && pg_c B o == pg_c B i))
def pg_bkP (B : pg_B) (w : Nat) (n : Int64) (m i : Nat) : Bool := pg_pr B (nI w) n i && (pg_f B i != w % 4 && (List.range m).any (fun o => decide (i < o) && pg_bkQ B w n i o))
def pg_bkC (B : pg_B) (w : Nat) (n : Int64) (m : Nat) : Int32 := match (List.range m).find? (pg_bkP B w n m) with
  | some i => pg_c B i
  | none => -2
theorem c_B_backing (l : Launch) (G : xj_G) (v : xn_V) (B : pg_B) (hB : xc_B B v) (w n b : Nat) (hw : w < 1000) (hn : n < 2000) (hb : b ≤ B.1) : xn_M l G 1 23 m_B_backing [.ref (xj_ad G (1, 0, 0)), .int (nI w), .int (nI n), .int (nI b)] v (some (.int (pg_bkC B w (lN n) b))) v := by
  have hz := hB.2.1
  have hnl : (nI n).toInt64 = lN n := nI_l (by omega)
  have hw4 : w % 4 < 4 := Nat.mod_lt _ (by decide)
  refine xn_M_of (by decide) (Nat.le_of_ble_eq_true rfl) (fun E hE C => ?_)
  subst hE
  replace C : xj_C E G prog_2_method_12_code "ThreePhaseGroup$Board" 7 1 23 0 0 (some .int) := C
  show xn_X E G _ 0 0 0 [some (.ref (xj_ad G (1, 0, 0))), some (.int (nI w)), some (.int (nI n)), some (.int (nI b)), none, none, none] [] v
  generalize hA : (some (Value.int (pg_bkC B w (lN n) b)) : Option Value) = A
  refine xj_iload_n C a_B_backing_0 rfl ?_
  refine xn_callS1i C a_B_backing_1 (c_G_primaryOf _ _ v w (by omega)) ms_G_primaryOf lk_B_76 ⟨by decide, by decide⟩ rfl (Nat.le_of_ble_eq_true rfl) ⟨Nat.le_refl _, Nat.le_refl _⟩ ?_
  refine xj_istore4 C a_B_backing_4 rfl ?_
  refine xj_iconst (v := nI 0) C a_B_backing_6 (by decide) ?_
  refine xj_istore5 C a_B_backing_7 rfl ?_
  have outer : ∀ N j : Nat, j ≤ b → b - j < N → (∀ k, k < j → pg_bkP B w (lN n) b k = false) → ∀ z : Option Value, xn_X E G (xj_R E G (fun a' w' => a' = A ∧ w' = xn_W v) 0 0) 0 0 9 [some (.ref (xj_ad G (1, 0, 0))), some (.int (nI w)), some (.int (nI n)), some (.int (nI b)), some (.int (nI (w % 4))), some (.int (nI j)), z] [] v := by
    intro N
    induction N with
    | zero => intro j _ h; omega
    | succ N ih =>
      intro j hj hN hk z
      refine xj_iload C a_B_backing_9 rfl ?_
      refine xj_iload_n C a_B_backing_11 rfl ?_
      refine xj_icmp_ge C a_B_backing_12 rfl (fun h12 => ?_) (fun h12 => ?_)
      · rw [nI_leI (by omega) (by omega)] at h12
        have : j = b := by omega
        subst this
        refine xj_bipush (v := -2) C a_B_backing_130 (by decide) ?_
        refine xj_iret C a_B_backing_132 ?_
        refine ⟨?_, rfl⟩
        rw [← hA]
        unfold pg_bkC
        rw [xp_find_none hk]
      · rw [nI_leI (by omega) (by omega)] at h12
        have hfj := (hB.2.2.1 j (by omega)).2.1
        have step : pg_bkP B w (lN n) b j = false → ∀ z : Option Value, xn_X E G (xj_R E G (fun a' w' => a' = A ∧ w' = xn_W v) 0 0) 0 0 124 [some (.ref (xj_ad G (1, 0, 0))), some (.int (nI w)), some (.int (nI n)), some (.int (nI b)), some (.int (nI (w % 4))), some (.int (nI j)), z] [] v := by
          intro hpj z
          refine xj_iincN5 C a_B_backing_124 rfl ?_
          refine xj_goto C a_B_backing_127 rfl ?_
          exact ih (j + 1) (by omega) (by omega) (lt_s hk hpj) z
        refine xj_aload_n C a_B_backing_15 rfl ?_
        refine xj_iload C a_B_backing_16 rfl ?_
        refine xj_iload_n C a_B_backing_18 rfl ?_
        refine xj_iload_n C a_B_backing_19 rfl ?_
        refine xn_callV3i C a_B_backing_20 (c_B_isPrepareB _ _ v B hB j (by omega) (nI w) (nI n)) mv_B_isPrepare lk_B_79 ⟨rfl, rfl, rfl⟩ xj_ok1 ⟨by decide, by decide⟩ rfl (Nat.le_of_ble_eq_true rfl) ⟨Nat.le_refl _, Nat.le_refl _⟩ ?_
        refine xj_if_eq C a_B_backing_23 rfl (fun h23 => ?_) (fun h23 => ?_)
        · rw [xp_b0, hnl] at h23
          exact step (by unfold pg_bkP; rw [h23]; rfl) z
        · rw [xp_b0, hnl] at h23
          have hpr : pg_pr B (nI w) (lN n) j = true := by simpa using h23
          refine xj_aload_n C a_B_backing_26 rfl ?_
          refine xn_g_B_sender C a_B_backing_27 fl_B_15 ?_
          refine xj_iload C a_B_backing_30 rfl ?_
          refine xn_ld_3 C a_B_backing_32 (by first | assumption | omega) ?_
          refine xj_topi (hB.f (by omega)) ?_
          refine xj_iload C a_B_backing_33 rfl ?_
          refine xj_icmp_ne C a_B_backing_35 rfl (fun h35 => ?_) (fun h35 => ?_)
          · rw [nI_eq (by omega) (by omega)] at h35
            have inner : ∀ N o : Nat, o ≤ b → b - o < N → j < o → (∀ k, j < k → k < o → pg_bkQ B w (lN n) j k = false) → xn_X E G (xj_R E G (fun a' w' => a' = A ∧ w' = xn_W v) 0 0) 0 0 47 [some (.ref (xj_ad G (1, 0, 0))), some (.int (nI w)), some (.int (nI n)), some (.int (nI b)), some (.int (nI (w % 4))), some (.int (nI j)), some (.int (nI o))] [] v := by
              intro N
              induction N with
              | zero => intro o _ h; omega
              | succ N ih2 =>
                intro o ho hN2 hjo hko
                refine xj_iload C a_B_backing_47 rfl ?_
                refine xj_iload_n C a_B_backing_49 rfl ?_
                refine xj_icmp_ge C a_B_backing_50 rfl (fun h50 => ?_) (fun h50 => ?_)
                · rw [nI_leI (by omega) (by omega)] at h50
                  refine step ?_ _
                  unfold pg_bkP
                  have : (List.range b).any (fun o => decide (j < o) && pg_bkQ B w (lN n) j o) = false := by
                    rw [List.any_eq_false]
                    intro k hk2
                    have hkb := List.mem_range.mp hk2
                    by_cases e : j < k
                    · simp [hko k e (by omega)]
                    · simp [e]
                  rw [this]
                  simp
                · rw [nI_leI (by omega) (by omega)] at h50
                  have hfo := (hB.2.2.1 o (by omega)).2.1
                  have step2 : pg_bkQ B w (lN n) j o = false → xn_X E G (xj_R E G (fun a' w' => a' = A ∧ w' = xn_W v) 0 0) 0 0 118 [some (.ref (xj_ad G (1, 0, 0))), some (.int (nI w)), some (.int (nI n)), some (.int (nI b)), some (.int (nI (w % 4))), some (.int (nI j)), some (.int (nI o))] [] v := by
                    intro hq
                    refine xj_iincN6 C a_B_backing_118 rfl ?_
                    refine xj_goto C a_B_backing_121 rfl ?_
                    refine ih2 (o + 1) (by omega) (by omega) (by omega) (fun k h1 h2 => ?_)
                    by_cases e : k = o
                    · rw [e]; exact hq
                    · exact hko k h1 (by omega)
                  refine xj_aload_n C a_B_backing_53 rfl ?_
                  refine xj_iload C a_B_backing_54 rfl ?_
                  refine xj_iload_n C a_B_backing_56 rfl ?_
                  refine xj_iload_n C a_B_backing_57 rfl ?_
                  refine xn_callV3i C a_B_backing_58 (c_B_isPrepareB _ _ v B hB o (by omega) (nI w) (nI n)) mv_B_isPrepare lk_B_79 ⟨rfl, rfl, rfl⟩ xj_ok1 ⟨by decide, by decide⟩ rfl (Nat.le_of_ble_eq_true rfl) ⟨Nat.le_refl _, Nat.le_refl _⟩ ?_
                  refine xj_if_eq C a_B_backing_61 rfl (fun h61 => ?_) (fun h61 => ?_)
                  · rw [xp_b0, hnl] at h61
                    exact step2 (by unfold pg_bkQ; rw [h61]; rfl)
                  · rw [xp_b0, hnl] at h61
                    have hpo : pg_pr B (nI w) (lN n) o = true := by simpa using h61
                    refine xj_aload_n C a_B_backing_64 rfl ?_
                    refine xn_g_B_sender C a_B_backing_65 fl_B_15 ?_
                    refine xj_iload C a_B_backing_68 rfl ?_
                    refine xn_ld_3 C a_B_backing_70 (by first | assumption | omega) ?_
                    refine xj_topi (hB.f (by omega)) ?_
                    refine xj_iload C a_B_backing_71 rfl ?_
                    refine xj_icmp_eq C a_B_backing_73 rfl (fun h73 => ?_) (fun h73 => ?_)
                    · rw [nI_eq (by omega) (by omega)] at h73
                      exact step2 (by unfold pg_bkQ; simp [h73])
                    · rw [nI_eq (by omega) (by omega)] at h73
                      refine xj_aload_n C a_B_backing_76 rfl ?_
                      refine xn_g_B_sender C a_B_backing_77 fl_B_15 ?_
                      refine xj_iload C a_B_backing_80 rfl ?_
                      refine xn_ld_3 C a_B_backing_82 (by first | assumption | omega) ?_
                      refine xj_topi (hB.f (by omega)) ?_
                      refine xj_aload_n C a_B_backing_83 rfl ?_
                      refine xn_g_B_sender C a_B_backing_84 fl_B_15 ?_
                      refine xj_iload C a_B_backing_87 rfl ?_
                      refine xn_ld_3 C a_B_backing_89 (by first | assumption | omega) ?_
                      refine xj_topi (hB.f (by omega)) ?_
                      refine xj_icmp_eq C a_B_backing_90 rfl (fun h90 => ?_) (fun h90 => ?_)
                      · rw [nI_eq (by omega) (by omega)] at h90
                        exact step2 (by unfold pg_bkQ; simp [h90])
                      · rw [nI_eq (by omega) (by omega)] at h90
                        refine xj_aload_n C a_B_backing_93 rfl ?_
                        refine xn_g_B_c C a_B_backing_94 fl_B_25 ?_
                        refine xj_iload C a_B_backing_97 rfl ?_
                        refine xn_ld_6 C a_B_backing_99 (by first | assumption | omega) ?_
                        refine xj_topi (hB.c (by omega)) ?_
                        refine xj_aload_n C a_B_backing_100 rfl ?_
                        refine xn_g_B_c C a_B_backing_101 fl_B_25 ?_
                        refine xj_iload C a_B_backing_104 rfl ?_
                        refine xn_ld_6 C a_B_backing_106 (by first | assumption | omega) ?_
                        refine xj_topi (hB.c (by omega)) ?_
                        refine xj_icmp_ne C a_B_backing_107 rfl (fun h107 => ?_) (fun h107 => ?_)
                        · exact step2 (by unfold pg_bkQ; simp [h107])
                        · refine xj_aload_n C a_B_backing_110 rfl ?_
                          refine xn_g_B_c C a_B_backing_111 fl_B_25 ?_
                          refine xj_iload C a_B_backing_114 rfl ?_
                          refine xn_ld_6 C a_B_backing_116 (by first | assumption | omega) ?_
                          refine xj_topi (hB.c (by omega)) ?_
                          refine xj_iret C a_B_backing_117 ?_
                          refine ⟨?_, rfl⟩
                          rw [← hA]
                          unfold pg_bkC
                          have hq : pg_bkQ B w (lN n) j o = true := by unfold pg_bkQ; simp [hpo, h73, h90, h107]
                          have hany : (List.range b).any (fun o => decide (j < o) && pg_bkQ B w (lN n) j o) = true := by
                            rw [List.any_eq_true]
                            exact ⟨o, List.mem_range.mpr (by omega), by simp [hjo, hq]⟩
                          have hpj : pg_bkP B w (lN n) b j = true := by
                            unfold pg_bkP
                            rw [hpr, hany]
                            simp [h35]
                          rw [xp_find_some (by omega) hpj hk]
            refine xj_iload C a_B_backing_41 rfl ?_
            refine xj_iconst (v := nI 1) C a_B_backing_43 (by decide) ?_
            refine xj_iadd C a_B_backing_44 ?_
            refine xj_topi (nI_add j 1) ?_
            refine xj_istore6 C a_B_backing_45 rfl ?_
            refine inner (b + 1) (j + 1) (by omega) (by omega) (by omega) (fun k h1 h2 => by omega)
          · rw [nI_eq (by omega) (by omega)] at h35
            refine xj_goto C a_B_backing_38 rfl ?_
            exact step (by unfold pg_bkP; simp [h35]) z
  exact outer (b + 1) 0 (by omega) (by omega) (fun k h => absurd h (Nat.not_lt_zero k)) none
