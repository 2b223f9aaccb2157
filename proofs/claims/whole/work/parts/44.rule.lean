/-! the first three rules -/
/-- a replica's own messages are noted by it, forged ones are not -/
def pg_ow (r : Nat) (S : pg_S) : Prop := ∀ i, i < S.1.1 → pg_f S.1 i = r → (pg_no S.2 i = 1 ↔ pg_g S.1 i = false)
/-- at most one PREPARE and one COMMIT is noted for a sender, a view and a number -/
def pg_nu (S : pg_S) : Prop := ∀ i j, i < S.1.1 → j < S.1.1 → pg_no S.2 i = 1 → pg_no S.2 j = 1 → (pg_k S.1 i = 2 ∨ pg_k S.1 i = 3) → pg_k S.1 i = pg_k S.1 j → pg_f S.1 i = pg_f S.1 j → pg_a S.1 i = pg_a S.1 j → pg_b S.1 i = pg_b S.1 j → i = j
theorem pg_sent_nts {r : Nat} {S : pg_S} (h : pg_ow r S) {k w n : Nat} (hk : ¬ k = 7) : pg_sent S.1 r k w n = pg_nts S k r (nI w) (lN n) := by
  unfold pg_sent pg_nts
  rw [Bool.eq_iff_iff, List.any_eq_true, List.any_eq_true]
  have hk7 : (k == 7) = false := by simpa using hk
  constructor
  · rintro ⟨i, h1, h2⟩
    simp only [Bool.and_eq_true, beq_iff_eq, Bool.not_eq_true'] at h2
    obtain ⟨f1, f2, f3, f4, f5⟩ := h2
    refine ⟨i, h1, ?_⟩
    have := (h i (List.mem_range.mp h1) f1).mpr f2
    simp [f1, f3, f4, f5, this]
  · rintro ⟨i, h1, h2⟩
    simp only [Bool.and_eq_true, beq_iff_eq, hk7, Bool.false_or] at h2
    obtain ⟨f1, f2, f3, f4, f5⟩ := h2
    refine ⟨i, h1, ?_⟩
    have := (h i (List.mem_range.mp h1) f3).mp f1
    simp [f2, f3, f4, f5, this]
theorem pg_sent_nv {r : Nat} {S : pg_S} (h : pg_ow r S) {k n : Nat} (hk : ¬ k = 7) : pg_nv S k n r = 1099511627776 ↔ pg_sent S.1 r k (pg_vw S.2) n = false := by
  rw [pg_sent_nts h hk]
  exact pg_nv_un hk
theorem xp_toL {x y : Int32} (h : x.toInt64 = y.toInt64) : x = y := by
  apply Int32.toInt_inj.mp
  rw [← Int32.toInt_toInt64, ← Int32.toInt_toInt64, h]
theorem pg_hr_nv {S : pg_S} (h : pg_nu S) {k n q : Nat} (hk : k = 2 ∨ k = 3) (hq : ¬ q = 0) (hq2 : q < 300) : xp_c (fun s => decide (¬ nI q - 2 = -2 ∧ pg_nv S k n s = (nI q - 2).toInt64)) 4 = pg_hr S k (nI (pg_vw S.2)) (lN n) (nI q - 2) := by
  unfold xp_c pg_hr pg_cnt
  congr 1
  apply List.filter_congr
  intro s hs
  have hs4 := List.mem_range.mp hs
  have h9 : (s != 9) = true := by simp; omega
  rw [h9, Bool.true_and, Bool.eq_iff_iff, decide_eq_true_eq, List.any_eq_true]
  have hne : ¬ nI q - 2 = -2 := by rw [xp_acc (by omega)]; exact hq
  unfold pg_nv
  constructor
  · rintro ⟨-, h2⟩
    cases e : (List.range S.1.1).find? (fun i => pg_no S.2 i == 1 && (pg_k S.1 i == k && (pg_f S.1 i == s && (pg_a S.1 i == nI (pg_vw S.2) && pg_b S.1 i == lN n)))) with
    | none => rw [e] at h2; exact absurd h2.symm (xp_unn _)
    | some i =>
      rw [e] at h2
      have h3 := xp_toL h2
      have h4 := List.find?_some e
      simp only [Bool.and_eq_true, beq_iff_eq] at h4
      refine ⟨i, List.mem_of_find?_eq_some e, ?_⟩
      obtain ⟨f1, f2, f3, f4, f5⟩ := h4
      simp [f1, f2, f3, f4, f5, h3]
  · rintro ⟨i, h1, h2⟩
    simp only [Bool.and_eq_true, beq_iff_eq] at h2
    obtain ⟨g1, g2, g3, g4, g5, g6⟩ := h2
    refine ⟨hne, ?_⟩
    cases e : (List.range S.1.1).find? (fun i => pg_no S.2 i == 1 && (pg_k S.1 i == k && (pg_f S.1 i == s && (pg_a S.1 i == nI (pg_vw S.2) && pg_b S.1 i == lN n)))) with
    | none =>
      have h4 := List.find?_eq_none.mp e i h1
      exact absurd (by simp [g1, g2, g3, g4, g5]) h4
    | some j =>
      have h4 := List.find?_some e
      simp only [Bool.and_eq_true, beq_iff_eq] at h4
      obtain ⟨f1, f2, f3, f4, f5⟩ := h4
      have hj := List.mem_range.mp (List.mem_of_find?_eq_some e)
      have : j = i := h j i hj (List.mem_range.mp h1) f1 g2 (by omega) (by omega) (by omega) (by rw [f4, g4]) (by rw [f5, g5])
      subst this
      show (pg_c S.1 j).toInt64 = _
      rw [g6]
/-- what a rule does -/
def xp_rl (r : Nat) (v : xn_V) (o : Option pg_S) (a : Option Value) (w' : xj_W) : Prop := match o with
  | none => a = some (.int (nI 0)) ∧ w' = xn_W v
  | some S' => a = some (.int (nI 1)) ∧ ∃ v', w' = xn_W v' ∧ xc_R r S' v' ∧ xc_B S'.1 v' ∧ xf_O r v v'
theorem xp_fst_some {h n : Nat} {P : Nat → Bool} (h1 : h < n) (h2 : n ≤ h + 4) (h3 : P n = true) (h4 : ∀ m, h < m → m < n → P m = false) : pg_fst h P = some n := by
  unfold pg_fst
  rcases (show n = h + 1 ∨ n = h + 2 ∨ n = h + 3 ∨ n = h + 4 by omega) with rfl | rfl | rfl | rfl
  · simp [h3]
  · simp [h3, h4 (h + 1) (by omega) (by omega)]
  · simp [h3, h4 (h + 1) (by omega) (by omega), h4 (h + 2) (by omega) (by omega)]
  · simp [h3, h4 (h + 1) (by omega) (by omega), h4 (h + 2) (by omega) (by omega), h4 (h + 3) (by omega) (by omega)]
theorem xp_fst_none {h : Nat} {P : Nat → Bool} (h4 : ∀ m, h < m → m ≤ h + 4 → P m = false) : pg_fst h P = none := by
  unfold pg_fst
  simp [h4 (h + 1) (by omega) (by omega), h4 (h + 2) (by omega) (by omega), h4 (h + 3) (by omega) (by omega), h4 (h + 4) (by omega) (by omega)]
theorem xc_R.S {r : Nat} {S : pg_S} {v : xn_V} (h : xc_R r S v) {n : Nat} (h1 : pg_h S.2 < n) (h2 : n ≤ pg_h S.2 + 4) : xc_S r S n v := h.2.2.2.2 n h1 h2
theorem c_R_prepareNext (l : Launch) (G : xj_G) (v : xn_V) (r : Nat) (hr : r < 4) (S : pg_S) (hR : xc_R r S v) (hN : pg_num S.2) (hB : xc_B S.1 v) (hO : pg_ow r S) (hz : S.1.1 < 256) : xj_Mx l G 2 40 0 0 m_R_prepareNext [.ref (xj_ad G (11, r, 0))] (xn_W v) (xp_rl r v (pg_r1 r S)) := by
  have hF := hR.1
  have hh := hN.2.2.1
  have hch := hN.2.1
  have hvw := hN.1
  refine xj_Mx_of (by decide) (Nat.le_of_ble_eq_true rfl) (fun E hE C _ => ?_)
  subst hE
  replace C : xj_C E G prog_5_method_20_code "ThreePhaseGroup$Replica" 3 2 40 0 0 (some .boolean) := C
  show xn_X E G _ 0 0 0 [some (.ref (xj_ad G (11, r, 0))), none, none] [] v
  have no : pg_r1 r S = none → ∀ z1 z2 : Option Value, xn_X E G (xj_R E G (xp_rl r v (pg_r1 r S)) 0 0) 0 0 14 [some (.ref (xj_ad G (11, r, 0))), z1, z2] [] v := by
    intro h z1 z2
    rw [h]
    refine xj_iconst (v := nI 0) C a_R_prepareNext_14 (by decide) ?_
    exact xj_zret C a_R_prepareNext_15 rfl ⟨rfl, rfl⟩
  refine xj_aload_n C a_R_prepareNext_0 rfl ?_
  refine xn_g_R_changing C a_R_prepareNext_1 fl_R_35 (by first | assumption | omega) ?_
  refine xj_topi hF.ch ?_
  refine xj_if_ne C a_R_prepareNext_4 rfl (fun h4 => ?_) (fun h4 => ?_)
  · refine no ?_ _ _
    have : ¬ pg_ch S.2 = 0 := fun e => h4 (by rw [e]; rfl)
    unfold pg_r1
    rw [if_pos (Or.inl (by omega))]
  · have h4 : pg_ch S.2 = 0 := by
      have e : nI (pg_ch S.2) = nI 0 := h4
      rw [nI_eq (by omega) (by omega)] at e
      exact e
    refine xj_aload_n C a_R_prepareNext_7 rfl ?_
    refine xn_callV0i C a_R_prepareNext_8 (c_R_isPrimary _ _ v r hr S.2 hF hN) mv_R_isPrimary lk_R_210 ⟨rfl, rfl, rfl⟩ (xj_ok11 (by first | assumption | omega)) ⟨by decide, by decide⟩ rfl (Nat.le_of_ble_eq_true rfl) ⟨Nat.le_refl _, Nat.le_refl _⟩ ?_
    refine xj_if_eq C a_R_prepareNext_11 rfl (fun h11 => ?_) (fun h11 => ?_)
    · rw [xp_b0, decide_eq_false_iff_not] at h11
      generalize hP : (fun n => pg_ac S.2 n != 0 && !pg_sent S.1 r 2 (pg_vw S.2) n) = P
      have eS : ∀ n, pg_fst (pg_h S.2) P = some n → pg_r1 r S = some (pg_own r S 2 (nI (pg_vw S.2)) (lN n) (nI (pg_ac S.2 n) - 2)) := by
        intro n h
        unfold pg_r1
        rw [if_neg (by omega), hP, h]
      have eN : pg_fst (pg_h S.2) P = none → pg_r1 r S = none := by
        intro h
        unfold pg_r1
        rw [if_neg (by omega), hP, h]
      refine xj_aload_n C a_R_prepareNext_16 rfl ?_
      refine xn_g_R_stable C a_R_prepareNext_17 fl_R_39 (by first | assumption | omega) ?_
      refine xj_topi hF.h ?_
      refine xj_iconst (v := nI 1) C a_R_prepareNext_20 (by decide) ?_
      refine xj_iadd C a_R_prepareNext_21 ?_
      refine xj_topi (nI_add _ 1) ?_
      refine xj_istore1 C a_R_prepareNext_22 rfl ?_
      have loop : ∀ N n : Nat, pg_h S.2 < n → n ≤ pg_h S.2 + 5 → pg_h S.2 + 5 - n < N → (∀ m, pg_h S.2 < m → m < n → P m = false) → ∀ z2 : Option Value, xn_X E G (xj_R E G (xp_rl r v (pg_r1 r S)) 0 0) 0 0 23 [some (.ref (xj_ad G (11, r, 0))), some (.int (nI n)), z2] [] v := by
        intro N
        induction N with
        | zero => intro n _ _ h; omega
        | succ N ih =>
          intro n h1 h2 hN2 hno z2
          refine xj_iload_n C a_R_prepareNext_23 rfl ?_
          refine xj_aload_n C a_R_prepareNext_24 rfl ?_
          refine xn_g_R_stable C a_R_prepareNext_25 fl_R_39 (by first | assumption | omega) ?_
          refine xj_topi hF.h ?_
          refine xj_iconst (v := nI 4) C a_R_prepareNext_28 (by decide) ?_
          refine xj_iadd C a_R_prepareNext_29 ?_
          refine xj_topi (nI_add _ 4) ?_
          refine xj_icmp_gt C a_R_prepareNext_30 rfl (fun h30 => ?_) (fun h30 => ?_)
          · rw [nI_ltI (by omega) (by omega)] at h30
            rw [eN (xp_fst_none (fun m a b => hno m a (by omega)))]
            refine xj_iconst (v := nI 0) C a_R_prepareNext_110 (by decide) ?_
            exact xj_zret C a_R_prepareNext_111 rfl ⟨rfl, rfl⟩
          · rw [nI_ltI (by omega) (by omega)] at h30
            obtain ⟨a1, a2, a3, a4⟩ := hR.S h1 (by omega)
            have h44 : n % 4 < 4 := Nat.mod_lt _ (by decide)
            have hac := hN.2.2.2.2.2.2.2 n
            have hl : (nI n).toInt64 = lN n := nI_l (by omega)
            have step : P n = false → ∀ z2 : Option Value, xn_X E G (xj_R E G (xp_rl r v (pg_r1 r S)) 0 0) 0 0 104 [some (.ref (xj_ad G (11, r, 0))), some (.int (nI n)), z2] [] v := by
              intro hp z2
              refine xj_iincN1 C a_R_prepareNext_104 rfl ?_
              refine xj_goto C a_R_prepareNext_107 rfl ?_
              refine ih (n + 1) (by omega) (by omega) (by omega) (fun m a b => ?_) _
              by_cases e : m = n
              · subst e; exact hp
              · exact hno m a (by omega)
            refine xj_aload_n C a_R_prepareNext_33 rfl ?_
            refine xj_iload_n C a_R_prepareNext_34 rfl ?_
            refine xj_i2l C a_R_prepareNext_35 ?_
            refine xj_topl hl ?_
            refine xn_callV1r C a_R_prepareNext_36 (c_R_slotAt _ _ v r n hr (by omega)) mv_R_slotAt lk_R_145 ⟨rfl, rfl, rfl⟩ (xj_ok11 (by first | assumption | omega)) ⟨by decide, by decide⟩ rfl (Nat.le_of_ble_eq_true rfl) ⟨Nat.le_refl _, Nat.le_refl _⟩ ?_
            refine xj_astore2 C a_R_prepareNext_39 rfl ?_
            refine xj_aload_n C a_R_prepareNext_40 rfl ?_
            refine xn_g_S_accepted C a_R_prepareNext_41 fl_R_149 (by first | assumption | omega) (by first | assumption | omega) ?_
            refine xj_topi a1 ?_
            refine xj_bipush (v := -2) C a_R_prepareNext_44 (by decide) ?_
            refine xj_icmp_eq C a_R_prepareNext_46 rfl (fun h46 => ?_) (fun h46 => ?_)
            · have h46 : nI (pg_ac S.2 n) - 2 = -2 := h46
              rw [xp_acc (by omega)] at h46
              exact step (by rw [← hP]; simp [h46]) _
            · have h46 : ¬ nI (pg_ac S.2 n) - 2 = -2 := h46
              rw [xp_acc (by omega)] at h46
              refine xj_aload_n C a_R_prepareNext_49 rfl ?_
              refine xn_g_S_prepares C a_R_prepareNext_50 fl_R_156 (by first | assumption | omega) (by first | assumption | omega) ?_
              refine xj_aload_n C a_R_prepareNext_53 rfl ?_
              refine xn_g_R_self C a_R_prepareNext_54 fl_R_58 (by first | assumption | omega) ?_
              refine xj_topi hF.self ?_
              refine xn_ld_14 C a_R_prepareNext_57 (by first | assumption | omega) (by first | assumption | omega) (by first | assumption | omega) ?_
              refine xj_topl ((a4 r hr).1) ?_
              refine xj_ldc2 C a_R_prepareNext_58 kl_R_162 ?_
              refine xj_lcmp C a_R_prepareNext_61 ?_
              refine xj_if_ne C a_R_prepareNext_62 rfl (fun h62 => ?_) (fun h62 => ?_)
              · rw [xp_cmp_ne, pg_sent_nv hO (by decide)] at h62
                exact step (by rw [← hP]; simp [h62]) _
              · rw [xp_cmp_ne] at h62
                replace h62 : pg_nv S 2 n r = 1099511627776 := by simpa using h62
                have hse := (pg_sent_nv hO (by decide)).mp h62
                have o := xn_post_oth v S.1.1 (nI 2) (nI r) (nI (pg_vw S.2)) (lN n) (nI (pg_ac S.2 n) - 2)
                rw [eS n (xp_fst_some h1 (by omega) (by rw [← hP]; simp [h46, hse]) hno)]
                refine xj_aload_n C a_R_prepareNext_65 rfl ?_
                refine xn_g_R_board C a_R_prepareNext_66 fl_R_61 (by first | assumption | omega) ?_
                refine xj_iconst (v := nI 2) C a_R_prepareNext_69 (by decide) ?_
                refine xj_aload_n C a_R_prepareNext_70 rfl ?_
                refine xn_g_R_self C a_R_prepareNext_71 fl_R_58 (by first | assumption | omega) ?_
                refine xj_topi hF.self ?_
                refine xj_aload_n C a_R_prepareNext_74 rfl ?_
                refine xn_g_R_view C a_R_prepareNext_75 fl_R_31 (by first | assumption | omega) ?_
                refine xj_topi hF.vw ?_
                refine xj_iload_n C a_R_prepareNext_78 rfl ?_
                refine xj_i2l C a_R_prepareNext_79 ?_
                refine xj_topl hl ?_
                refine xj_aload_n C a_R_prepareNext_80 rfl ?_
                refine xn_g_S_accepted C a_R_prepareNext_81 fl_R_149 (by first | assumption | omega) (by first | assumption | omega) ?_
                refine xj_topi a1 ?_
                refine xn_callV5i C a_R_prepareNext_84 (c_B_post _ _ v S.1.1 hB.1 hz (nI 2) (nI r) (nI (pg_vw S.2)) (lN n) (nI (pg_ac S.2 n) - 2)) mv_B_post lk_R_213 ⟨rfl, rfl, rfl⟩ xj_ok1 ⟨by decide, by decide⟩ rfl (Nat.le_of_ble_eq_true rfl) ⟨Nat.le_refl _, Nat.le_refl _⟩ ?_
                refine xj_pop C a_R_prepareNext_87 rfl ?_
                refine xj_aload_n C a_R_prepareNext_88 rfl ?_
                refine xn_g_S_prepares C a_R_prepareNext_89 fl_R_156 (by first | assumption | omega) (by first | assumption | omega) ?_
                refine xj_aload_n C a_R_prepareNext_92 rfl ?_
                refine xn_g_R_self C a_R_prepareNext_93 fl_R_58 (by first | assumption | omega) ?_
                refine xj_topi ((o 11 r 0 0 (by omega) (by omega)).1.trans hF.self) ?_
                refine xj_aload_n C a_R_prepareNext_96 rfl ?_
                refine xn_g_S_accepted C a_R_prepareNext_97 fl_R_149 (by first | assumption | omega) (by first | assumption | omega) ?_
                refine xj_topi ((o 13 r (n % 4) 2 (by omega) (by omega)).1.trans a1) ?_
                refine xj_i2l C a_R_prepareNext_100 ?_
                refine xn_st_14 C a_R_prepareNext_101 (by first | assumption | omega) (by first | assumption | omega) (by first | assumption | omega) ?_
                refine xj_iconst (v := nI 1) C a_R_prepareNext_102 (by decide) ?_
                refine xj_zret C a_R_prepareNext_103 rfl ?_
                refine ⟨rfl, _, rfl, hR.own23 hN (Or.inl ⟨rfl, rfl⟩) h1 (by omega) h62 _, ?_, ?_⟩
                · exact (hB.post hz 2 r _ _ _ false (by omega)).R ((xf_R.rf r _).uJ (by omega))
                · exact ((xf_O.rf r v).post).R ((xf_R.rf r _).uJ (by omega))
      exact loop 6 (pg_h S.2 + 1) (by omega) (by omega) (by omega) (fun m a b => by omega) none
    · rw [xp_b0, decide_eq_false_iff_not, Classical.not_not] at h11
      exact no (by unfold pg_r1; rw [if_pos (Or.inr h11)]) _ _
/-- CERT(n) is set -/
theorem xc_R.claim {r : Nat} {S : pg_S} {v : xn_V} (hR : xc_R r S v) {n q : Nat} (h1 : pg_h S.2 < n) (h2 : n ≤ pg_h S.2 + 4) : xc_R r (S.1, pg_u S.2 8 n q) (xn_uI v 13 r (n % 4) 4 (nI q)) := by
  obtain ⟨hF, ⟨kl, hL, hk⟩, ⟨cl, hC, hc⟩, hV, hS⟩ := hR
  refine ⟨hF, ⟨kl, hL, hk⟩, ⟨cl, hC, hc⟩, hV, fun n' h3 h4 => ?_⟩
  obtain ⟨a1, a2, a3, a4⟩ := hS n' h3 h4
  by_cases e : n' = n
  · subst e
    refine ⟨?_, ?_, ?_, a4⟩
    · simpa [xn_uI, xn_uJ, pg_u, pg_w, pg_ss, pg_ac, pg_de, pg_ct, pg_no, pg_kn, pg_vw, pg_ch, pg_h, pg_e, pg_sp, pg_tm, pg_af] using a1
    · simpa [xn_uI, xn_uJ, pg_u, pg_w, pg_ss, pg_ac, pg_de, pg_ct, pg_no, pg_kn, pg_vw, pg_ch, pg_h, pg_e, pg_sp, pg_tm, pg_af] using a2
    · simp [xn_uI, xn_uJ, pg_u, pg_w, pg_ss, pg_ac, pg_de, pg_ct, pg_no, pg_kn, pg_vw, pg_ch, pg_h, pg_e, pg_sp, pg_tm, pg_af]
  · have e4 : ¬ n' % 4 = n % 4 := fun e2 => e (xp_mod4 h3 h4 h1 h2 e2)
    refine ⟨?_, ?_, ?_, a4⟩
    · simpa [xn_uI, xn_uJ, pg_u, pg_w, pg_ss, pg_ac, pg_de, pg_ct, pg_no, pg_kn, pg_vw, pg_ch, pg_h, pg_e, pg_sp, pg_tm, pg_af, e, e4] using a1
    · simpa [xn_uI, xn_uJ, pg_u, pg_w, pg_ss, pg_ac, pg_de, pg_ct, pg_no, pg_kn, pg_vw, pg_ch, pg_h, pg_e, pg_sp, pg_tm, pg_af, e, e4] using a2
    · simpa [xn_uI, xn_uJ, pg_u, pg_w, pg_ss, pg_ac, pg_de, pg_ct, pg_no, pg_kn, pg_vw, pg_ch, pg_h, pg_e, pg_sp, pg_tm, pg_af, e, e4] using a3
/-- DECIDED(n) is set -/
theorem xc_R.decd {r : Nat} {S : pg_S} {v : xn_V} (hR : xc_R r S v) {n q : Nat} (h1 : pg_h S.2 < n) (h2 : n ≤ pg_h S.2 + 4) : xc_R r (S.1, pg_u S.2 7 n q) (xn_uI v 13 r (n % 4) 3 (nI q - 2)) := by
  obtain ⟨hF, ⟨kl, hL, hk⟩, ⟨cl, hC, hc⟩, hV, hS⟩ := hR
  refine ⟨hF, ⟨kl, hL, hk⟩, ⟨cl, hC, hc⟩, hV, fun n' h3 h4 => ?_⟩
  obtain ⟨a1, a2, a3, a4⟩ := hS n' h3 h4
  by_cases e : n' = n
  · subst e
    refine ⟨?_, ?_, ?_, a4⟩
    · simpa [xn_uI, xn_uJ, pg_u, pg_w, pg_ss, pg_ac, pg_de, pg_ct, pg_no, pg_kn, pg_vw, pg_ch, pg_h, pg_e, pg_sp, pg_tm, pg_af] using a1
    · simp [xn_uI, xn_uJ, pg_u, pg_w, pg_ss, pg_ac, pg_de, pg_ct, pg_no, pg_kn, pg_vw, pg_ch, pg_h, pg_e, pg_sp, pg_tm, pg_af]
    · simpa [xn_uI, xn_uJ, pg_u, pg_w, pg_ss, pg_ac, pg_de, pg_ct, pg_no, pg_kn, pg_vw, pg_ch, pg_h, pg_e, pg_sp, pg_tm, pg_af] using a3
  · have e4 : ¬ n' % 4 = n % 4 := fun e2 => e (xp_mod4 h3 h4 h1 h2 e2)
    refine ⟨?_, ?_, ?_, a4⟩
    · simpa [xn_uI, xn_uJ, pg_u, pg_w, pg_ss, pg_ac, pg_de, pg_ct, pg_no, pg_kn, pg_vw, pg_ch, pg_h, pg_e, pg_sp, pg_tm, pg_af, e, e4] using a1
    · simpa [xn_uI, xn_uJ, pg_u, pg_w, pg_ss, pg_ac, pg_de, pg_ct, pg_no, pg_kn, pg_vw, pg_ch, pg_h, pg_e, pg_sp, pg_tm, pg_af, e, e4] using a2
    · simpa [xn_uI, xn_uJ, pg_u, pg_w, pg_ss, pg_ac, pg_de, pg_ct, pg_no, pg_kn, pg_vw, pg_ch, pg_h, pg_e, pg_sp, pg_tm, pg_af, e, e4] using a3
theorem xn_cp_hr {r : Nat} {S : pg_S} {n : Nat} {v : xn_V} (hS : xc_S r S n v) (h : pg_nu S) (hq : ¬ pg_ac S.2 n = 0) (hq2 : pg_ac S.2 n < 300) : xn_cp v r (n % 4) = pg_hr S 2 (nI (pg_vw S.2)) (lN n) (nI (pg_ac S.2 n) - 2) := by
  rw [← pg_hr_nv h (Or.inl rfl) hq hq2]
  unfold xn_cp xp_c
  congr 1
  apply List.filter_congr
  intro s hs
  rw [hS.1, (hS.2.2.2 s (List.mem_range.mp hs)).1]
theorem xn_cc_hr {r : Nat} {S : pg_S} {n : Nat} {v : xn_V} (hS : xc_S r S n v) (h : pg_nu S) (hq : ¬ pg_ac S.2 n = 0) (hq2 : pg_ac S.2 n < 300) : xn_cc v r (n % 4) = pg_hr S 3 (nI (pg_vw S.2)) (lN n) (nI (pg_ac S.2 n) - 2) := by
  rw [← pg_hr_nv h (Or.inr rfl) hq hq2]
  unfold xn_cc xp_c
  congr 1
  apply List.filter_congr
  intro s hs
  rw [hS.1, (hS.2.2.2 s (List.mem_range.mp hs)).2]
theorem pg_hr_le (S : pg_S) (k : Nat) (x : Int32) (y : Int64) (z : Int32) : pg_hr S k x y z ≤ 4 := by
  unfold pg_hr pg_cnt
  exact Nat.le_trans (List.length_filter_le _ _) (by decide)
theorem pg_claim_num {R : pg_R} (h : pg_num R) (n : Nat) : pg_num (pg_u R 8 n (1 + pg_vw R)) := by
  have hv := h.1
  refine ⟨h.1, h.2.1, h.2.2.1, h.2.2.2.1, h.2.2.2.2.1, h.2.2.2.2.2.1, h.2.2.2.2.2.2.1, fun m => ?_⟩
  have hm := h.2.2.2.2.2.2.2 m
  refine ⟨hm.1, hm.2.1, ?_⟩
  show (if 8 = 8 ∧ m = n then 1 + pg_vw R else pg_ct R m) ≤ 16
  split
  · omega
  · exact hm.2.2
theorem c_R_commitNext (l : Launch) (G : xj_G) (v : xn_V) (r : Nat) (hr : r < 4) (S : pg_S) (hR : xc_R r S v) (hN : pg_num S.2) (hB : xc_B S.1 v) (hO : pg_ow r S) (hU : pg_nu S) (hz : S.1.1 < 256) : xj_Mx l G 2 43 0 0 m_R_commitNext [.ref (xj_ad G (11, r, 0))] (xn_W v) (xp_rl r v (pg_r2 r S)) := by
  have hF := hR.1
  have hh := hN.2.2.1
  have hvw := hN.1
  refine xj_Mx_of (by decide) (Nat.le_of_ble_eq_true rfl) (fun E hE C _ => ?_)
  subst hE
  replace C : xj_C E G prog_5_method_21_code "ThreePhaseGroup$Replica" 3 2 43 0 0 (some .boolean) := C
  show xn_X E G _ 0 0 0 [some (.ref (xj_ad G (11, r, 0))), none, none] [] v
  generalize hP : (fun n => pg_ac S.2 n != 0 && (!pg_sent S.1 r 3 (pg_vw S.2) n && decide (2 ≤ pg_hr S 2 (nI (pg_vw S.2)) (lN n) (nI (pg_ac S.2 n) - 2)))) = P
  have eS : ∀ n, pg_fst (pg_h S.2) P = some n → pg_r2 r S = some (pg_own r (S.1, pg_u S.2 8 n (1 + pg_vw S.2)) 3 (nI (pg_vw S.2)) (lN n) (nI (pg_ac S.2 n) - 2)) := by
    intro n h
    unfold pg_r2
    rw [hP, h]
  have eN : pg_fst (pg_h S.2) P = none → pg_r2 r S = none := by
    intro h
    unfold pg_r2
    rw [hP, h]
  refine xj_aload_n C a_R_commitNext_0 rfl ?_
  refine xn_g_R_stable C a_R_commitNext_1 fl_R_39 (by first | assumption | omega) ?_
  refine xj_topi hF.h ?_
  refine xj_iconst (v := nI 1) C a_R_commitNext_4 (by decide) ?_
  refine xj_iadd C a_R_commitNext_5 ?_
  refine xj_topi (nI_add _ 1) ?_
  refine xj_istore1 C a_R_commitNext_6 rfl ?_
  have loop : ∀ N n : Nat, pg_h S.2 < n → n ≤ pg_h S.2 + 5 → pg_h S.2 + 5 - n < N → (∀ m, pg_h S.2 < m → m < n → P m = false) → ∀ z2 : Option Value, xn_X E G (xj_R E G (xp_rl r v (pg_r2 r S)) 0 0) 0 0 7 [some (.ref (xj_ad G (11, r, 0))), some (.int (nI n)), z2] [] v := by
    intro N
    induction N with
    | zero => intro n _ _ h; omega
    | succ N ih =>
      intro n h1 h2 hN2 hno z2
      refine xj_iload_n C a_R_commitNext_7 rfl ?_
      refine xj_aload_n C a_R_commitNext_8 rfl ?_
      refine xn_g_R_stable C a_R_commitNext_9 fl_R_39 (by first | assumption | omega) ?_
      refine xj_topi hF.h ?_
      refine xj_iconst (v := nI 4) C a_R_commitNext_12 (by decide) ?_
      refine xj_iadd C a_R_commitNext_13 ?_
      refine xj_topi (nI_add _ 4) ?_
      refine xj_icmp_gt C a_R_commitNext_14 rfl (fun h14 => ?_) (fun h14 => ?_)
      · rw [nI_ltI (by omega) (by omega)] at h14
        rw [eN (xp_fst_none (fun m a b => hno m a (by omega)))]
        refine xj_iconst (v := nI 0) C a_R_commitNext_112 (by decide) ?_
        exact xj_zret C a_R_commitNext_113 rfl ⟨rfl, rfl⟩
      · rw [nI_ltI (by omega) (by omega)] at h14
        have hS : xc_S r S n v := hR.S h1 (by omega)
        obtain ⟨a1, a2, a3, a4⟩ := hR.S h1 (show n ≤ pg_h S.2 + 4 by omega)
        have h44 : n % 4 < 4 := Nat.mod_lt _ (by decide)
        have hac := hN.2.2.2.2.2.2.2 n
        have hl : (nI n).toInt64 = lN n := nI_l (by omega)
        have step : P n = false → ∀ z2 : Option Value, xn_X E G (xj_R E G (xp_rl r v (pg_r2 r S)) 0 0) 0 0 106 [some (.ref (xj_ad G (11, r, 0))), some (.int (nI n)), z2] [] v := by
          intro hp z2
          refine xj_iincN1 C a_R_commitNext_106 rfl ?_
          refine xj_goto C a_R_commitNext_109 rfl ?_
          refine ih (n + 1) (by omega) (by omega) (by omega) (fun m a b => ?_) _
          by_cases e : m = n
          · subst e; exact hp
          · exact hno m a (by omega)
        refine xj_aload_n C a_R_commitNext_17 rfl ?_
        refine xj_iload_n C a_R_commitNext_18 rfl ?_
        refine xj_i2l C a_R_commitNext_19 ?_
        refine xj_topl hl ?_
        refine xn_callV1r C a_R_commitNext_20 (c_R_slotAt _ _ v r n hr (by omega)) mv_R_slotAt lk_R_145 ⟨rfl, rfl, rfl⟩ (xj_ok11 (by first | assumption | omega)) ⟨by decide, by decide⟩ rfl (Nat.le_of_ble_eq_true rfl) ⟨Nat.le_refl _, Nat.le_refl _⟩ ?_
        refine xj_astore2 C a_R_commitNext_23 rfl ?_
        refine xj_aload_n C a_R_commitNext_24 rfl ?_
        refine xn_g_S_accepted C a_R_commitNext_25 fl_R_149 (by first | assumption | omega) (by first | assumption | omega) ?_
        refine xj_topi a1 ?_
        refine xj_bipush (v := -2) C a_R_commitNext_28 (by decide) ?_
        refine xj_icmp_eq C a_R_commitNext_30 rfl (fun h30 => ?_) (fun h30 => ?_)
        · have h30 : nI (pg_ac S.2 n) - 2 = -2 := h30
          rw [xp_acc (by omega)] at h30
          exact step (by rw [← hP]; simp [h30]) _
        · have h30 : ¬ nI (pg_ac S.2 n) - 2 = -2 := h30
          rw [xp_acc (by omega)] at h30
          refine xj_aload_n C a_R_commitNext_33 rfl ?_
          refine xn_g_S_commits C a_R_commitNext_34 fl_R_159 (by first | assumption | omega) (by first | assumption | omega) ?_
          refine xj_aload_n C a_R_commitNext_37 rfl ?_
          refine xn_g_R_self C a_R_commitNext_38 fl_R_58 (by first | assumption | omega) ?_
          refine xj_topi hF.self ?_
          refine xn_ld_15 C a_R_commitNext_41 (by first | assumption | omega) (by first | assumption | omega) (by first | assumption | omega) ?_
          refine xj_topl ((a4 r hr).2) ?_
          refine xj_ldc2 C a_R_commitNext_42 kl_R_162 ?_
          refine xj_lcmp C a_R_commitNext_45 ?_
          refine xj_if_ne C a_R_commitNext_46 rfl (fun h46 => ?_) (fun h46 => ?_)
          · rw [xp_cmp_ne, pg_sent_nv hO (by decide)] at h46
            exact step (by rw [← hP]; simp [h46]) _
          · rw [xp_cmp_ne] at h46
            replace h46 : pg_nv S 3 n r = 1099511627776 := by simpa using h46
            have hse := (pg_sent_nv hO (by decide)).mp h46
            have hle := pg_hr_le S 2 (nI (pg_vw S.2)) (lN n) (nI (pg_ac S.2 n) - 2)
            refine xj_aload_n C a_R_commitNext_49 rfl ?_
            refine xn_callV0i C a_R_commitNext_50 (c_S_countPrepares _ _ v r (n % 4) hr h44) mv_S_countPrepares lk_R_217 ⟨rfl, rfl, rfl⟩ (xj_ok13 (by first | assumption | omega) (by first | assumption | omega)) ⟨by decide, by decide⟩ rfl (Nat.le_of_ble_eq_true rfl) ⟨Nat.le_refl _, Nat.le_refl _⟩ ?_
            rw [xn_cp_hr hS hU h30 hac.1]
            refine xj_iconst (v := nI 2) C a_R_commitNext_53 (by decide) ?_
            refine xj_icmp_lt C a_R_commitNext_54 rfl (fun h54 => ?_) (fun h54 => ?_)
            · rw [nI_ltI (by omega) (by omega)] at h54
              exact step (by rw [← hP]; simp; intros; omega) _
            · rw [nI_ltI (by omega) (by omega)] at h54
              rw [eS n (xp_fst_some h1 (by omega) (by rw [← hP]; simp [h30, hse]; omega) hno)]
              refine xj_aload_n C a_R_commitNext_57 rfl ?_
              refine xj_iconst (v := nI 1) C a_R_commitNext_58 (by decide) ?_
              refine xj_aload_n C a_R_commitNext_59 rfl ?_
              refine xn_g_R_view C a_R_commitNext_60 fl_R_31 (by first | assumption | omega) ?_
              refine xj_topi hF.vw ?_
              refine xj_iadd C a_R_commitNext_63 ?_
              refine xj_topi (nI_add 1 _) ?_
              have hR1 := hR.claim (q := 1 + pg_vw S.2) h1 (by omega)
              have hN1 := pg_claim_num hN n
              have hB1 : xc_B S.1 (xn_uI v 13 r (n % 4) 4 (nI (1 + pg_vw S.2))) := hB.R ((xf_R.rf r _).uI (by omega))
              have hun : pg_nv (S.1, pg_u S.2 8 n (1 + pg_vw S.2)) 3 n r = 1099511627776 := by
                exact (pg_nv_same (S := S) (R' := pg_u S.2 8 n (1 + pg_vw S.2)) (fun _ => rfl) rfl 3 n r).trans h46
              have o := xn_post_oth (xn_uI v 13 r (n % 4) 4 (nI (1 + pg_vw S.2))) S.1.1 (nI 3) (nI r) (nI (pg_vw S.2)) (lN n) (nI (pg_ac S.2 n) - 2)
              have b1 : (xn_uI v 13 r (n % 4) 4 (nI (1 + pg_vw S.2))).1 13 r (n % 4) 2 = nI (pg_ac S.2 n) - 2 := by
                show (if 13 = 13 ∧ r = r ∧ n % 4 = n % 4 ∧ 2 = 4 then _ else v.1 13 r (n % 4) 2) = _
                rw [if_neg (by omega)]
                exact a1
              refine xn_p_S_claim C a_R_commitNext_64 fl_R_220 (by first | assumption | omega) (by first | assumption | omega) ?_
              refine xj_aload_n C a_R_commitNext_67 rfl ?_
              refine xn_g_R_board C a_R_commitNext_68 fl_R_61 (by first | assumption | omega) ?_
              refine xj_iconst (v := nI 3) C a_R_commitNext_71 (by decide) ?_
              refine xj_aload_n C a_R_commitNext_72 rfl ?_
              refine xn_g_R_self C a_R_commitNext_73 fl_R_58 (by first | assumption | omega) ?_
              refine xj_topi hF.self ?_
              refine xj_aload_n C a_R_commitNext_76 rfl ?_
              refine xn_g_R_view C a_R_commitNext_77 fl_R_31 (by first | assumption | omega) ?_
              refine xj_topi hF.vw ?_
              refine xj_iload_n C a_R_commitNext_80 rfl ?_
              refine xj_i2l C a_R_commitNext_81 ?_
              refine xj_topl hl ?_
              refine xj_aload_n C a_R_commitNext_82 rfl ?_
              refine xn_g_S_accepted C a_R_commitNext_83 fl_R_149 (by first | assumption | omega) (by first | assumption | omega) ?_
              refine xj_topi b1 ?_
              refine xn_callV5i C a_R_commitNext_86 (c_B_post _ _ _ S.1.1 hB1.1 hz (nI 3) (nI r) (nI (pg_vw S.2)) (lN n) (nI (pg_ac S.2 n) - 2)) mv_B_post lk_R_213 ⟨rfl, rfl, rfl⟩ xj_ok1 ⟨by decide, by decide⟩ rfl (Nat.le_of_ble_eq_true rfl) ⟨Nat.le_refl _, Nat.le_refl _⟩ ?_
              refine xj_pop C a_R_commitNext_89 rfl ?_
              refine xj_aload_n C a_R_commitNext_90 rfl ?_
              refine xn_g_S_commits C a_R_commitNext_91 fl_R_159 (by first | assumption | omega) (by first | assumption | omega) ?_
              refine xj_aload_n C a_R_commitNext_94 rfl ?_
              refine xn_g_R_self C a_R_commitNext_95 fl_R_58 (by first | assumption | omega) ?_
              refine xj_topi ((o 11 r 0 0 (by omega) (by omega)).1.trans hF.self) ?_
              refine xj_aload_n C a_R_commitNext_98 rfl ?_
              refine xn_g_S_accepted C a_R_commitNext_99 fl_R_149 (by first | assumption | omega) (by first | assumption | omega) ?_
              refine xj_topi ((o 13 r (n % 4) 2 (by omega) (by omega)).1.trans b1) ?_
              refine xj_i2l C a_R_commitNext_102 ?_
              refine xn_st_15 C a_R_commitNext_103 (by first | assumption | omega) (by first | assumption | omega) (by first | assumption | omega) ?_
              refine xj_iconst (v := nI 1) C a_R_commitNext_104 (by decide) ?_
              refine xj_zret C a_R_commitNext_105 rfl ?_
              refine ⟨rfl, _, rfl, hR1.own23 hN1 (Or.inr ⟨rfl, rfl⟩) h1 (show n ≤ pg_h S.2 + 4 by omega) hun _, ?_, ?_⟩
              · exact (hB1.post hz 3 r _ _ _ false (by omega)).R ((xf_R.rf r _).uJ (by omega))
              · exact ((xf_O.ofR ((xf_R.rf r v).uI (by omega))).post).R ((xf_R.rf r _).uJ (by omega))
  exact loop 6 (pg_h S.2 + 1) (by omega) (by omega) (by omega) (fun m a b => by omega) none
theorem c_R_decideNext (l : Launch) (G : xj_G) (v : xn_V) (r : Nat) (hr : r < 4) (S : pg_S) (hR : xc_R r S v) (hN : pg_num S.2) (hB : xc_B S.1 v) (hO : pg_ow r S) (hU : pg_nu S) : xj_Mx l G 2 43 0 0 m_R_decideNext [.ref (xj_ad G (11, r, 0))] (xn_W v) (xp_rl r v (pg_r3 r S)) := by
  have hF := hR.1
  have hh := hN.2.2.1
  have hvw := hN.1
  refine xj_Mx_of (by decide) (Nat.le_of_ble_eq_true rfl) (fun E hE C _ => ?_)
  subst hE
  replace C : xj_C E G prog_5_method_22_code "ThreePhaseGroup$Replica" 3 2 43 0 0 (some .boolean) := C
  show xn_X E G _ 0 0 0 [some (.ref (xj_ad G (11, r, 0))), none, none] [] v
  generalize hP : (fun n => pg_ac S.2 n != 0 && (pg_de S.2 n == 0 && (pg_sent S.1 r 3 (pg_vw S.2) n && decide (3 ≤ pg_hr S 3 (nI (pg_vw S.2)) (lN n) (nI (pg_ac S.2 n) - 2))))) = P
  have eS : ∀ n, pg_fst (pg_h S.2) P = some n → pg_r3 r S = some (S.1, pg_u S.2 7 n (pg_ac S.2 n)) := by
    intro n h
    unfold pg_r3
    rw [hP, h]
  have eN : pg_fst (pg_h S.2) P = none → pg_r3 r S = none := by
    intro h
    unfold pg_r3
    rw [hP, h]
  refine xj_aload_n C a_R_decideNext_0 rfl ?_
  refine xn_g_R_stable C a_R_decideNext_1 fl_R_39 (by first | assumption | omega) ?_
  refine xj_topi hF.h ?_
  refine xj_iconst (v := nI 1) C a_R_decideNext_4 (by decide) ?_
  refine xj_iadd C a_R_decideNext_5 ?_
  refine xj_topi (nI_add _ 1) ?_
  refine xj_istore1 C a_R_decideNext_6 rfl ?_
  have loop : ∀ N n : Nat, pg_h S.2 < n → n ≤ pg_h S.2 + 5 → pg_h S.2 + 5 - n < N → (∀ m, pg_h S.2 < m → m < n → P m = false) → ∀ z2 : Option Value, xn_X E G (xj_R E G (xp_rl r v (pg_r3 r S)) 0 0) 0 0 7 [some (.ref (xj_ad G (11, r, 0))), some (.int (nI n)), z2] [] v := by
    intro N
    induction N with
    | zero => intro n _ _ h; omega
    | succ N ih =>
      intro n h1 h2 hN2 hno z2
      refine xj_iload_n C a_R_decideNext_7 rfl ?_
      refine xj_aload_n C a_R_decideNext_8 rfl ?_
      refine xn_g_R_stable C a_R_decideNext_9 fl_R_39 (by first | assumption | omega) ?_
      refine xj_topi hF.h ?_
      refine xj_iconst (v := nI 4) C a_R_decideNext_12 (by decide) ?_
      refine xj_iadd C a_R_decideNext_13 ?_
      refine xj_topi (nI_add _ 4) ?_
      refine xj_icmp_gt C a_R_decideNext_14 rfl (fun h14 => ?_) (fun h14 => ?_)
      · rw [nI_ltI (by omega) (by omega)] at h14
        rw [eN (xp_fst_none (fun m a b => hno m a (by omega)))]
        refine xj_iconst (v := nI 0) C a_R_decideNext_82 (by decide) ?_
        exact xj_zret C a_R_decideNext_83 rfl ⟨rfl, rfl⟩
      · rw [nI_ltI (by omega) (by omega)] at h14
        have hS : xc_S r S n v := hR.S h1 (by omega)
        obtain ⟨a1, a2, a3, a4⟩ := hR.S h1 (show n ≤ pg_h S.2 + 4 by omega)
        have h44 : n % 4 < 4 := Nat.mod_lt _ (by decide)
        have hac := hN.2.2.2.2.2.2.2 n
        have hl : (nI n).toInt64 = lN n := nI_l (by omega)
        have step : P n = false → ∀ z2 : Option Value, xn_X E G (xj_R E G (xp_rl r v (pg_r3 r S)) 0 0) 0 0 76 [some (.ref (xj_ad G (11, r, 0))), some (.int (nI n)), z2] [] v := by
          intro hp z2
          refine xj_iincN1 C a_R_decideNext_76 rfl ?_
          refine xj_goto C a_R_decideNext_79 rfl ?_
          refine ih (n + 1) (by omega) (by omega) (by omega) (fun m a b => ?_) _
          by_cases e : m = n
          · subst e; exact hp
          · exact hno m a (by omega)
        refine xj_aload_n C a_R_decideNext_17 rfl ?_
        refine xj_iload_n C a_R_decideNext_18 rfl ?_
        refine xj_i2l C a_R_decideNext_19 ?_
        refine xj_topl hl ?_
        refine xn_callV1r C a_R_decideNext_20 (c_R_slotAt _ _ v r n hr (by omega)) mv_R_slotAt lk_R_145 ⟨rfl, rfl, rfl⟩ (xj_ok11 (by first | assumption | omega)) ⟨by decide, by decide⟩ rfl (Nat.le_of_ble_eq_true rfl) ⟨Nat.le_refl _, Nat.le_refl _⟩ ?_
        refine xj_astore2 C a_R_decideNext_23 rfl ?_
        refine xj_aload_n C a_R_decideNext_24 rfl ?_
        refine xn_g_S_accepted C a_R_decideNext_25 fl_R_149 (by first | assumption | omega) (by first | assumption | omega) ?_
        refine xj_topi a1 ?_
        refine xj_bipush (v := -2) C a_R_decideNext_28 (by decide) ?_
        refine xj_icmp_eq C a_R_decideNext_30 rfl (fun h30 => ?_) (fun h30 => ?_)
        · have h30 : nI (pg_ac S.2 n) - 2 = -2 := h30
          rw [xp_acc (by omega)] at h30
          exact step (by rw [← hP]; simp [h30]) _
        · have h30 : ¬ nI (pg_ac S.2 n) - 2 = -2 := h30
          rw [xp_acc (by omega)] at h30
          refine xj_aload_n C a_R_decideNext_33 rfl ?_
          refine xn_g_S_decided C a_R_decideNext_34 fl_R_223 (by first | assumption | omega) (by first | assumption | omega) ?_
          refine xj_topi a2 ?_
          refine xj_bipush (v := -2) C a_R_decideNext_37 (by decide) ?_
          refine xj_icmp_ne C a_R_decideNext_39 rfl (fun h39 => ?_) (fun h39 => ?_)
          · have h39 : ¬ nI (pg_de S.2 n) - 2 = -2 := h39
            rw [xp_acc (by omega)] at h39
            exact step (by rw [← hP]; simp [h39]) _
          · have h39 : nI (pg_de S.2 n) - 2 = -2 := by simpa using h39
            rw [xp_acc (by omega)] at h39
            refine xj_aload_n C a_R_decideNext_42 rfl ?_
            refine xn_g_S_commits C a_R_decideNext_43 fl_R_159 (by first | assumption | omega) (by first | assumption | omega) ?_
            refine xj_aload_n C a_R_decideNext_46 rfl ?_
            refine xn_g_R_self C a_R_decideNext_47 fl_R_58 (by first | assumption | omega) ?_
            refine xj_topi hF.self ?_
            refine xn_ld_15 C a_R_decideNext_50 (by first | assumption | omega) (by first | assumption | omega) (by first | assumption | omega) ?_
            refine xj_topl ((a4 r hr).2) ?_
            refine xj_ldc2 C a_R_decideNext_51 kl_R_162 ?_
            refine xj_lcmp C a_R_decideNext_54 ?_
            refine xj_if_eq C a_R_decideNext_55 rfl (fun h55 => ?_) (fun h55 => ?_)
            · rw [xp_cmp_eq, pg_sent_nv hO (by decide)] at h55
              exact step (by rw [← hP]; simp [h55]) _
            · rw [xp_cmp_eq, pg_sent_nv hO (by decide)] at h55
              replace h55 : pg_sent S.1 r 3 (pg_vw S.2) n = true := by simpa using h55
              have hle := pg_hr_le S 3 (nI (pg_vw S.2)) (lN n) (nI (pg_ac S.2 n) - 2)
              refine xj_aload_n C a_R_decideNext_58 rfl ?_
              refine xn_callV0i C a_R_decideNext_59 (c_S_countCommits _ _ v r (n % 4) hr h44) mv_S_countCommits lk_R_226 ⟨rfl, rfl, rfl⟩ (xj_ok13 (by first | assumption | omega) (by first | assumption | omega)) ⟨by decide, by decide⟩ rfl (Nat.le_of_ble_eq_true rfl) ⟨Nat.le_refl _, Nat.le_refl _⟩ ?_
              rw [xn_cc_hr hS hU h30 hac.1]
              refine xj_iconst (v := nI 3) C a_R_decideNext_62 (by decide) ?_
              refine xj_icmp_lt C a_R_decideNext_63 rfl (fun h63 => ?_) (fun h63 => ?_)
              · rw [nI_ltI (by omega) (by omega)] at h63
                exact step (by rw [← hP]; simp; intros; omega) _
              · rw [nI_ltI (by omega) (by omega)] at h63
                rw [eS n (xp_fst_some h1 (by omega) (by rw [← hP]; simp [h30, h39, h55]; omega) hno)]
                refine xj_aload_n C a_R_decideNext_66 rfl ?_
                refine xj_aload_n C a_R_decideNext_67 rfl ?_
                refine xn_g_S_accepted C a_R_decideNext_68 fl_R_149 (by first | assumption | omega) (by first | assumption | omega) ?_
                refine xj_topi a1 ?_
                refine xn_p_S_decided C a_R_decideNext_71 fl_R_223 (by first | assumption | omega) (by first | assumption | omega) ?_
                refine xj_iconst (v := nI 1) C a_R_decideNext_74 (by decide) ?_
                refine xj_zret C a_R_decideNext_75 rfl ?_
                refine ⟨rfl, _, rfl, hR.decd h1 (by omega), hB.R ((xf_R.rf r _).uI (by omega)), xf_O.ofR ((xf_R.rf r v).uI (by omega))⟩
  exact loop 6 (pg_h S.2 + 1) (by omega) (by omega) (by omega) (fun m a b => by omega) none
