/-! the clock; joining a change of view; the timer -/
/-- the clock of a running timer goes on by one -/
def pg_clk (r : Nat) (S : pg_S) : pg_S := if pg_tm S.2 = 1 then pg_beg r (S.1, pg_u S.2 5 0 0) (pg_vw S.2 + 1) else (S.1, pg_u S.2 5 0 (pg_tm S.2 - 1))
theorem pg_fld_num {R : pg_R} (h : pg_num R) {t x : Nat} (ht : t = 1 ∧ x ≤ 1 ∨ t = 3 ∧ x < 400 ∨ t = 5 ∧ x < 64 ∨ t = 4 ∧ x ≤ 32 ∨ t = 11 ∧ x ≤ 1) : pg_num (pg_u R t 0 x) := by
  obtain ⟨h1, h2, h3, h4, h5, h6, h7, h8⟩ := h
  rcases ht with ⟨rfl, hx⟩ | ⟨rfl, hx⟩ | ⟨rfl, hx⟩ | ⟨rfl, hx⟩ | ⟨rfl, hx⟩
  · exact ⟨h1, hx, h3, h4, h5, h6, h7, h8⟩
  · exact ⟨h1, h2, h3, hx, h5, h6, h7, h8⟩
  · exact ⟨h1, h2, h3, h4, hx, h6, h7, h8⟩
  · exact ⟨h1, h2, h3, h4, h5, hx, h7, h8⟩
  · exact ⟨h1, h2, h3, h4, h5, h6, hx, h8⟩
theorem c_R_stepClock (l : Launch) (G : xj_G) (v : xn_V) (r : Nat) (hr : r < 4) (S : pg_S) (hR : xc_R r S v) (hN : pg_num S.2) (hB : xc_B S.1 v) (hz : S.1.1 < 256) (ht : 0 < pg_tm S.2) (hw : pg_fre S (pg_vw S.2 + 1)) : xj_Mx l G 3 66 0 0 m_R_stepClock [.ref (xj_ad G (11, r, 0))] (xn_W v) (xp_bg r v (pg_clk r S) none) := by
  have hF := hR.1
  have ht2 := hN.2.2.2.2.1
  have hvw := hN.1
  have hR1 := hR.fld (t := 5) (x := 11) (y := pg_tm S.2 - 1) (by omega)
  have hf1 : xf_R r v (xn_uI v 11 r 0 11 (nI (pg_tm S.2 - 1))) := (xf_R.rf r v).uI (by omega)
  refine xj_Mx_of (by decide) (Nat.le_of_ble_eq_true rfl) (fun E hE C _ => ?_)
  subst hE
  replace C : xj_C E G prog_5_method_17_code "ThreePhaseGroup$Replica" 1 3 66 0 0 none := C
  show xn_X E G _ 0 0 0 [some (.ref (xj_ad G (11, r, 0)))] [] v
  refine xj_aload_n C a_R_stepClock_0 rfl ?_
  refine xj_dup C a_R_stepClock_1 rfl ?_
  refine xn_g_R_timer C a_R_stepClock_2 fl_R_49 (by first | assumption | omega) ?_
  refine xj_topi hF.tm ?_
  refine xj_iconst (v := nI 1) C a_R_stepClock_5 (by decide) ?_
  refine xj_isub C a_R_stepClock_6 ?_
  refine xj_topi (pk_sub (by omega)) ?_
  refine xn_p_R_timer C a_R_stepClock_7 fl_R_49 (by first | assumption | omega) ?_
  refine xj_aload_n C a_R_stepClock_10 rfl ?_
  refine xn_g_R_timer C a_R_stepClock_11 fl_R_49 (by first | assumption | omega) ?_
  refine xj_topi hR1.1.tm ?_
  show xn_X E G _ 0 0 14 _ [.int (nI (pg_tm S.2 - 1))] _
  refine xj_if_ne C a_R_stepClock_14 rfl (fun h14 => ?_) (fun h14 => ?_)
  · have h14 : ¬ pg_tm S.2 - 1 = 0 := fun e => h14 (by rw [e]; rfl)
    refine xj_vret C a_R_stepClock_27 ?_
    refine ⟨rfl, _, rfl, ?_⟩
    unfold pg_clk
    rw [if_neg (by omega)]
    exact ⟨hR1, hB.R hf1, xf_O.ofR hf1⟩
  · have h14 : pg_tm S.2 - 1 = 0 := by
      have h5 : nI (pg_tm S.2 - 1) = nI 0 := (by simpa using h14 : nI (pg_tm S.2 - 1) = 0)
      rwa [nI_eq (by omega) (by omega)] at h5
    have e1 : pg_clk r S = pg_beg r (S.1, pg_u S.2 5 0 (pg_tm S.2 - 1)) (pg_vw S.2 + 1) := by
      unfold pg_clk
      rw [if_pos (by omega), h14]
    rw [e1]
    refine xj_aload_n C a_R_stepClock_17 rfl ?_
    refine xj_aload_n C a_R_stepClock_18 rfl ?_
    refine xn_g_R_view C a_R_stepClock_19 fl_R_31 (by first | assumption | omega) ?_
    refine xj_topi (hR1.1.vw.trans (show _ = nI (pg_vw S.2) from rfl)) ?_
    refine xj_iconst (v := nI 1) C a_R_stepClock_22 (by decide) ?_
    refine xj_iadd C a_R_stepClock_23 ?_
    refine xj_topi (nI_add _ 1) ?_
    refine xj_callV1 C a_R_stepClock_24 (c_R_begin _ _ _ r hr _ hR1 (pg_fld_num hN (by omega)) (hB.R hf1) hz (pg_vw S.2 + 1) hw) mv_R_begin lk_R_174 ⟨rfl, rfl, rfl⟩ (xj_ok11 (by first | assumption | omega)) ⟨by decide, by decide⟩ rfl (Nat.le_of_ble_eq_true rfl) ⟨Nat.le_refl _, Nat.le_refl _⟩ (fun a' w' h => ?_)
    obtain ⟨rfl, v', rfl, h1, h2, h3⟩ := h
    refine xj_vret C a_R_stepClock_27 ?_
    exact ⟨rfl, v', rfl, h1, h2, (xf_O.ofR hf1).tr h3⟩
/-- noted VIEW-CHANGEs are for the views 1 to 15 -/
def pg_vb (S : pg_S) : Prop := ∀ i, i < S.1.1 → pg_no S.2 i = 1 → pg_k S.1 i = 5 → ∃ w, 1 ≤ w ∧ w ≤ 15 ∧ pg_a S.1 i = nI w
/-- own ones are not for a later view -/
def pg_vo (r : Nat) (S : pg_S) : Prop := ∀ i, i < S.1.1 → pg_no S.2 i = 1 → pg_k S.1 i = 5 → pg_f S.1 i = r → ¬ nI (pg_vw S.2) < pg_a S.1 i
/-- noted PREPAREs and COMMITs are not for a later view -/
def pg_nw (S : pg_S) : Prop := ∀ i, pg_no S.2 i = 1 → (pg_k S.1 i = 2 ∨ pg_k S.1 i = 3) → ∃ w, w ≤ pg_vw S.2 ∧ pg_a S.1 i = nI w
theorem pg_nw.fre {S : pg_S} (h : pg_nw S) (hN : pg_num S.2) {w : Nat} (hw : pg_vw S.2 < w) (hw2 : w < 100) : pg_fre S w := by
  intro i h1 h2 h3
  obtain ⟨u, h4, h5⟩ := h i h1 h2
  have := hN.1
  rw [h5, nI_eq (by omega) (by omega)] at h3
  omega
def xp_jp (S : pg_S) (s : Nat) : Bool := match pg_lvc S s with
  | some x => decide (nI (pg_vw S.2) < pg_a S.1 x)
  | none => false
def xp_jw (S : pg_S) (s : Nat) : Nat := match pg_lvc S s with
  | some x => (pg_a S.1 x).toInt.toNat
  | none => 99
def xp_jl (S : pg_S) : Nat → Nat
  | 0 => 15
  | s + 1 => if xp_jp S s then min (xp_jl S s) (xp_jw S s) else xp_jl S s
theorem pg_vcs_mem (S : pg_S) (i : Nat) : i ∈ pg_vcs S ↔ (i < S.1.1 ∧ pg_no S.2 i = 1 ∧ pg_k S.1 i = 5 ∧ nI (pg_vw S.2) < pg_a S.1 i) := by
  unfold pg_vcs
  rw [List.mem_filter, List.mem_range]
  simp only [Bool.and_eq_true, beq_iff_eq, decide_eq_true_eq]
theorem pg_vcs_lvc {r : Nat} {S : pg_S} (hu : pg_vcu r S) (ho : pg_vo r S) {i : Nat} (h : i ∈ pg_vcs S) : pg_lvc S (pg_f S.1 i) = some i := by
  obtain ⟨h1, h2, h3, h4⟩ := (pg_vcs_mem S i).mp h
  have hr : pg_f S.1 i ≠ r := fun e => ho i h1 h2 h3 e h4
  exact pg_lvc_is h1 ⟨h2, h3, rfl⟩ (fun y y1 y2 y3 y4 => by
    have := hu i y h2 y2 h3 y3 y4.symm hr
    omega)
theorem pg_lvc_vcs {S : pg_S} {s x : Nat} (h : pg_lvc S s = some x) (h2 : nI (pg_vw S.2) < pg_a S.1 x) : x ∈ pg_vcs S ∧ pg_f S.1 x = s := by
  obtain ⟨a1, a2, a3, a4⟩ := pg_lvc_some h
  exact ⟨(pg_vcs_mem S x).mpr ⟨a1, a2, a3, h2⟩, a4⟩
theorem xp_jp_iff {S : pg_S} {s : Nat} : xp_jp S s = true ↔ ∃ x, pg_lvc S s = some x ∧ nI (pg_vw S.2) < pg_a S.1 x := by
  unfold xp_jp
  cases pg_lvc S s with
  | none => simp
  | some x => simp
theorem pg_vcs_len {r : Nat} {S : pg_S} (hf : pg_wf S.1) (hu : pg_vcu r S) (ho : pg_vo r S) : xp_c (xp_jp S) 4 = (pg_vcs S).length := by
  have e : (pg_vcs S).length = ((pg_vcs S).map (pg_f S.1)).length := by rw [List.length_map]
  rw [e]
  unfold xp_c
  apply List.Perm.length_eq
  rw [List.perm_ext_iff_of_nodup (List.nodup_range.filter _)]
  · intro s
    rw [List.mem_filter, List.mem_range, List.mem_map, xp_jp_iff]
    constructor
    · rintro ⟨-, x, h1, h2⟩
      exact ⟨x, pg_lvc_vcs h1 h2⟩
    · rintro ⟨x, h1, rfl⟩
      have h3 := (pg_vcs_mem S x).mp h1
      exact ⟨pg_wf4 hf h3.1 (by omega), x, pg_vcs_lvc hu ho h1, h3.2.2.2⟩
  · have hn : (pg_vcs S).Nodup := List.nodup_range.filter _
    rw [List.Nodup, List.pairwise_map]
    refine List.Pairwise.imp_of_mem ?_ hn
    intro a b ha hb hab hfab
    apply hab
    have h1 := pg_vcs_lvc hu ho ha
    have h2 := pg_vcs_lvc hu ho hb
    rw [hfab, h2] at h1
    injection h1 with h1
    exact h1.symm
theorem xp_fmin (f : Nat → Nat) : ∀ (l : List Nat) (d : Nat), l.foldl (fun m i => min m (f i)) d ≤ d ∧ (∀ i, i ∈ l → l.foldl (fun m i => min m (f i)) d ≤ f i) ∧ (l.foldl (fun m i => min m (f i)) d = d ∨ ∃ i, i ∈ l ∧ l.foldl (fun m i => min m (f i)) d = f i)
  | [], d => ⟨Nat.le_refl _, fun i hi => (by cases hi), Or.inl rfl⟩
  | a :: l, d => by
    obtain ⟨h1, h2, h3⟩ := xp_fmin f l (min d (f a))
    rw [List.foldl_cons]
    refine ⟨by omega, fun i hi => ?_, ?_⟩
    · rcases List.mem_cons.mp hi with rfl | hi
      · omega
      · exact h2 i hi
    · rcases h3 with h3 | ⟨i, hi, h3⟩
      · rcases (show min d (f a) = d ∨ min d (f a) = f a by omega) with e | e
        · exact Or.inl (by omega)
        · exact Or.inr ⟨a, List.mem_cons_self, by omega⟩
      · exact Or.inr ⟨i, List.mem_cons_of_mem _ hi, h3⟩
theorem xp_jl_min (S : pg_S) : ∀ n, xp_jl S n ≤ 15 ∧ (∀ s, s < n → xp_jp S s = true → xp_jl S n ≤ xp_jw S s) ∧ (xp_jl S n = 15 ∨ ∃ s, s < n ∧ xp_jp S s = true ∧ xp_jl S n = xp_jw S s)
  | 0 => ⟨Nat.le_refl _, fun s hs => absurd hs (Nat.not_lt_zero s), Or.inl rfl⟩
  | n + 1 => by
    obtain ⟨h1, h2, h3⟩ := xp_jl_min S n
    have e : xp_jl S (n + 1) = if xp_jp S n then min (xp_jl S n) (xp_jw S n) else xp_jl S n := rfl
    rw [e]
    by_cases hp : xp_jp S n = true
    · rw [if_pos hp]
      refine ⟨by omega, fun s hs hps => ?_, ?_⟩
      · by_cases e : s = n
        · subst e; omega
        · have := h2 s (by omega) hps; omega
      · rcases (show min (xp_jl S n) (xp_jw S n) = xp_jl S n ∨ min (xp_jl S n) (xp_jw S n) = xp_jw S n by omega) with e | e
        · rcases h3 with h3 | ⟨s, s1, s2, s3⟩
          · exact Or.inl (by omega)
          · exact Or.inr ⟨s, by omega, s2, by omega⟩
        · exact Or.inr ⟨n, by omega, hp, e⟩
    · rw [if_neg hp]
      refine ⟨h1, fun s hs hps => ?_, ?_⟩
      · by_cases e : s = n
        · subst e; exact absurd hps hp
        · exact h2 s (by omega) hps
      · rcases h3 with h3 | ⟨s, s1, s2, s3⟩
        · exact Or.inl h3
        · exact Or.inr ⟨s, by omega, s2, s3⟩
theorem pg_vcs_min {r : Nat} {S : pg_S} (hf : pg_wf S.1) (hu : pg_vcu r S) (ho : pg_vo r S) (hb : pg_vb S) (hl : 2 ≤ (pg_vcs S).length) : xp_jl S 4 = (pg_vcs S).foldl (fun l i => min l (pg_a S.1 i).toInt.toNat) 99 := by
  obtain ⟨m1, m2, m3⟩ := xp_fmin (fun i => (pg_a S.1 i).toInt.toNat) (pg_vcs S) 99
  obtain ⟨l1, l2, l3⟩ := xp_jl_min S 4
  have hw : ∀ i, i ∈ pg_vcs S → (pg_a S.1 i).toInt.toNat ≤ 15 ∧ pg_f S.1 i < 4 ∧ xp_jp S (pg_f S.1 i) = true ∧ xp_jw S (pg_f S.1 i) = (pg_a S.1 i).toInt.toNat := by
    intro i hi
    have h1 := pg_vcs_lvc hu ho hi
    have h2 := (pg_vcs_mem S i).mp hi
    obtain ⟨w, w1, w2, w3⟩ := hb i h2.1 h2.2.1 h2.2.2.1
    refine ⟨by rw [w3, nI_toInt (by omega)]; omega, pg_wf4 hf h2.1 (by omega), xp_jp_iff.mpr ⟨i, h1, h2.2.2.2⟩, ?_⟩
    unfold xp_jw
    rw [h1]
  have hs : ∀ s, xp_jp S s = true → ∃ i, i ∈ pg_vcs S ∧ xp_jw S s = (pg_a S.1 i).toInt.toNat := by
    intro s h
    obtain ⟨x, x1, x2⟩ := xp_jp_iff.mp h
    refine ⟨x, (pg_lvc_vcs x1 x2).1, ?_⟩
    unfold xp_jw
    rw [x1]
  have hne : ∃ i, i ∈ pg_vcs S := by
    cases e : pg_vcs S with
    | nil => rw [e] at hl; simp at hl
    | cons a t => exact ⟨a, List.mem_cons_self⟩
  obtain ⟨i0, hi0⟩ := hne
  have h15 := m2 i0 hi0
  have h16 := (hw i0 hi0).1
  apply Nat.le_antisymm
  · rcases m3 with m3 | ⟨i, i1, i2⟩
    · omega
    · rw [i2, ← (hw i i1).2.2.2]
      exact l2 _ (hw i i1).2.1 (hw i i1).2.2.1
  · rcases l3 with l3 | ⟨s, s1, s2, s3⟩
    · omega
    · obtain ⟨i, i1, i2⟩ := hs s s2
      rw [s3, i2]
      exact m2 i i1
theorem xp_one {x : Nat} (h : x < 2 ^ 31) : ¬ nI x = -2 := by
  intro e
  have h1 := nI_toInt h
  rw [e] at h1
  have h2 : (-2 : Int32).toInt = -2 := by decide
  rw [h2] at h1
  omega
theorem c_R_joinChange (l : Launch) (G : xj_G) (v : xn_V) (r : Nat) (hr : r < 4) (S : pg_S) (hR : xc_R r S v) (hN : pg_num S.2) (hB : xc_B S.1 v) (hu : pg_vcu r S) (ho : pg_vo r S) (hb : pg_vb S) (hnw : pg_nw S) (hz : S.1.1 < 256) : xj_Mx l G 3 66 0 0 m_R_joinChange [.ref (xj_ad G (11, r, 0))] (xn_W v) (xp_rl r v (pg_r6 r S)) := by
  have hF := hR.1
  have hvw := hN.1
  have hV := hR.2.2.2.1
  have hlen := pg_vcs_len hB.2.2.1 hu ho
  refine xj_Mx_of (by decide) (Nat.le_of_ble_eq_true rfl) (fun E hE C _ => ?_)
  subst hE
  replace C : xj_C E G prog_5_method_27_code "ThreePhaseGroup$Replica" 4 3 66 0 0 (some .boolean) := C
  show xn_X E G _ 0 0 0 [some (.ref (xj_ad G (11, r, 0))), none, none, none] [] v
  refine xj_iconst (v := nI 0) C a_R_joinChange_0 (by decide) ?_
  refine xj_istore1 C a_R_joinChange_1 rfl ?_
  refine xj_bipush (v := nI 15) C a_R_joinChange_2 (by decide) ?_
  refine xj_istore2 C a_R_joinChange_4 rfl ?_
  refine xj_iconst (v := nI 0) C a_R_joinChange_5 (by decide) ?_
  refine xj_istore3 C a_R_joinChange_6 rfl ?_
  have loop : ∀ n s : Nat, s ≤ 4 → 4 - s < n → xn_X E G (xj_R E G (xp_rl r v (pg_r6 r S)) 0 0) 0 0 7 [some (.ref (xj_ad G (11, r, 0))), some (.int (nI (xp_c (xp_jp S) s))), some (.int (nI (xp_jl S s))), some (.int (nI s))] [] v := by
    intro n
    induction n with
    | zero => intro s _ h; omega
    | succ n ih =>
      intro s hs hn
      have hc := xp_c_le (xp_jp S) s
      have hj := (xp_jl_min S s).1
      refine xj_iload_n C a_R_joinChange_7 rfl ?_
      refine xj_iconst (v := nI 4) C a_R_joinChange_8 (by decide) ?_
      refine xj_icmp_ge C a_R_joinChange_9 rfl (fun h9 => ?_) (fun h9 => ?_)
      · rw [nI_leI (by omega) (by omega)] at h9
        have : s = 4 := by omega
        subst this
        refine xj_iload_n C a_R_joinChange_72 rfl ?_
        refine xj_iconst (v := nI 2) C a_R_joinChange_73 (by decide) ?_
        refine xj_icmp_ge C a_R_joinChange_74 rfl (fun h74 => ?_) (fun h74 => ?_)
        · rw [nI_leI (by omega) (by omega), hlen] at h74
          have e : pg_r6 r S = some (pg_beg r S (xp_jl S 4)) := by
            unfold pg_r6
            rw [if_neg (by omega), pg_vcs_min hB.2.2.1 hu ho hb h74]
          have hgt : pg_vw S.2 < xp_jl S 4 := by
            rcases (xp_jl_min S 4).2.2 with e | ⟨s, s1, s2, s3⟩
            · obtain ⟨i0, hi0⟩ : ∃ i, i ∈ pg_vcs S := by
                cases e : pg_vcs S with
                | nil => rw [e] at h74; simp at h74
                | cons a t => exact ⟨a, List.mem_cons_self⟩
              obtain ⟨q1, q2, q3, q4⟩ := (pg_vcs_mem S i0).mp hi0
              obtain ⟨w, w1, w2, w3⟩ := hb i0 q1 q2 q3
              rw [w3, nI_ltI (by omega) (by omega)] at q4
              omega
            · obtain ⟨x, x1, x2⟩ := xp_jp_iff.mp s2
              have q := pg_lvc_some x1
              obtain ⟨w, w1, w2, w3⟩ := hb x q.1 q.2.1 q.2.2.1
              have : xp_jw S s = w := by
                unfold xp_jw
                rw [x1]
                show (pg_a S.1 x).toInt.toNat = w
                rw [w3, nI_toInt (by omega)]
                rfl
              rw [w3, nI_ltI (by omega) (by omega)] at x2
              omega
          rw [e]
          refine xj_aload_n C a_R_joinChange_79 rfl ?_
          refine xj_iload_n C a_R_joinChange_80 rfl ?_
          refine xj_callV1 C a_R_joinChange_81 (c_R_begin _ _ v r hr S hR hN hB hz (xp_jl S 4) (hnw.fre hN hgt (by omega))) mv_R_begin lk_R_174 ⟨rfl, rfl, rfl⟩ (xj_ok11 (by first | assumption | omega)) ⟨by decide, by decide⟩ rfl (Nat.le_of_ble_eq_true rfl) ⟨Nat.le_refl _, Nat.le_refl _⟩ (fun a' w' h => ?_)
          obtain ⟨rfl, v', rfl, h1⟩ := h
          refine xj_iconst (v := nI 1) C a_R_joinChange_84 (by decide) ?_
          exact xj_zret C a_R_joinChange_85 rfl ⟨rfl, v', rfl, h1⟩
        · rw [nI_leI (by omega) (by omega), hlen] at h74
          have e : pg_r6 r S = none := by
            unfold pg_r6
            rw [if_pos (by omega)]
          rw [e]
          refine xj_iconst (v := nI 0) C a_R_joinChange_77 (by decide) ?_
          exact xj_zret C a_R_joinChange_78 rfl ⟨rfl, rfl⟩
      · rw [nI_leI (by omega) (by omega)] at h9
        have skip : xp_jp S s = false → xn_X E G (xj_R E G (xp_rl r v (pg_r6 r S)) 0 0) 0 0 66 [some (.ref (xj_ad G (11, r, 0))), some (.int (nI (xp_c (xp_jp S) s))), some (.int (nI (xp_jl S s))), some (.int (nI s))] [] v := by
          intro h
          have e1 : xp_c (xp_jp S) (s + 1) = xp_c (xp_jp S) s := by rw [xp_c_s, h]; rfl
          have e2 : xp_jl S (s + 1) = xp_jl S s := by
            show (if xp_jp S s = true then _ else _) = _
            rw [h]; rfl
          have := ih (s + 1) (by omega) (by omega)
          rw [e1, e2] at this
          refine xj_iincN3 C a_R_joinChange_66 rfl ?_
          refine xj_goto C a_R_joinChange_69 rfl ?_
          exact this
        refine xj_aload_n C a_R_joinChange_12 rfl ?_
        refine xn_g_R_viewChanges C a_R_joinChange_13 fl_R_27 (by first | assumption | omega) ?_
        refine xj_iload_n C a_R_joinChange_16 rfl ?_
        refine xn_ld_18 C a_R_joinChange_17 (by first | assumption | omega) (by first | assumption | omega) ?_
        refine xj_topi (hV s (by omega)) ?_
        refine xj_bipush (v := -2) C a_R_joinChange_18 (by decide) ?_
        cases el : pg_lvc S s with
        | none =>
          refine xj_icmp_eq C a_R_joinChange_20 rfl (fun h20 => ?_) (fun h20 => absurd rfl h20)
          exact skip (by unfold xp_jp; rw [el])
        | some x =>
          have q := pg_lvc_some el
          have hz2 := hB.2.1
          obtain ⟨w, w1, w2, w3⟩ := hb x q.1 q.2.1 q.2.2.1
          refine xj_icmp_eq C a_R_joinChange_20 rfl (fun h20 => absurd h20 (xp_one (by omega))) (fun h20 => ?_)
          refine xj_aload_n C a_R_joinChange_23 rfl ?_
          refine xn_g_R_board C a_R_joinChange_24 fl_R_61 (by first | assumption | omega) ?_
          refine xn_g_B_a C a_R_joinChange_27 fl_R_81 ?_
          refine xj_aload_n C a_R_joinChange_30 rfl ?_
          refine xn_g_R_viewChanges C a_R_joinChange_31 fl_R_27 (by first | assumption | omega) ?_
          refine xj_iload_n C a_R_joinChange_34 rfl ?_
          refine xn_ld_18 C a_R_joinChange_35 (by first | assumption | omega) (by first | assumption | omega) ?_
          refine xj_topi (y := nI x) ((hV s (by omega)).trans (by rw [el]; rfl)) ?_
          refine xn_ld_4 C a_R_joinChange_36 (by first | assumption | omega) ?_
          refine xj_topi ((hB.a q.1).trans w3) ?_
          refine xj_aload_n C a_R_joinChange_37 rfl ?_
          refine xn_g_R_view C a_R_joinChange_38 fl_R_31 (by first | assumption | omega) ?_
          refine xj_topi hF.vw ?_
          refine xj_icmp_le C a_R_joinChange_41 rfl (fun h41 => ?_) (fun h41 => ?_)
          · rw [nI_leI (by omega) (by omega)] at h41
            exact skip (by unfold xp_jp; rw [el]; exact decide_eq_false (by rw [w3, nI_ltI (by omega) (by omega)]; omega))
          · rw [nI_leI (by omega) (by omega)] at h41
            have hp : xp_jp S s = true := by unfold xp_jp; rw [el]; exact decide_eq_true (by rw [w3, nI_ltI (by omega) (by omega)]; omega)
            have hjw : xp_jw S s = w := by
              unfold xp_jw
              rw [el]
              show (pg_a S.1 x).toInt.toNat = w
              rw [w3, nI_toInt (by omega)]
              rfl
            have e1 : xp_c (xp_jp S) (s + 1) = xp_c (xp_jp S) s + 1 := by rw [xp_c_s, hp]; rfl
            have e2 : xp_jl S (s + 1) = min (xp_jl S s) w := by
              show (if xp_jp S s = true then _ else _) = _
              rw [if_pos hp, hjw]
            have := ih (s + 1) (by omega) (by omega)
            rw [e1, e2] at this
            refine xj_iincN1 C a_R_joinChange_44 rfl ?_
            refine xj_iload_n C a_R_joinChange_47 rfl ?_
            refine xj_aload_n C a_R_joinChange_48 rfl ?_
            refine xn_g_R_board C a_R_joinChange_49 fl_R_61 (by first | assumption | omega) ?_
            refine xn_g_B_a C a_R_joinChange_52 fl_R_81 ?_
            refine xj_aload_n C a_R_joinChange_55 rfl ?_
            refine xn_g_R_viewChanges C a_R_joinChange_56 fl_R_27 (by first | assumption | omega) ?_
            refine xj_iload_n C a_R_joinChange_59 rfl ?_
            refine xn_ld_18 C a_R_joinChange_60 (by first | assumption | omega) (by first | assumption | omega) ?_
            refine xj_topi (y := nI x) ((hV s (by omega)).trans (by rw [el]; rfl)) ?_
            refine xn_ld_4 C a_R_joinChange_61 (by first | assumption | omega) ?_
            refine xj_topi ((hB.a q.1).trans w3) ?_
            refine xn_callS2i C a_R_joinChange_62 (c_JM_min _ _ v (xp_jl S s) w (by omega) (by omega)) ms_JM_min lk_R_259 ⟨by decide, by decide⟩ rfl (Nat.le_of_ble_eq_true rfl) ⟨Nat.le_refl _, Nat.le_refl _⟩ ?_
            refine xj_istore2 C a_R_joinChange_65 rfl ?_
            refine xj_iincN3 C a_R_joinChange_66 rfl ?_
            refine xj_goto C a_R_joinChange_69 rfl ?_
            exact this
  exact loop 5 0 (by omega) (by omega)
theorem c_R_setTimer (l : Launch) (G : xj_G) (v : xn_V) (r : Nat) (hr : r < 4) (S : pg_S) (hR : xc_R r S v) (hN : pg_num S.2) (hB : xc_B S.1 v) (hK : pg_kno S) : xj_Mx l G 3 66 0 0 m_R_setTimer [.ref (xj_ad G (11, r, 0))] (xn_W v) (fun a' w' => a' = none ∧ ∃ v', w' = xn_W v' ∧ xc_R r (S.1, pg_u (pg_tmr S) 11 0 0) v' ∧ xf_R r v v') := by
  have hF := hR.1
  obtain ⟨hvw, hch, hh, he, htm, hsp, haf, -⟩ := hN
  obtain ⟨kl, hL, hkl⟩ := hR.2.1
  have hwn : pg_wn S ≤ 256 := by
    unfold pg_wn
    have h1 := List.length_filter_le (pg_wt S) (List.range S.1.1)
    rw [List.length_range] at h1
    have := hB.2.1
    omega
  have nz : ∀ x : Nat, x < 2 ^ 31 → (nI x = 0 ↔ x = 0) := fun x hx => by
    constructor
    · intro e
      have e : nI x = nI 0 := e
      rwa [nI_eq hx (by omega)] at e
    · rintro rfl; rfl
  refine xj_Mx_of (by decide) (Nat.le_of_ble_eq_true rfl) (fun E hE C _ => ?_)
  subst hE
  replace C : xj_C E G prog_5_method_19_code "ThreePhaseGroup$Replica" 1 3 66 0 0 none := C
  show xn_X E G _ 0 0 0 [some (.ref (xj_ad G (11, r, 0)))] [] v
  have fin : ∀ (R1 : pg_R) (v1 : xn_V), xc_R r (S.1, R1) v1 → xf_R r v v1 → R1 = pg_tmr S → xn_X E G (xj_R E G (fun a' w' => a' = none ∧ ∃ v', w' = xn_W v' ∧ xc_R r (S.1, pg_u (pg_tmr S) 11 0 0) v' ∧ xf_R r v v') 0 0) 0 0 53 [some (.ref (xj_ad G (11, r, 0)))] [] v1 := by
    rintro R1 v1 h1 h2 rfl
    refine xj_aload_n C a_R_setTimer_53 rfl ?_
    refine xj_iconst (v := nI 0) C a_R_setTimer_54 (by decide) ?_
    refine xn_p_R_renewing C a_R_setTimer_55 fl_R_55 (by first | assumption | omega) (by decide) ?_
    refine xj_vret C a_R_setTimer_58 ?_
    exact ⟨rfl, _, rfl, h1.fld (t := 11) (x := 13) (y := 0) (by omega), h2.uI (by omega)⟩
  have z0 : pg_vw S.2 = 15 ∨ (pg_ch S.2 = 0 ∧ pg_wn S = 0) → xn_X E G (xj_R E G (fun a' w' => a' = none ∧ ∃ v', w' = xn_W v' ∧ xc_R r (S.1, pg_u (pg_tmr S) 11 0 0) v' ∧ xf_R r v v') 0 0) 0 0 23 [some (.ref (xj_ad G (11, r, 0)))] [] v := by
    intro h
    refine xj_aload_n C a_R_setTimer_23 rfl ?_
    refine xj_iconst (v := nI 0) C a_R_setTimer_24 (by decide) ?_
    refine xn_p_R_timer C a_R_setTimer_25 fl_R_49 (by first | assumption | omega) ?_
    refine xj_goto C a_R_setTimer_28 rfl ?_
    refine fin _ _ (hR.fld (t := 5) (x := 11) (y := 0) (by omega)) ((xf_R.rf r v).uI (by omega)) ?_
    unfold pg_tmr
    rw [if_pos h]
  have z1 : ¬ (pg_vw S.2 = 15 ∨ (pg_ch S.2 = 0 ∧ pg_wn S = 0)) → xn_X E G (xj_R E G (fun a' w' => a' = none ∧ ∃ v', w' = xn_W v' ∧ xc_R r (S.1, pg_u (pg_tmr S) 11 0 0) v' ∧ xf_R r v v') 0 0) 0 0 31 [some (.ref (xj_ad G (11, r, 0)))] [] v := by
    intro h
    have z2 : pg_tm S.2 = 0 ∨ pg_af S.2 = 1 → xn_X E G (xj_R E G (fun a' w' => a' = none ∧ ∃ v', w' = xn_W v' ∧ xc_R r (S.1, pg_u (pg_tmr S) 11 0 0) v' ∧ xf_R r v v') 0 0) 0 0 45 [some (.ref (xj_ad G (11, r, 0)))] [] v := by
      intro h2
      refine xj_aload_n C a_R_setTimer_45 rfl ?_
      refine xj_aload_n C a_R_setTimer_46 rfl ?_
      refine xn_g_R_span C a_R_setTimer_47 fl_R_52 (by first | assumption | omega) ?_
      refine xj_topi hF.sp ?_
      refine xn_p_R_timer C a_R_setTimer_50 fl_R_49 (by first | assumption | omega) ?_
      refine fin _ _ (hR.fld (t := 5) (x := 11) (y := pg_sp S.2) (by omega)) ((xf_R.rf r v).uI (by omega)) ?_
      unfold pg_tmr
      rw [if_neg h, if_pos h2]
    refine xj_aload_n C a_R_setTimer_31 rfl ?_
    refine xn_g_R_timer C a_R_setTimer_32 fl_R_49 (by first | assumption | omega) ?_
    refine xj_topi hF.tm ?_
    refine xj_if_eq C a_R_setTimer_35 rfl (fun h35 => ?_) (fun h35 => ?_)
    · rw [nz _ (by omega)] at h35
      exact z2 (Or.inl h35)
    · rw [nz _ (by omega)] at h35
      refine xj_aload_n C a_R_setTimer_38 rfl ?_
      refine xn_g_R_renewing C a_R_setTimer_39 fl_R_55 (by first | assumption | omega) ?_
      refine xj_topi hF.af ?_
      refine xj_if_eq C a_R_setTimer_42 rfl (fun h42 => ?_) (fun h42 => ?_)
      · rw [nz _ (by omega)] at h42
        refine fin S.2 v hR (xf_R.rf r v) ?_
        unfold pg_tmr
        rw [if_neg h, if_neg (by omega)]
      · rw [nz _ (by omega)] at h42
        exact z2 (Or.inr (by omega))
  refine xj_aload_n C a_R_setTimer_0 rfl ?_
  refine xn_g_R_view C a_R_setTimer_1 fl_R_31 (by first | assumption | omega) ?_
  refine xj_topi hF.vw ?_
  refine xj_bipush (v := nI 15) C a_R_setTimer_4 (by decide) ?_
  refine xj_icmp_eq C a_R_setTimer_6 rfl (fun h6 => ?_) (fun h6 => ?_)
  · rw [nI_eq (by omega) (by omega)] at h6
    exact z0 (Or.inl h6)
  · rw [nI_eq (by omega) (by omega)] at h6
    refine xj_aload_n C a_R_setTimer_9 rfl ?_
    refine xn_g_R_changing C a_R_setTimer_10 fl_R_35 (by first | assumption | omega) ?_
    refine xj_topi hF.ch ?_
    refine xj_if_ne C a_R_setTimer_13 rfl (fun h13 => ?_) (fun h13 => ?_)
    · rw [nz _ (by omega)] at h13
      exact z1 (by omega)
    · rw [nz _ (by omega)] at h13
      have h13 : pg_ch S.2 = 0 := by simpa using h13
      refine xj_aload_n C a_R_setTimer_16 rfl ?_
      refine xn_callV0i C a_R_setTimer_17 (c_R_countWaiting _ _ v r hr S hF hB kl hL hkl hK) mv_R_countWaiting lk_R_206 ⟨rfl, rfl, rfl⟩ (xj_ok11 (by first | assumption | omega)) ⟨by decide, by decide⟩ rfl (Nat.le_of_ble_eq_true rfl) ⟨Nat.le_refl _, Nat.le_refl _⟩ ?_
      refine xj_if_ne C a_R_setTimer_20 rfl (fun h20 => ?_) (fun h20 => ?_)
      · rw [nz _ (by omega)] at h20
        exact z1 (by omega)
      · rw [nz _ (by omega)] at h20
        exact z0 (Or.inr ⟨h13, by simpa using h20⟩)
